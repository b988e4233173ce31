set_option maxHeartbeats 4000000 in
set_option maxRecDepth 100000 in
theorem law_c0 {p : Program} {l : Launch} {e : Env} {s : State} {m : MethodId} {below : List Frame} {meth : Method} {c : Code} (hst : l.stackTraces = false) {b L : Nat} {xs : Nat → Int32} (C0 : lw_At p s m meth c b L xs) {D : va_G} {cy : Nat → ClassId} {ad am : Nat → Nat} {qo qd : Nat} (hK : va_K D vwCl (gT cy ++ []) s) (hE : gX (lA s) s) {rec : PS → PS → (Nat → Int64) → (Nat → UInt64) → Int32 → Option Int32} {kc ks : Nat} (hkc : kc + 5 ≤ 601024) (hks : ks + 80 ≤ 7293034) (K : lw_K p l e s m below meth c b D cy ad am qo qd rec (kc + 5) (ks + 80)) (S M : PS) (ov : Nat → Int64) (dv : Nat → UInt64) (x5 : Int32) (H : Heap) (locs : List Loc) (ls : Array Slot) (hP : va_P D vwCl (wL cy ad am qo qd S M ov dv) H) (hD : va_D (lA s) (wL cy ad am qo qd S M ov dv)) (hS : va_S (lA s) s.heap H locs) (hl : lv_has ls 9 [(0, .ref b), (1, .ref (ad 0)), (2, .ref (am 0)), (3, .ref qo), (4, .ref qd), (5, .int x5)]) (h : q_law_c0 xs L rec S M ov dv x5 = some 1) : W p l e room_1 s m #[Value.ref b] below meth c H locs kc ks (lw_Z below #[Value.ref b] s) (F0 m 184 ls []) := by
  obtain ⟨hx, hb, hr, hml, hown, hts0, hX, hbl, hlocks, hgv⟩ := C0
  have hts : ∀ w ∈ wsL_law, w.before #[Value.ref b] s = true := fun w h => hts0 w (wsL_law_in w h)
  have hA : ∀ q : Nat, s.heap.size ≤ q → lA s q := fun _ h => h
  have hbA : ¬ lA s b := Nat.not_le.mpr hbl
  refine W.widen (k := kc + 0) (n := ks + 0) (Nat.le_refl _) (Nat.le_refl _) ?_
  unfold q_law_c0 at h
  refine lv_aload_n hx hb dL_law_184 rfl (lv_at hl 1 rfl) ?_
  refine lv_aload_n hx hb dL_law_185 rfl (lv_at hl 0 rfl) ?_
  refine lv_iload hx hb dL_law_186 (lv_at hl 5 rfl) ?_
  refine lv_iconst (v := 1) hx hb dL_law_188 (by decide) ?_
  refine lv_iadd hx hb dL_law_189 ?_
  obtain ⟨v1, ev1, h⟩ := o_bind h
  refine g_sld hx hb hX hbl hbA hS ev1 dL_law_190 ?_
  refine lv_aload_n hx hb dL_law_191 rfl (lv_at hl 3 rfl) ?_
  obtain ⟨⟨S3, o4, v2⟩, ev2, h⟩ := o_bind h
  refine g_cL (As := [.ref (ad 0), .int v1, .ref qo]) (rest := []) ⟨hx, hb, hml, hown, hts⟩ (m_L_addClass l hst D cy [] ad qo (dD cy qd dv :: mW cy am M []) _ S ov v1 S3 o4 v2 ev2) (vx_cwSW 3 hts gL_law_L_addClass rfl rfl rfl (by decide +kernel) ⟨(Nat.le_of_ble_eq_true rfl), (Nat.le_of_ble_eq_true rfl)⟩) hP hK hD hS hA hE rfl hl.1 rfl (Nat.le_of_ble_eq_true rfl) dL_law_192 ⟨(by show kc + 0 + 2 ≤ 601024; omega), (by show ks + 0 + 12 ≤ 7293034; omega)⟩ (fun H locs hP hD hS => ?_)
  have hP : va_P D vwCl (wL cy ad am qo qd S3 M o4 dv) H := hP
  have hD : va_D (lA s) (wL cy ad am qo qd S3 M o4 dv) := hD
  refine W.widen (k := kc + 2) (n := ks + 12) (by omega) (by omega) ?_
  refine lv_istore (lv' := [(6, .int v2), (0, .ref b), (1, .ref (ad 0)), (2, .ref (am 0)), (3, .ref qo), (4, .ref qd), (5, .int x5)]) hx hb dL_law_195 hl (by decide) rfl (fun ls hl => ?_)
  refine lv_aload_n hx hb dL_law_197 rfl (lv_at hl 3 rfl) ?_
  refine lv_aload_n hx hb dL_law_198 rfl (lv_at hl 1 rfl) ?_
  refine lv_iload hx hb dL_law_199 (lv_at hl 6 rfl) ?_
  refine lv_iconst (v := 1) hx hb dL_law_201 (by decide) ?_
  refine lv_iadd hx hb dL_law_202 ?_
  obtain ⟨v5, ev5, h⟩ := o_bind h
  refine g_sld hx hb hX hbl hbA hS ev5 dL_law_203 ?_
  have hP := wL_toCP hP
  have hD := wL_toCD hD
  obtain ⟨⟨M7, v6⟩, ev6, h⟩ := o_bind h
  refine g_cVi (As := [.int v5]) (rest := []) ⟨hx, hb, hml, hown, hts⟩ (m_X6_addClass l hst D cy [] am (oC cy qo o4 :: dD cy qd dv :: xW cy ad S3 []) _ M v5 M7 v6 ev6) (cwV 1 hts gL_law_X6_addClass rfl rfl rfl (by decide +kernel) ⟨(Nat.le_of_ble_eq_true rfl), (Nat.le_of_ble_eq_true rfl)⟩) (va_recv hK hP (ci := 6) (q0 := 0) rfl rfl) hP hK hD hS hA hE rfl hl.1 rfl (Nat.le_of_ble_eq_true rfl) dL_law_204 ⟨(by show kc + 2 + 0 ≤ 601024; omega), (by show ks + 12 + 0 ≤ 7293034; omega)⟩ (fun H locs hP hD hS => ?_)
  have hP := wL_ofCP hP
  have hD := wL_ofCD hD
  have hP : va_P D vwCl (wL cy ad am qo qd S3 M7 o4 dv) H := hP
  have hD : va_D (lA s) (wL cy ad am qo qd S3 M7 o4 dv) := hD
  refine W.widen (k := kc + 2) (n := ks + 12) (by omega) (by omega) ?_
  refine lv_istore (lv' := [(7, .int v6), (6, .int v2), (0, .ref b), (1, .ref (ad 0)), (2, .ref (am 0)), (3, .ref qo), (4, .ref qd), (5, .int x5)]) hx hb dL_law_207 hl (by decide) rfl (fun ls hl => ?_)
  refine lv_aload_n hx hb dL_law_209 rfl (lv_at hl 4 rfl) ?_
  have hP := wL_toCP hP
  have hD := wL_toCD hD
  obtain ⟨v8, ev8, h⟩ := o_bind h
  refine g_cVi (As := []) (rest := []) ⟨hx, hb, hml, hown, hts⟩ (m_X6_thrown l hst D cy [] am (oC cy qo o4 :: dD cy qd dv :: xW cy ad S3 []) _ M7  v8 ev8) (cwV 0 hts gL_law_X6_thrown rfl rfl rfl (by decide +kernel) ⟨(Nat.le_of_ble_eq_true rfl), (Nat.le_of_ble_eq_true rfl)⟩) (va_recv hK hP (ci := 6) (q0 := 0) rfl rfl) hP hK hD hS hA hE rfl hl.1 rfl (Nat.le_of_ble_eq_true rfl) dL_law_210 ⟨(by show kc + 2 + 0 ≤ 601024; omega), (by show ks + 12 + 0 ≤ 7293034; omega)⟩ (fun H locs hP hD hS => ?_)
  have hP := wL_ofCP hP
  have hD := wL_ofCD hD
  have hP : va_P D vwCl (wL cy ad am qo qd S3 M7 o4 dv) H := hP
  have hD : va_D (lA s) (wL cy ad am qo qd S3 M7 o4 dv) := hD
  refine W.widen (k := kc + 2) (n := ks + 12) (by omega) (by omega) ?_
  refine lv_iload hx hb dL_law_213 (lv_at hl 1 rfl) ?_
  refine lv_icmp_eq (tgt := 220) hx hb dL_law_215 (by decide) (fun hc => ?_) (fun hc => ?_)
  · have h := o_pos hc h
    refine lv_iload hx hb dL_law_220 (lv_at hl 1 rfl) ?_
    refine lv_if_ne (tgt := 237) hx hb dL_law_222 (by decide) (fun hc => ?_) (fun hc => ?_)
    · have h := o_neg hc h
      refine lv_goto (tgt := 1933) hx hb dL_law_237 (by decide) ?_
      refine lv_iinc (v := (x5 + 5)) (lv' := [(5, .int (x5 + 5)), (7, .int v6), (6, .int v2), (0, .ref b), (1, .ref (ad 0)), (2, .ref (am 0)), (3, .ref qo), (4, .ref qd)]) hx hb dL_law_1933 hl (k := 7) rfl rfl (by decide) rfl (fun ls hl => ?_)
      refine lv_goto (tgt := 28) hx hb dL_law_1936 (by decide) ?_
      refine W.widen (k := kc + 5) (n := ks + 80) (by omega) (by omega) ?_
      exact K S3 M7 o4 dv (x5 + 5) _ _ ls hP hD hS (lv_sub hl [3, 4, 5, 6, 7, 0] rfl) h
    · have h := o_pos hc h
      refine lv_aload_n hx hb dL_law_225 rfl (lv_at hl 5 rfl) ?_
      refine lv_iconst (v := 0) hx hb dL_law_226 (by decide) ?_
      obtain ⟨v9, ev9, h⟩ := o_bind h
      refine g_lald hx hb hK hP 25 33 rfl rfl ev9 dL_law_227 ?_
      refine lv_iload hx hb dL_law_228 (lv_at hl 0 rfl) ?_
      refine lv_i2l (v := ((v6 : Int32).toInt64)) hx hb dL_law_230 rfl ?_
      refine W.lcmp hx hb dL_law_231 ?_
      refine lv_if_eq (tgt := 237) hx hb dL_law_232 (by decide) (fun hc => ?_) (fun hc => ?_)
      · have h := o_pos hc h
        refine lv_goto (tgt := 1933) hx hb dL_law_237 (by decide) ?_
        refine lv_iinc (v := (x5 + 5)) (lv' := [(5, .int (x5 + 5)), (7, .int v6), (6, .int v2), (0, .ref b), (1, .ref (ad 0)), (2, .ref (am 0)), (3, .ref qo), (4, .ref qd)]) hx hb dL_law_1933 hl (k := 7) rfl rfl (by decide) rfl (fun ls hl => ?_)
        refine lv_goto (tgt := 28) hx hb dL_law_1936 (by decide) ?_
        refine W.widen (k := kc + 5) (n := ks + 80) (by omega) (by omega) ?_
        exact K S3 M7 o4 dv (x5 + 5) _ _ ls hP hD hS (lv_sub hl [3, 4, 5, 6, 7, 0] rfl) h
      · have h := o_neg hc h
        refine lv_iconst (v := 0) hx hb dL_law_235 (by decide) ?_
        exact absurd (Option.some.inj h) (by decide)
  · have h := o_neg hc h
    refine lv_iconst (v := 0) hx hb dL_law_218 (by decide) ?_
    exact absurd (Option.some.inj h) (by decide)
set_option maxHeartbeats 4000000 in
set_option maxRecDepth 100000 in
theorem law_c1 {p : Program} {l : Launch} {e : Env} {s : State} {m : MethodId} {below : List Frame} {meth : Method} {c : Code} (hst : l.stackTraces = false) {b L : Nat} {xs : Nat → Int32} (C0 : lw_At p s m meth c b L xs) {D : va_G} {cy : Nat → ClassId} {ad am : Nat → Nat} {qo qd : Nat} (hK : va_K D vwCl (gT cy ++ []) s) (hE : gX (lA s) s) {rec : PS → PS → (Nat → Int64) → (Nat → UInt64) → Int32 → Option Int32} {kc ks : Nat} (hkc : kc + 5 ≤ 601024) (hks : ks + 80 ≤ 7293034) (K : lw_K p l e s m below meth c b D cy ad am qo qd rec (kc + 5) (ks + 80)) (S M : PS) (ov : Nat → Int64) (dv : Nat → UInt64) (x5 : Int32) (H : Heap) (locs : List Loc) (ls : Array Slot) (hP : va_P D vwCl (wL cy ad am qo qd S M ov dv) H) (hD : va_D (lA s) (wL cy ad am qo qd S M ov dv)) (hS : va_S (lA s) s.heap H locs) (hl : lv_has ls 9 [(0, .ref b), (1, .ref (ad 0)), (2, .ref (am 0)), (3, .ref qo), (4, .ref qd), (5, .int x5)]) (h : q_law_c1 xs L rec S M ov dv x5 = some 1) : W p l e room_1 s m #[Value.ref b] below meth c H locs kc ks (lw_Z below #[Value.ref b] s) (F0 m 240 ls []) := by
  obtain ⟨hx, hb, hr, hml, hown, hts0, hX, hbl, hlocks, hgv⟩ := C0
  have hts : ∀ w ∈ wsL_law, w.before #[Value.ref b] s = true := fun w h => hts0 w (wsL_law_in w h)
  have hA : ∀ q : Nat, s.heap.size ≤ q → lA s q := fun _ h => h
  have hbA : ¬ lA s b := Nat.not_le.mpr hbl
  refine W.widen (k := kc + 0) (n := ks + 0) (Nat.le_refl _) (Nat.le_refl _) ?_
  unfold q_law_c1 at h
  refine lv_aload_n hx hb dL_law_240 rfl (lv_at hl 1 rfl) ?_
  refine lv_aload_n hx hb dL_law_241 rfl (lv_at hl 0 rfl) ?_
  refine lv_iload hx hb dL_law_242 (lv_at hl 5 rfl) ?_
  refine lv_iconst (v := 1) hx hb dL_law_244 (by decide) ?_
  refine lv_iadd hx hb dL_law_245 ?_
  obtain ⟨v1, ev1, h⟩ := o_bind h
  refine g_sld hx hb hX hbl hbA hS ev1 dL_law_246 ?_
  refine lv_aload_n hx hb dL_law_247 rfl (lv_at hl 0 rfl) ?_
  refine lv_iload hx hb dL_law_248 (lv_at hl 5 rfl) ?_
  refine lv_iconst (v := 2) hx hb dL_law_250 (by decide) ?_
  refine lv_iadd hx hb dL_law_251 ?_
  obtain ⟨v2, ev2, h⟩ := o_bind h
  refine g_sld hx hb hX hbl hbA hS ev2 dL_law_252 ?_
  refine lv_if_eq (tgt := 260) hx hb dL_law_253 (by decide) (fun hc => ?_) (fun hc => ?_)
  · have h := o_pos hc h
    refine lv_iconst (v := 0) hx hb dL_law_260 (by decide) ?_
    refine lv_aload_n hx hb dL_law_261 rfl (lv_at hl 3 rfl) ?_
    obtain ⟨⟨S4, o5, v3⟩, ev3, h⟩ := o_bind h
    refine g_cL (As := [.ref (ad 0), .int v1, .int 0, .ref qo]) (rest := []) ⟨hx, hb, hml, hown, hts⟩ (m_L_setLive l hst D cy [] ad qo (dD cy qd dv :: mW cy am M []) _ S ov v1 0 S4 o5 v3 ev3) (vx_cwSW 4 hts gL_law_L_setLive rfl rfl rfl (by decide +kernel) ⟨(Nat.le_of_ble_eq_true rfl), (Nat.le_of_ble_eq_true rfl)⟩) hP hK hD hS hA hE rfl hl.1 rfl (Nat.le_of_ble_eq_true rfl) dL_law_262 ⟨(by show kc + 0 + 1 ≤ 601024; omega), (by show ks + 0 + 6 ≤ 7293034; omega)⟩ (fun H locs hP hD hS => ?_)
    have hP : va_P D vwCl (wL cy ad am qo qd S4 M o5 dv) H := hP
    have hD : va_D (lA s) (wL cy ad am qo qd S4 M o5 dv) := hD
    refine W.widen (k := kc + 1) (n := ks + 6) (by omega) (by omega) ?_
    refine lv_istore (lv' := [(6, .int v3), (0, .ref b), (1, .ref (ad 0)), (2, .ref (am 0)), (3, .ref qo), (4, .ref qd), (5, .int x5)]) hx hb dL_law_265 hl (by decide) rfl (fun ls hl => ?_)
    refine lv_aload_n hx hb dL_law_267 rfl (lv_at hl 3 rfl) ?_
    refine lv_aload_n hx hb dL_law_268 rfl (lv_at hl 1 rfl) ?_
    refine lv_iload hx hb dL_law_269 (lv_at hl 6 rfl) ?_
    refine lv_iconst (v := 1) hx hb dL_law_271 (by decide) ?_
    refine lv_iadd hx hb dL_law_272 ?_
    obtain ⟨v6, ev6, h⟩ := o_bind h
    refine g_sld hx hb hX hbl hbA hS ev6 dL_law_273 ?_
    refine lv_aload_n hx hb dL_law_274 rfl (lv_at hl 1 rfl) ?_
    refine lv_iload hx hb dL_law_275 (lv_at hl 6 rfl) ?_
    refine lv_iconst (v := 2) hx hb dL_law_277 (by decide) ?_
    refine lv_iadd hx hb dL_law_278 ?_
    obtain ⟨v7, ev7, h⟩ := o_bind h
    refine g_sld hx hb hX hbl hbA hS ev7 dL_law_279 ?_
    refine lv_if_eq (tgt := 287) hx hb dL_law_280 (by decide) (fun hc => ?_) (fun hc => ?_)
    · have h := o_pos hc h
      refine lv_iconst (v := 0) hx hb dL_law_287 (by decide) ?_
      have hP := wL_toCP hP
      have hD := wL_toCD hD
      obtain ⟨⟨M9, v8⟩, ev8, h⟩ := o_bind h
      refine g_cVi (As := [.int v6, .int 0]) (rest := []) ⟨hx, hb, hml, hown, hts⟩ (m_X6_setLive l hst D cy [] am (oC cy qo o5 :: dD cy qd dv :: xW cy ad S4 []) _ M v6 0 M9 v8 ev8) (cwV 2 hts gL_law_X6_setLive rfl rfl rfl (by decide +kernel) ⟨(Nat.le_of_ble_eq_true rfl), (Nat.le_of_ble_eq_true rfl)⟩) (va_recv hK hP (ci := 6) (q0 := 0) rfl rfl) hP hK hD hS hA hE rfl hl.1 rfl (Nat.le_of_ble_eq_true rfl) dL_law_288 ⟨(by show kc + 1 + 0 ≤ 601024; omega), (by show ks + 6 + 0 ≤ 7293034; omega)⟩ (fun H locs hP hD hS => ?_)
      have hP := wL_ofCP hP
      have hD := wL_ofCD hD
      have hP : va_P D vwCl (wL cy ad am qo qd S4 M9 o5 dv) H := hP
      have hD : va_D (lA s) (wL cy ad am qo qd S4 M9 o5 dv) := hD
      refine W.widen (k := kc + 1) (n := ks + 6) (by omega) (by omega) ?_
      refine lv_istore (lv' := [(7, .int v8), (6, .int v3), (0, .ref b), (1, .ref (ad 0)), (2, .ref (am 0)), (3, .ref qo), (4, .ref qd), (5, .int x5)]) hx hb dL_law_291 hl (by decide) rfl (fun ls hl => ?_)
      refine lv_aload_n hx hb dL_law_293 rfl (lv_at hl 4 rfl) ?_
      have hP := wL_toCP hP
      have hD := wL_toCD hD
      obtain ⟨v10, ev10, h⟩ := o_bind h
      refine g_cVi (As := []) (rest := []) ⟨hx, hb, hml, hown, hts⟩ (m_X6_thrown l hst D cy [] am (oC cy qo o5 :: dD cy qd dv :: xW cy ad S4 []) _ M9  v10 ev10) (cwV 0 hts gL_law_X6_thrown rfl rfl rfl (by decide +kernel) ⟨(Nat.le_of_ble_eq_true rfl), (Nat.le_of_ble_eq_true rfl)⟩) (va_recv hK hP (ci := 6) (q0 := 0) rfl rfl) hP hK hD hS hA hE rfl hl.1 rfl (Nat.le_of_ble_eq_true rfl) dL_law_294 ⟨(by show kc + 1 + 0 ≤ 601024; omega), (by show ks + 6 + 0 ≤ 7293034; omega)⟩ (fun H locs hP hD hS => ?_)
      have hP := wL_ofCP hP
      have hD := wL_ofCD hD
      have hP : va_P D vwCl (wL cy ad am qo qd S4 M9 o5 dv) H := hP
      have hD : va_D (lA s) (wL cy ad am qo qd S4 M9 o5 dv) := hD
      refine W.widen (k := kc + 1) (n := ks + 6) (by omega) (by omega) ?_
      refine lv_iload hx hb dL_law_297 (lv_at hl 1 rfl) ?_
      refine lv_icmp_eq (tgt := 304) hx hb dL_law_299 (by decide) (fun hc => ?_) (fun hc => ?_)
      · have h := o_pos hc h
        refine lv_iload hx hb dL_law_304 (lv_at hl 1 rfl) ?_
        refine lv_if_ne (tgt := 328) hx hb dL_law_306 (by decide) (fun hc => ?_) (fun hc => ?_)
        · have h := o_neg hc h
          refine lv_goto (tgt := 1933) hx hb dL_law_328 (by decide) ?_
          refine lv_iinc (v := (x5 + 5)) (lv' := [(5, .int (x5 + 5)), (7, .int v8), (6, .int v3), (0, .ref b), (1, .ref (ad 0)), (2, .ref (am 0)), (3, .ref qo), (4, .ref qd)]) hx hb dL_law_1933 hl (k := 7) rfl rfl (by decide) rfl (fun ls hl => ?_)
          refine lv_goto (tgt := 28) hx hb dL_law_1936 (by decide) ?_
          refine W.widen (k := kc + 5) (n := ks + 80) (by omega) (by omega) ?_
          exact K S4 M9 o5 dv (x5 + 5) _ _ ls hP hD hS (lv_sub hl [3, 4, 5, 6, 7, 0] rfl) h
        · have h := o_pos hc h
          refine lv_aload_n hx hb dL_law_309 rfl (lv_at hl 5 rfl) ?_
          refine lv_iconst (v := 0) hx hb dL_law_310 (by decide) ?_
          obtain ⟨v11, ev11, h⟩ := o_bind h
          refine g_lald hx hb hK hP 25 33 rfl rfl ev11 dL_law_311 ?_
          refine lv_iload hx hb dL_law_312 (lv_at hl 0 rfl) ?_
          refine lv_if_eq (tgt := 321) hx hb dL_law_314 (by decide) (fun hc => ?_) (fun hc => ?_)
          · have h := o_pos hc h
            refine lv_lconst (v := 0) hx hb dL_law_321 (by decide) ?_
            refine W.lcmp hx hb dL_law_322 ?_
            refine lv_if_eq (tgt := 328) hx hb dL_law_323 (by decide) (fun hc => ?_) (fun hc => ?_)
            · have h := o_pos hc h
              refine lv_goto (tgt := 1933) hx hb dL_law_328 (by decide) ?_
              refine lv_iinc (v := (x5 + 5)) (lv' := [(5, .int (x5 + 5)), (7, .int v8), (6, .int v3), (0, .ref b), (1, .ref (ad 0)), (2, .ref (am 0)), (3, .ref qo), (4, .ref qd)]) hx hb dL_law_1933 hl (k := 7) rfl rfl (by decide) rfl (fun ls hl => ?_)
              refine lv_goto (tgt := 28) hx hb dL_law_1936 (by decide) ?_
              refine W.widen (k := kc + 5) (n := ks + 80) (by omega) (by omega) ?_
              exact K S4 M9 o5 dv (x5 + 5) _ _ ls hP hD hS (lv_sub hl [3, 4, 5, 6, 7, 0] rfl) h
            · have h := o_neg hc h
              refine lv_iconst (v := 0) hx hb dL_law_326 (by decide) ?_
              exact absurd (Option.some.inj h) (by decide)
          · have h := o_neg hc h
            refine lv_lconst (v := 1) hx hb dL_law_317 (by decide) ?_
            refine lv_goto (tgt := 322) hx hb dL_law_318 (by decide) ?_
            refine W.lcmp hx hb dL_law_322 ?_
            refine lv_if_eq (tgt := 328) hx hb dL_law_323 (by decide) (fun hc => ?_) (fun hc => ?_)
            · have h := o_pos hc h
              refine lv_goto (tgt := 1933) hx hb dL_law_328 (by decide) ?_
              refine lv_iinc (v := (x5 + 5)) (lv' := [(5, .int (x5 + 5)), (7, .int v8), (6, .int v3), (0, .ref b), (1, .ref (ad 0)), (2, .ref (am 0)), (3, .ref qo), (4, .ref qd)]) hx hb dL_law_1933 hl (k := 7) rfl rfl (by decide) rfl (fun ls hl => ?_)
              refine lv_goto (tgt := 28) hx hb dL_law_1936 (by decide) ?_
              refine W.widen (k := kc + 5) (n := ks + 80) (by omega) (by omega) ?_
              exact K S4 M9 o5 dv (x5 + 5) _ _ ls hP hD hS (lv_sub hl [3, 4, 5, 6, 7, 0] rfl) h
            · have h := o_neg hc h
              refine lv_iconst (v := 0) hx hb dL_law_326 (by decide) ?_
              exact absurd (Option.some.inj h) (by decide)
      · have h := o_neg hc h
        refine lv_iconst (v := 0) hx hb dL_law_302 (by decide) ?_
        exact absurd (Option.some.inj h) (by decide)
    · have h := o_neg hc h
      refine lv_iconst (v := 1) hx hb dL_law_283 (by decide) ?_
      refine lv_goto (tgt := 288) hx hb dL_law_284 (by decide) ?_
      have hP := wL_toCP hP
      have hD := wL_toCD hD
      obtain ⟨⟨M13, v12⟩, ev12, h⟩ := o_bind h
      refine g_cVi (As := [.int v6, .int 1]) (rest := []) ⟨hx, hb, hml, hown, hts⟩ (m_X6_setLive l hst D cy [] am (oC cy qo o5 :: dD cy qd dv :: xW cy ad S4 []) _ M v6 1 M13 v12 ev12) (cwV 2 hts gL_law_X6_setLive rfl rfl rfl (by decide +kernel) ⟨(Nat.le_of_ble_eq_true rfl), (Nat.le_of_ble_eq_true rfl)⟩) (va_recv hK hP (ci := 6) (q0 := 0) rfl rfl) hP hK hD hS hA hE rfl hl.1 rfl (Nat.le_of_ble_eq_true rfl) dL_law_288 ⟨(by show kc + 1 + 0 ≤ 601024; omega), (by show ks + 6 + 0 ≤ 7293034; omega)⟩ (fun H locs hP hD hS => ?_)
      have hP := wL_ofCP hP
      have hD := wL_ofCD hD
      have hP : va_P D vwCl (wL cy ad am qo qd S4 M13 o5 dv) H := hP
      have hD : va_D (lA s) (wL cy ad am qo qd S4 M13 o5 dv) := hD
      refine W.widen (k := kc + 1) (n := ks + 6) (by omega) (by omega) ?_
      refine lv_istore (lv' := [(7, .int v12), (6, .int v3), (0, .ref b), (1, .ref (ad 0)), (2, .ref (am 0)), (3, .ref qo), (4, .ref qd), (5, .int x5)]) hx hb dL_law_291 hl (by decide) rfl (fun ls hl => ?_)
      refine lv_aload_n hx hb dL_law_293 rfl (lv_at hl 4 rfl) ?_
      have hP := wL_toCP hP
      have hD := wL_toCD hD
      obtain ⟨v14, ev14, h⟩ := o_bind h
      refine g_cVi (As := []) (rest := []) ⟨hx, hb, hml, hown, hts⟩ (m_X6_thrown l hst D cy [] am (oC cy qo o5 :: dD cy qd dv :: xW cy ad S4 []) _ M13  v14 ev14) (cwV 0 hts gL_law_X6_thrown rfl rfl rfl (by decide +kernel) ⟨(Nat.le_of_ble_eq_true rfl), (Nat.le_of_ble_eq_true rfl)⟩) (va_recv hK hP (ci := 6) (q0 := 0) rfl rfl) hP hK hD hS hA hE rfl hl.1 rfl (Nat.le_of_ble_eq_true rfl) dL_law_294 ⟨(by show kc + 1 + 0 ≤ 601024; omega), (by show ks + 6 + 0 ≤ 7293034; omega)⟩ (fun H locs hP hD hS => ?_)
      have hP := wL_ofCP hP
      have hD := wL_ofCD hD
      have hP : va_P D vwCl (wL cy ad am qo qd S4 M13 o5 dv) H := hP
      have hD : va_D (lA s) (wL cy ad am qo qd S4 M13 o5 dv) := hD
      refine W.widen (k := kc + 1) (n := ks + 6) (by omega) (by omega) ?_
      refine lv_iload hx hb dL_law_297 (lv_at hl 1 rfl) ?_
      refine lv_icmp_eq (tgt := 304) hx hb dL_law_299 (by decide) (fun hc => ?_) (fun hc => ?_)
      · have h := o_pos hc h
        refine lv_iload hx hb dL_law_304 (lv_at hl 1 rfl) ?_
        refine lv_if_ne (tgt := 328) hx hb dL_law_306 (by decide) (fun hc => ?_) (fun hc => ?_)
        · have h := o_neg hc h
          refine lv_goto (tgt := 1933) hx hb dL_law_328 (by decide) ?_
          refine lv_iinc (v := (x5 + 5)) (lv' := [(5, .int (x5 + 5)), (7, .int v12), (6, .int v3), (0, .ref b), (1, .ref (ad 0)), (2, .ref (am 0)), (3, .ref qo), (4, .ref qd)]) hx hb dL_law_1933 hl (k := 7) rfl rfl (by decide) rfl (fun ls hl => ?_)
          refine lv_goto (tgt := 28) hx hb dL_law_1936 (by decide) ?_
          refine W.widen (k := kc + 5) (n := ks + 80) (by omega) (by omega) ?_
          exact K S4 M13 o5 dv (x5 + 5) _ _ ls hP hD hS (lv_sub hl [3, 4, 5, 6, 7, 0] rfl) h
        · have h := o_pos hc h
          refine lv_aload_n hx hb dL_law_309 rfl (lv_at hl 5 rfl) ?_
          refine lv_iconst (v := 0) hx hb dL_law_310 (by decide) ?_
          obtain ⟨v15, ev15, h⟩ := o_bind h
          refine g_lald hx hb hK hP 25 33 rfl rfl ev15 dL_law_311 ?_
          refine lv_iload hx hb dL_law_312 (lv_at hl 0 rfl) ?_
          refine lv_if_eq (tgt := 321) hx hb dL_law_314 (by decide) (fun hc => ?_) (fun hc => ?_)
          · have h := o_pos hc h
            refine lv_lconst (v := 0) hx hb dL_law_321 (by decide) ?_
            refine W.lcmp hx hb dL_law_322 ?_
            refine lv_if_eq (tgt := 328) hx hb dL_law_323 (by decide) (fun hc => ?_) (fun hc => ?_)
            · have h := o_pos hc h
              refine lv_goto (tgt := 1933) hx hb dL_law_328 (by decide) ?_
              refine lv_iinc (v := (x5 + 5)) (lv' := [(5, .int (x5 + 5)), (7, .int v12), (6, .int v3), (0, .ref b), (1, .ref (ad 0)), (2, .ref (am 0)), (3, .ref qo), (4, .ref qd)]) hx hb dL_law_1933 hl (k := 7) rfl rfl (by decide) rfl (fun ls hl => ?_)
              refine lv_goto (tgt := 28) hx hb dL_law_1936 (by decide) ?_
              refine W.widen (k := kc + 5) (n := ks + 80) (by omega) (by omega) ?_
              exact K S4 M13 o5 dv (x5 + 5) _ _ ls hP hD hS (lv_sub hl [3, 4, 5, 6, 7, 0] rfl) h
            · have h := o_neg hc h
              refine lv_iconst (v := 0) hx hb dL_law_326 (by decide) ?_
              exact absurd (Option.some.inj h) (by decide)
          · have h := o_neg hc h
            refine lv_lconst (v := 1) hx hb dL_law_317 (by decide) ?_
            refine lv_goto (tgt := 322) hx hb dL_law_318 (by decide) ?_
            refine W.lcmp hx hb dL_law_322 ?_
            refine lv_if_eq (tgt := 328) hx hb dL_law_323 (by decide) (fun hc => ?_) (fun hc => ?_)
            · have h := o_pos hc h
              refine lv_goto (tgt := 1933) hx hb dL_law_328 (by decide) ?_
              refine lv_iinc (v := (x5 + 5)) (lv' := [(5, .int (x5 + 5)), (7, .int v12), (6, .int v3), (0, .ref b), (1, .ref (ad 0)), (2, .ref (am 0)), (3, .ref qo), (4, .ref qd)]) hx hb dL_law_1933 hl (k := 7) rfl rfl (by decide) rfl (fun ls hl => ?_)
              refine lv_goto (tgt := 28) hx hb dL_law_1936 (by decide) ?_
              refine W.widen (k := kc + 5) (n := ks + 80) (by omega) (by omega) ?_
              exact K S4 M13 o5 dv (x5 + 5) _ _ ls hP hD hS (lv_sub hl [3, 4, 5, 6, 7, 0] rfl) h
            · have h := o_neg hc h
              refine lv_iconst (v := 0) hx hb dL_law_326 (by decide) ?_
              exact absurd (Option.some.inj h) (by decide)
      · have h := o_neg hc h
        refine lv_iconst (v := 0) hx hb dL_law_302 (by decide) ?_
        exact absurd (Option.some.inj h) (by decide)
  · have h := o_neg hc h
    refine lv_iconst (v := 1) hx hb dL_law_256 (by decide) ?_
    refine lv_goto (tgt := 261) hx hb dL_law_257 (by decide) ?_
    refine lv_aload_n hx hb dL_law_261 rfl (lv_at hl 3 rfl) ?_
    obtain ⟨⟨S17, o18, v16⟩, ev16, h⟩ := o_bind h
    refine g_cL (As := [.ref (ad 0), .int v1, .int 1, .ref qo]) (rest := []) ⟨hx, hb, hml, hown, hts⟩ (m_L_setLive l hst D cy [] ad qo (dD cy qd dv :: mW cy am M []) _ S ov v1 1 S17 o18 v16 ev16) (vx_cwSW 4 hts gL_law_L_setLive rfl rfl rfl (by decide +kernel) ⟨(Nat.le_of_ble_eq_true rfl), (Nat.le_of_ble_eq_true rfl)⟩) hP hK hD hS hA hE rfl hl.1 rfl (Nat.le_of_ble_eq_true rfl) dL_law_262 ⟨(by show kc + 0 + 1 ≤ 601024; omega), (by show ks + 0 + 6 ≤ 7293034; omega)⟩ (fun H locs hP hD hS => ?_)
    have hP : va_P D vwCl (wL cy ad am qo qd S17 M o18 dv) H := hP
    have hD : va_D (lA s) (wL cy ad am qo qd S17 M o18 dv) := hD
    refine W.widen (k := kc + 1) (n := ks + 6) (by omega) (by omega) ?_
    refine lv_istore (lv' := [(6, .int v16), (0, .ref b), (1, .ref (ad 0)), (2, .ref (am 0)), (3, .ref qo), (4, .ref qd), (5, .int x5)]) hx hb dL_law_265 hl (by decide) rfl (fun ls hl => ?_)
    refine lv_aload_n hx hb dL_law_267 rfl (lv_at hl 3 rfl) ?_
    refine lv_aload_n hx hb dL_law_268 rfl (lv_at hl 1 rfl) ?_
    refine lv_iload hx hb dL_law_269 (lv_at hl 6 rfl) ?_
    refine lv_iconst (v := 1) hx hb dL_law_271 (by decide) ?_
    refine lv_iadd hx hb dL_law_272 ?_
    obtain ⟨v19, ev19, h⟩ := o_bind h
    refine g_sld hx hb hX hbl hbA hS ev19 dL_law_273 ?_
    refine lv_aload_n hx hb dL_law_274 rfl (lv_at hl 1 rfl) ?_
    refine lv_iload hx hb dL_law_275 (lv_at hl 6 rfl) ?_
    refine lv_iconst (v := 2) hx hb dL_law_277 (by decide) ?_
    refine lv_iadd hx hb dL_law_278 ?_
    obtain ⟨v20, ev20, h⟩ := o_bind h
    refine g_sld hx hb hX hbl hbA hS ev20 dL_law_279 ?_
    refine lv_if_eq (tgt := 287) hx hb dL_law_280 (by decide) (fun hc => ?_) (fun hc => ?_)
    · have h := o_pos hc h
      refine lv_iconst (v := 0) hx hb dL_law_287 (by decide) ?_
      have hP := wL_toCP hP
      have hD := wL_toCD hD
      obtain ⟨⟨M22, v21⟩, ev21, h⟩ := o_bind h
      refine g_cVi (As := [.int v19, .int 0]) (rest := []) ⟨hx, hb, hml, hown, hts⟩ (m_X6_setLive l hst D cy [] am (oC cy qo o18 :: dD cy qd dv :: xW cy ad S17 []) _ M v19 0 M22 v21 ev21) (cwV 2 hts gL_law_X6_setLive rfl rfl rfl (by decide +kernel) ⟨(Nat.le_of_ble_eq_true rfl), (Nat.le_of_ble_eq_true rfl)⟩) (va_recv hK hP (ci := 6) (q0 := 0) rfl rfl) hP hK hD hS hA hE rfl hl.1 rfl (Nat.le_of_ble_eq_true rfl) dL_law_288 ⟨(by show kc + 1 + 0 ≤ 601024; omega), (by show ks + 6 + 0 ≤ 7293034; omega)⟩ (fun H locs hP hD hS => ?_)
      have hP := wL_ofCP hP
      have hD := wL_ofCD hD
      have hP : va_P D vwCl (wL cy ad am qo qd S17 M22 o18 dv) H := hP
      have hD : va_D (lA s) (wL cy ad am qo qd S17 M22 o18 dv) := hD
      refine W.widen (k := kc + 1) (n := ks + 6) (by omega) (by omega) ?_
      refine lv_istore (lv' := [(7, .int v21), (6, .int v16), (0, .ref b), (1, .ref (ad 0)), (2, .ref (am 0)), (3, .ref qo), (4, .ref qd), (5, .int x5)]) hx hb dL_law_291 hl (by decide) rfl (fun ls hl => ?_)
      refine lv_aload_n hx hb dL_law_293 rfl (lv_at hl 4 rfl) ?_
      have hP := wL_toCP hP
      have hD := wL_toCD hD
      obtain ⟨v23, ev23, h⟩ := o_bind h
      refine g_cVi (As := []) (rest := []) ⟨hx, hb, hml, hown, hts⟩ (m_X6_thrown l hst D cy [] am (oC cy qo o18 :: dD cy qd dv :: xW cy ad S17 []) _ M22  v23 ev23) (cwV 0 hts gL_law_X6_thrown rfl rfl rfl (by decide +kernel) ⟨(Nat.le_of_ble_eq_true rfl), (Nat.le_of_ble_eq_true rfl)⟩) (va_recv hK hP (ci := 6) (q0 := 0) rfl rfl) hP hK hD hS hA hE rfl hl.1 rfl (Nat.le_of_ble_eq_true rfl) dL_law_294 ⟨(by show kc + 1 + 0 ≤ 601024; omega), (by show ks + 6 + 0 ≤ 7293034; omega)⟩ (fun H locs hP hD hS => ?_)
      have hP := wL_ofCP hP
      have hD := wL_ofCD hD
      have hP : va_P D vwCl (wL cy ad am qo qd S17 M22 o18 dv) H := hP
      have hD : va_D (lA s) (wL cy ad am qo qd S17 M22 o18 dv) := hD
      refine W.widen (k := kc + 1) (n := ks + 6) (by omega) (by omega) ?_
      refine lv_iload hx hb dL_law_297 (lv_at hl 1 rfl) ?_
      refine lv_icmp_eq (tgt := 304) hx hb dL_law_299 (by decide) (fun hc => ?_) (fun hc => ?_)
      · have h := o_pos hc h
        refine lv_iload hx hb dL_law_304 (lv_at hl 1 rfl) ?_
        refine lv_if_ne (tgt := 328) hx hb dL_law_306 (by decide) (fun hc => ?_) (fun hc => ?_)
        · have h := o_neg hc h
          refine lv_goto (tgt := 1933) hx hb dL_law_328 (by decide) ?_
          refine lv_iinc (v := (x5 + 5)) (lv' := [(5, .int (x5 + 5)), (7, .int v21), (6, .int v16), (0, .ref b), (1, .ref (ad 0)), (2, .ref (am 0)), (3, .ref qo), (4, .ref qd)]) hx hb dL_law_1933 hl (k := 7) rfl rfl (by decide) rfl (fun ls hl => ?_)
          refine lv_goto (tgt := 28) hx hb dL_law_1936 (by decide) ?_
          refine W.widen (k := kc + 5) (n := ks + 80) (by omega) (by omega) ?_
          exact K S17 M22 o18 dv (x5 + 5) _ _ ls hP hD hS (lv_sub hl [3, 4, 5, 6, 7, 0] rfl) h
        · have h := o_pos hc h
          refine lv_aload_n hx hb dL_law_309 rfl (lv_at hl 5 rfl) ?_
          refine lv_iconst (v := 0) hx hb dL_law_310 (by decide) ?_
          obtain ⟨v24, ev24, h⟩ := o_bind h
          refine g_lald hx hb hK hP 25 33 rfl rfl ev24 dL_law_311 ?_
          refine lv_iload hx hb dL_law_312 (lv_at hl 0 rfl) ?_
          refine lv_if_eq (tgt := 321) hx hb dL_law_314 (by decide) (fun hc => ?_) (fun hc => ?_)
          · have h := o_pos hc h
            refine lv_lconst (v := 0) hx hb dL_law_321 (by decide) ?_
            refine W.lcmp hx hb dL_law_322 ?_
            refine lv_if_eq (tgt := 328) hx hb dL_law_323 (by decide) (fun hc => ?_) (fun hc => ?_)
            · have h := o_pos hc h
              refine lv_goto (tgt := 1933) hx hb dL_law_328 (by decide) ?_
              refine lv_iinc (v := (x5 + 5)) (lv' := [(5, .int (x5 + 5)), (7, .int v21), (6, .int v16), (0, .ref b), (1, .ref (ad 0)), (2, .ref (am 0)), (3, .ref qo), (4, .ref qd)]) hx hb dL_law_1933 hl (k := 7) rfl rfl (by decide) rfl (fun ls hl => ?_)
              refine lv_goto (tgt := 28) hx hb dL_law_1936 (by decide) ?_
              refine W.widen (k := kc + 5) (n := ks + 80) (by omega) (by omega) ?_
              exact K S17 M22 o18 dv (x5 + 5) _ _ ls hP hD hS (lv_sub hl [3, 4, 5, 6, 7, 0] rfl) h
            · have h := o_neg hc h
              refine lv_iconst (v := 0) hx hb dL_law_326 (by decide) ?_
              exact absurd (Option.some.inj h) (by decide)
          · have h := o_neg hc h
            refine lv_lconst (v := 1) hx hb dL_law_317 (by decide) ?_
            refine lv_goto (tgt := 322) hx hb dL_law_318 (by decide) ?_
            refine W.lcmp hx hb dL_law_322 ?_
            refine lv_if_eq (tgt := 328) hx hb dL_law_323 (by decide) (fun hc => ?_) (fun hc => ?_)
            · have h := o_pos hc h
              refine lv_goto (tgt := 1933) hx hb dL_law_328 (by decide) ?_
              refine lv_iinc (v := (x5 + 5)) (lv' := [(5, .int (x5 + 5)), (7, .int v21), (6, .int v16), (0, .ref b), (1, .ref (ad 0)), (2, .ref (am 0)), (3, .ref qo), (4, .ref qd)]) hx hb dL_law_1933 hl (k := 7) rfl rfl (by decide) rfl (fun ls hl => ?_)
              refine lv_goto (tgt := 28) hx hb dL_law_1936 (by decide) ?_
              refine W.widen (k := kc + 5) (n := ks + 80) (by omega) (by omega) ?_
              exact K S17 M22 o18 dv (x5 + 5) _ _ ls hP hD hS (lv_sub hl [3, 4, 5, 6, 7, 0] rfl) h
            · have h := o_neg hc h
              refine lv_iconst (v := 0) hx hb dL_law_326 (by decide) ?_
              exact absurd (Option.some.inj h) (by decide)
      · have h := o_neg hc h
        refine lv_iconst (v := 0) hx hb dL_law_302 (by decide) ?_
        exact absurd (Option.some.inj h) (by decide)
    · have h := o_neg hc h
      refine lv_iconst (v := 1) hx hb dL_law_283 (by decide) ?_
      refine lv_goto (tgt := 288) hx hb dL_law_284 (by decide) ?_
      have hP := wL_toCP hP
      have hD := wL_toCD hD
      obtain ⟨⟨M26, v25⟩, ev25, h⟩ := o_bind h
      refine g_cVi (As := [.int v19, .int 1]) (rest := []) ⟨hx, hb, hml, hown, hts⟩ (m_X6_setLive l hst D cy [] am (oC cy qo o18 :: dD cy qd dv :: xW cy ad S17 []) _ M v19 1 M26 v25 ev25) (cwV 2 hts gL_law_X6_setLive rfl rfl rfl (by decide +kernel) ⟨(Nat.le_of_ble_eq_true rfl), (Nat.le_of_ble_eq_true rfl)⟩) (va_recv hK hP (ci := 6) (q0 := 0) rfl rfl) hP hK hD hS hA hE rfl hl.1 rfl (Nat.le_of_ble_eq_true rfl) dL_law_288 ⟨(by show kc + 1 + 0 ≤ 601024; omega), (by show ks + 6 + 0 ≤ 7293034; omega)⟩ (fun H locs hP hD hS => ?_)
      have hP := wL_ofCP hP
      have hD := wL_ofCD hD
      have hP : va_P D vwCl (wL cy ad am qo qd S17 M26 o18 dv) H := hP
      have hD : va_D (lA s) (wL cy ad am qo qd S17 M26 o18 dv) := hD
      refine W.widen (k := kc + 1) (n := ks + 6) (by omega) (by omega) ?_
      refine lv_istore (lv' := [(7, .int v25), (6, .int v16), (0, .ref b), (1, .ref (ad 0)), (2, .ref (am 0)), (3, .ref qo), (4, .ref qd), (5, .int x5)]) hx hb dL_law_291 hl (by decide) rfl (fun ls hl => ?_)
      refine lv_aload_n hx hb dL_law_293 rfl (lv_at hl 4 rfl) ?_
      have hP := wL_toCP hP
      have hD := wL_toCD hD
      obtain ⟨v27, ev27, h⟩ := o_bind h
      refine g_cVi (As := []) (rest := []) ⟨hx, hb, hml, hown, hts⟩ (m_X6_thrown l hst D cy [] am (oC cy qo o18 :: dD cy qd dv :: xW cy ad S17 []) _ M26  v27 ev27) (cwV 0 hts gL_law_X6_thrown rfl rfl rfl (by decide +kernel) ⟨(Nat.le_of_ble_eq_true rfl), (Nat.le_of_ble_eq_true rfl)⟩) (va_recv hK hP (ci := 6) (q0 := 0) rfl rfl) hP hK hD hS hA hE rfl hl.1 rfl (Nat.le_of_ble_eq_true rfl) dL_law_294 ⟨(by show kc + 1 + 0 ≤ 601024; omega), (by show ks + 6 + 0 ≤ 7293034; omega)⟩ (fun H locs hP hD hS => ?_)
      have hP := wL_ofCP hP
      have hD := wL_ofCD hD
      have hP : va_P D vwCl (wL cy ad am qo qd S17 M26 o18 dv) H := hP
      have hD : va_D (lA s) (wL cy ad am qo qd S17 M26 o18 dv) := hD
      refine W.widen (k := kc + 1) (n := ks + 6) (by omega) (by omega) ?_
      refine lv_iload hx hb dL_law_297 (lv_at hl 1 rfl) ?_
      refine lv_icmp_eq (tgt := 304) hx hb dL_law_299 (by decide) (fun hc => ?_) (fun hc => ?_)
      · have h := o_pos hc h
        refine lv_iload hx hb dL_law_304 (lv_at hl 1 rfl) ?_
        refine lv_if_ne (tgt := 328) hx hb dL_law_306 (by decide) (fun hc => ?_) (fun hc => ?_)
        · have h := o_neg hc h
          refine lv_goto (tgt := 1933) hx hb dL_law_328 (by decide) ?_
          refine lv_iinc (v := (x5 + 5)) (lv' := [(5, .int (x5 + 5)), (7, .int v25), (6, .int v16), (0, .ref b), (1, .ref (ad 0)), (2, .ref (am 0)), (3, .ref qo), (4, .ref qd)]) hx hb dL_law_1933 hl (k := 7) rfl rfl (by decide) rfl (fun ls hl => ?_)
          refine lv_goto (tgt := 28) hx hb dL_law_1936 (by decide) ?_
          refine W.widen (k := kc + 5) (n := ks + 80) (by omega) (by omega) ?_
          exact K S17 M26 o18 dv (x5 + 5) _ _ ls hP hD hS (lv_sub hl [3, 4, 5, 6, 7, 0] rfl) h
        · have h := o_pos hc h
          refine lv_aload_n hx hb dL_law_309 rfl (lv_at hl 5 rfl) ?_
          refine lv_iconst (v := 0) hx hb dL_law_310 (by decide) ?_
          obtain ⟨v28, ev28, h⟩ := o_bind h
          refine g_lald hx hb hK hP 25 33 rfl rfl ev28 dL_law_311 ?_
          refine lv_iload hx hb dL_law_312 (lv_at hl 0 rfl) ?_
          refine lv_if_eq (tgt := 321) hx hb dL_law_314 (by decide) (fun hc => ?_) (fun hc => ?_)
          · have h := o_pos hc h
            refine lv_lconst (v := 0) hx hb dL_law_321 (by decide) ?_
            refine W.lcmp hx hb dL_law_322 ?_
            refine lv_if_eq (tgt := 328) hx hb dL_law_323 (by decide) (fun hc => ?_) (fun hc => ?_)
            · have h := o_pos hc h
              refine lv_goto (tgt := 1933) hx hb dL_law_328 (by decide) ?_
              refine lv_iinc (v := (x5 + 5)) (lv' := [(5, .int (x5 + 5)), (7, .int v25), (6, .int v16), (0, .ref b), (1, .ref (ad 0)), (2, .ref (am 0)), (3, .ref qo), (4, .ref qd)]) hx hb dL_law_1933 hl (k := 7) rfl rfl (by decide) rfl (fun ls hl => ?_)
              refine lv_goto (tgt := 28) hx hb dL_law_1936 (by decide) ?_
              refine W.widen (k := kc + 5) (n := ks + 80) (by omega) (by omega) ?_
              exact K S17 M26 o18 dv (x5 + 5) _ _ ls hP hD hS (lv_sub hl [3, 4, 5, 6, 7, 0] rfl) h
            · have h := o_neg hc h
              refine lv_iconst (v := 0) hx hb dL_law_326 (by decide) ?_
              exact absurd (Option.some.inj h) (by decide)
          · have h := o_neg hc h
            refine lv_lconst (v := 1) hx hb dL_law_317 (by decide) ?_
            refine lv_goto (tgt := 322) hx hb dL_law_318 (by decide) ?_
            refine W.lcmp hx hb dL_law_322 ?_
            refine lv_if_eq (tgt := 328) hx hb dL_law_323 (by decide) (fun hc => ?_) (fun hc => ?_)
            · have h := o_pos hc h
              refine lv_goto (tgt := 1933) hx hb dL_law_328 (by decide) ?_
              refine lv_iinc (v := (x5 + 5)) (lv' := [(5, .int (x5 + 5)), (7, .int v25), (6, .int v16), (0, .ref b), (1, .ref (ad 0)), (2, .ref (am 0)), (3, .ref qo), (4, .ref qd)]) hx hb dL_law_1933 hl (k := 7) rfl rfl (by decide) rfl (fun ls hl => ?_)
              refine lv_goto (tgt := 28) hx hb dL_law_1936 (by decide) ?_
              refine W.widen (k := kc + 5) (n := ks + 80) (by omega) (by omega) ?_
              exact K S17 M26 o18 dv (x5 + 5) _ _ ls hP hD hS (lv_sub hl [3, 4, 5, 6, 7, 0] rfl) h
            · have h := o_neg hc h
              refine lv_iconst (v := 0) hx hb dL_law_326 (by decide) ?_
              exact absurd (Option.some.inj h) (by decide)
      · have h := o_neg hc h
        refine lv_iconst (v := 0) hx hb dL_law_302 (by decide) ?_
        exact absurd (Option.some.inj h) (by decide)
set_option maxHeartbeats 4000000 in
set_option maxRecDepth 100000 in
theorem law_c2 {p : Program} {l : Launch} {e : Env} {s : State} {m : MethodId} {below : List Frame} {meth : Method} {c : Code} (hst : l.stackTraces = false) {b L : Nat} {xs : Nat → Int32} (C0 : lw_At p s m meth c b L xs) {D : va_G} {cy : Nat → ClassId} {ad am : Nat → Nat} {qo qd : Nat} (hK : va_K D vwCl (gT cy ++ []) s) (hE : gX (lA s) s) {rec : PS → PS → (Nat → Int64) → (Nat → UInt64) → Int32 → Option Int32} {kc ks : Nat} (hkc : kc + 5 ≤ 601024) (hks : ks + 80 ≤ 7293034) (K : lw_K p l e s m below meth c b D cy ad am qo qd rec (kc + 5) (ks + 80)) (S M : PS) (ov : Nat → Int64) (dv : Nat → UInt64) (x5 : Int32) (H : Heap) (locs : List Loc) (ls : Array Slot) (hP : va_P D vwCl (wL cy ad am qo qd S M ov dv) H) (hD : va_D (lA s) (wL cy ad am qo qd S M ov dv)) (hS : va_S (lA s) s.heap H locs) (hl : lv_has ls 9 [(0, .ref b), (1, .ref (ad 0)), (2, .ref (am 0)), (3, .ref qo), (4, .ref qd), (5, .int x5)]) (h : q_law_c2 xs L rec S M ov dv x5 = some 1) : W p l e room_1 s m #[Value.ref b] below meth c H locs kc ks (lw_Z below #[Value.ref b] s) (F0 m 331 ls []) := by
  obtain ⟨hx, hb, hr, hml, hown, hts0, hX, hbl, hlocks, hgv⟩ := C0
  have hts : ∀ w ∈ wsL_law, w.before #[Value.ref b] s = true := fun w h => hts0 w (wsL_law_in w h)
  have hA : ∀ q : Nat, s.heap.size ≤ q → lA s q := fun _ h => h
  have hbA : ¬ lA s b := Nat.not_le.mpr hbl
  refine W.widen (k := kc + 0) (n := ks + 0) (Nat.le_refl _) (Nat.le_refl _) ?_
  unfold q_law_c2 at h
  refine lv_aload_n hx hb dL_law_331 rfl (lv_at hl 1 rfl) ?_
  obtain ⟨v1, ev1, h⟩ := o_bind h
  refine g_cVi (As := []) (rest := []) ⟨hx, hb, hml, hown, hts⟩ (m_X5_classCount l hst D cy [] ad (oC cy qo ov :: dD cy qd dv :: mW cy am M []) _ S  v1 ev1) (cwV 0 hts gL_law_X5_classCount rfl rfl rfl (by decide +kernel) ⟨(Nat.le_of_ble_eq_true rfl), (Nat.le_of_ble_eq_true rfl)⟩) (va_recv hK hP (ci := 5) (q0 := 0) rfl rfl) hP hK hD hS hA hE rfl hl.1 rfl (Nat.le_of_ble_eq_true rfl) dL_law_332 ⟨(by show kc + 0 + 0 ≤ 601024; omega), (by show ks + 0 + 0 ≤ 7293034; omega)⟩ (fun H locs hP hD hS => ?_)
  have hP : va_P D vwCl (wL cy ad am qo qd S M ov dv) H := hP
  have hD : va_D (lA s) (wL cy ad am qo qd S M ov dv) := hD
  refine W.widen (k := kc + 0) (n := ks + 0) (by omega) (by omega) ?_
  refine lv_aload_n hx hb dL_law_335 rfl (lv_at hl 2 rfl) ?_
  have hP := wL_toCP hP
  have hD := wL_toCD hD
  obtain ⟨⟨M3, v2⟩, ev2, h⟩ := o_bind h
  refine g_cVi (As := []) (rest := [.int v1]) ⟨hx, hb, hml, hown, hts⟩ (m_X6_classCount l hst D cy [] am (oC cy qo ov :: dD cy qd dv :: xW cy ad S []) _ M  M3 v2 ev2) (cwV 0 hts gL_law_X6_classCount rfl rfl rfl (by decide +kernel) ⟨(Nat.le_of_ble_eq_true rfl), (Nat.le_of_ble_eq_true rfl)⟩) (va_recv hK hP (ci := 6) (q0 := 0) rfl rfl) hP hK hD hS hA hE rfl hl.1 rfl (Nat.le_of_ble_eq_true rfl) dL_law_336 ⟨(by show kc + 0 + 0 ≤ 601024; omega), (by show ks + 0 + 0 ≤ 7293034; omega)⟩ (fun H locs hP hD hS => ?_)
  have hP := wL_ofCP hP
  have hD := wL_ofCD hD
  have hP : va_P D vwCl (wL cy ad am qo qd S M3 ov dv) H := hP
  have hD : va_D (lA s) (wL cy ad am qo qd S M3 ov dv) := hD
  refine W.widen (k := kc + 0) (n := ks + 0) (by omega) (by omega) ?_
  refine lv_icmp_eq (tgt := 1933) hx hb dL_law_339 (by decide) (fun hc => ?_) (fun hc => ?_)
  · have h := o_pos hc h
    refine lv_iinc (v := (x5 + 5)) (lv' := [(5, .int (x5 + 5)), (0, .ref b), (1, .ref (ad 0)), (2, .ref (am 0)), (3, .ref qo), (4, .ref qd)]) hx hb dL_law_1933 hl (k := 5) rfl rfl (by decide) rfl (fun ls hl => ?_)
    refine lv_goto (tgt := 28) hx hb dL_law_1936 (by decide) ?_
    refine W.widen (k := kc + 5) (n := ks + 80) (by omega) (by omega) ?_
    exact K S M3 ov dv (x5 + 5) _ _ ls hP hD hS (lv_sub hl [1, 2, 3, 4, 5, 0] rfl) h
  · have h := o_neg hc h
    refine lv_iconst (v := 0) hx hb dL_law_342 (by decide) ?_
    exact absurd (Option.some.inj h) (by decide)
set_option maxHeartbeats 4000000 in
set_option maxRecDepth 100000 in
theorem law_c3 {p : Program} {l : Launch} {e : Env} {s : State} {m : MethodId} {below : List Frame} {meth : Method} {c : Code} (hst : l.stackTraces = false) {b L : Nat} {xs : Nat → Int32} (C0 : lw_At p s m meth c b L xs) {D : va_G} {cy : Nat → ClassId} {ad am : Nat → Nat} {qo qd : Nat} (hK : va_K D vwCl (gT cy ++ []) s) (hE : gX (lA s) s) {rec : PS → PS → (Nat → Int64) → (Nat → UInt64) → Int32 → Option Int32} {kc ks : Nat} (hkc : kc + 5 ≤ 601024) (hks : ks + 80 ≤ 7293034) (K : lw_K p l e s m below meth c b D cy ad am qo qd rec (kc + 5) (ks + 80)) (S M : PS) (ov : Nat → Int64) (dv : Nat → UInt64) (x5 : Int32) (H : Heap) (locs : List Loc) (ls : Array Slot) (hP : va_P D vwCl (wL cy ad am qo qd S M ov dv) H) (hD : va_D (lA s) (wL cy ad am qo qd S M ov dv)) (hS : va_S (lA s) s.heap H locs) (hl : lv_has ls 9 [(0, .ref b), (1, .ref (ad 0)), (2, .ref (am 0)), (3, .ref qo), (4, .ref qd), (5, .int x5)]) (h : q_law_c3 xs L rec S M ov dv x5 = some 1) : W p l e room_1 s m #[Value.ref b] below meth c H locs kc ks (lw_Z below #[Value.ref b] s) (F0 m 344 ls []) := by
  obtain ⟨hx, hb, hr, hml, hown, hts0, hX, hbl, hlocks, hgv⟩ := C0
  have hts : ∀ w ∈ wsL_law, w.before #[Value.ref b] s = true := fun w h => hts0 w (wsL_law_in w h)
  have hA : ∀ q : Nat, s.heap.size ≤ q → lA s q := fun _ h => h
  have hbA : ¬ lA s b := Nat.not_le.mpr hbl
  refine W.widen (k := kc + 0) (n := ks + 0) (Nat.le_refl _) (Nat.le_refl _) ?_
  unfold q_law_c3 at h
  refine lv_aload_n hx hb dL_law_344 rfl (lv_at hl 1 rfl) ?_
  refine lv_aload_n hx hb dL_law_345 rfl (lv_at hl 0 rfl) ?_
  refine lv_iload hx hb dL_law_346 (lv_at hl 5 rfl) ?_
  refine lv_iconst (v := 1) hx hb dL_law_348 (by decide) ?_
  refine lv_iadd hx hb dL_law_349 ?_
  obtain ⟨v1, ev1, h⟩ := o_bind h
  refine g_sld hx hb hX hbl hbA hS ev1 dL_law_350 ?_
  refine lv_aload_n hx hb dL_law_351 rfl (lv_at hl 3 rfl) ?_
  obtain ⟨⟨S3, o4, v2⟩, ev2, h⟩ := o_bind h
  refine g_cL (As := [.ref (ad 0), .int v1, .ref qo]) (rest := []) ⟨hx, hb, hml, hown, hts⟩ (m_L_parent l hst D cy [] ad qo (dD cy qd dv :: mW cy am M []) _ S ov v1 S3 o4 v2 ev2) (vx_cwSW 3 hts gL_law_L_parent rfl rfl rfl (by decide +kernel) ⟨(Nat.le_of_ble_eq_true rfl), (Nat.le_of_ble_eq_true rfl)⟩) hP hK hD hS hA hE rfl hl.1 rfl (Nat.le_of_ble_eq_true rfl) dL_law_352 ⟨(by show kc + 0 + 1 ≤ 601024; omega), (by show ks + 0 + 6 ≤ 7293034; omega)⟩ (fun H locs hP hD hS => ?_)
  have hP : va_P D vwCl (wL cy ad am qo qd S3 M o4 dv) H := hP
  have hD : va_D (lA s) (wL cy ad am qo qd S3 M o4 dv) := hD
  refine W.widen (k := kc + 1) (n := ks + 6) (by omega) (by omega) ?_
  refine lv_istore (lv' := [(6, .int v2), (0, .ref b), (1, .ref (ad 0)), (2, .ref (am 0)), (3, .ref qo), (4, .ref qd), (5, .int x5)]) hx hb dL_law_355 hl (by decide) rfl (fun ls hl => ?_)
  refine lv_aload_n hx hb dL_law_357 rfl (lv_at hl 3 rfl) ?_
  refine lv_aload_n hx hb dL_law_358 rfl (lv_at hl 1 rfl) ?_
  refine lv_iload hx hb dL_law_359 (lv_at hl 6 rfl) ?_
  refine lv_iconst (v := 1) hx hb dL_law_361 (by decide) ?_
  refine lv_iadd hx hb dL_law_362 ?_
  obtain ⟨v5, ev5, h⟩ := o_bind h
  refine g_sld hx hb hX hbl hbA hS ev5 dL_law_363 ?_
  have hP := wL_toCP hP
  have hD := wL_toCD hD
  obtain ⟨⟨M7, v6⟩, ev6, h⟩ := o_bind h
  refine g_cVi (As := [.int v5]) (rest := []) ⟨hx, hb, hml, hown, hts⟩ (m_X6_parent l hst D cy [] am (oC cy qo o4 :: dD cy qd dv :: xW cy ad S3 []) _ M v5 M7 v6 ev6) (cwV 1 hts gL_law_X6_parent rfl rfl rfl (by decide +kernel) ⟨(Nat.le_of_ble_eq_true rfl), (Nat.le_of_ble_eq_true rfl)⟩) (va_recv hK hP (ci := 6) (q0 := 0) rfl rfl) hP hK hD hS hA hE rfl hl.1 rfl (Nat.le_of_ble_eq_true rfl) dL_law_364 ⟨(by show kc + 1 + 0 ≤ 601024; omega), (by show ks + 6 + 0 ≤ 7293034; omega)⟩ (fun H locs hP hD hS => ?_)
  have hP := wL_ofCP hP
  have hD := wL_ofCD hD
  have hP : va_P D vwCl (wL cy ad am qo qd S3 M7 o4 dv) H := hP
  have hD : va_D (lA s) (wL cy ad am qo qd S3 M7 o4 dv) := hD
  refine W.widen (k := kc + 1) (n := ks + 6) (by omega) (by omega) ?_
  refine lv_istore (lv' := [(7, .int v6), (6, .int v2), (0, .ref b), (1, .ref (ad 0)), (2, .ref (am 0)), (3, .ref qo), (4, .ref qd), (5, .int x5)]) hx hb dL_law_367 hl (by decide) rfl (fun ls hl => ?_)
  refine lv_aload_n hx hb dL_law_369 rfl (lv_at hl 4 rfl) ?_
  have hP := wL_toCP hP
  have hD := wL_toCD hD
  obtain ⟨v8, ev8, h⟩ := o_bind h
  refine g_cVi (As := []) (rest := []) ⟨hx, hb, hml, hown, hts⟩ (m_X6_thrown l hst D cy [] am (oC cy qo o4 :: dD cy qd dv :: xW cy ad S3 []) _ M7  v8 ev8) (cwV 0 hts gL_law_X6_thrown rfl rfl rfl (by decide +kernel) ⟨(Nat.le_of_ble_eq_true rfl), (Nat.le_of_ble_eq_true rfl)⟩) (va_recv hK hP (ci := 6) (q0 := 0) rfl rfl) hP hK hD hS hA hE rfl hl.1 rfl (Nat.le_of_ble_eq_true rfl) dL_law_370 ⟨(by show kc + 1 + 0 ≤ 601024; omega), (by show ks + 6 + 0 ≤ 7293034; omega)⟩ (fun H locs hP hD hS => ?_)
  have hP := wL_ofCP hP
  have hD := wL_ofCD hD
  have hP : va_P D vwCl (wL cy ad am qo qd S3 M7 o4 dv) H := hP
  have hD : va_D (lA s) (wL cy ad am qo qd S3 M7 o4 dv) := hD
  refine W.widen (k := kc + 1) (n := ks + 6) (by omega) (by omega) ?_
  refine lv_iload hx hb dL_law_373 (lv_at hl 1 rfl) ?_
  refine lv_icmp_eq (tgt := 380) hx hb dL_law_375 (by decide) (fun hc => ?_) (fun hc => ?_)
  · have h := o_pos hc h
    refine lv_iload hx hb dL_law_380 (lv_at hl 1 rfl) ?_
    refine lv_if_ne (tgt := 397) hx hb dL_law_382 (by decide) (fun hc => ?_) (fun hc => ?_)
    · have h := o_neg hc h
      refine lv_goto (tgt := 1933) hx hb dL_law_397 (by decide) ?_
      refine lv_iinc (v := (x5 + 5)) (lv' := [(5, .int (x5 + 5)), (7, .int v6), (6, .int v2), (0, .ref b), (1, .ref (ad 0)), (2, .ref (am 0)), (3, .ref qo), (4, .ref qd)]) hx hb dL_law_1933 hl (k := 7) rfl rfl (by decide) rfl (fun ls hl => ?_)
      refine lv_goto (tgt := 28) hx hb dL_law_1936 (by decide) ?_
      refine W.widen (k := kc + 5) (n := ks + 80) (by omega) (by omega) ?_
      exact K S3 M7 o4 dv (x5 + 5) _ _ ls hP hD hS (lv_sub hl [3, 4, 5, 6, 7, 0] rfl) h
    · have h := o_pos hc h
      refine lv_aload_n hx hb dL_law_385 rfl (lv_at hl 5 rfl) ?_
      refine lv_iconst (v := 0) hx hb dL_law_386 (by decide) ?_
      obtain ⟨v9, ev9, h⟩ := o_bind h
      refine g_lald hx hb hK hP 25 33 rfl rfl ev9 dL_law_387 ?_
      refine lv_iload hx hb dL_law_388 (lv_at hl 0 rfl) ?_
      refine lv_i2l (v := ((v6 : Int32).toInt64)) hx hb dL_law_390 rfl ?_
      refine W.lcmp hx hb dL_law_391 ?_
      refine lv_if_eq (tgt := 397) hx hb dL_law_392 (by decide) (fun hc => ?_) (fun hc => ?_)
      · have h := o_pos hc h
        refine lv_goto (tgt := 1933) hx hb dL_law_397 (by decide) ?_
        refine lv_iinc (v := (x5 + 5)) (lv' := [(5, .int (x5 + 5)), (7, .int v6), (6, .int v2), (0, .ref b), (1, .ref (ad 0)), (2, .ref (am 0)), (3, .ref qo), (4, .ref qd)]) hx hb dL_law_1933 hl (k := 7) rfl rfl (by decide) rfl (fun ls hl => ?_)
        refine lv_goto (tgt := 28) hx hb dL_law_1936 (by decide) ?_
        refine W.widen (k := kc + 5) (n := ks + 80) (by omega) (by omega) ?_
        exact K S3 M7 o4 dv (x5 + 5) _ _ ls hP hD hS (lv_sub hl [3, 4, 5, 6, 7, 0] rfl) h
      · have h := o_neg hc h
        refine lv_iconst (v := 0) hx hb dL_law_395 (by decide) ?_
        exact absurd (Option.some.inj h) (by decide)
  · have h := o_neg hc h
    refine lv_iconst (v := 0) hx hb dL_law_378 (by decide) ?_
    exact absurd (Option.some.inj h) (by decide)
set_option maxHeartbeats 4000000 in
set_option maxRecDepth 100000 in
theorem law_c4 {p : Program} {l : Launch} {e : Env} {s : State} {m : MethodId} {below : List Frame} {meth : Method} {c : Code} (hst : l.stackTraces = false) {b L : Nat} {xs : Nat → Int32} (C0 : lw_At p s m meth c b L xs) {D : va_G} {cy : Nat → ClassId} {ad am : Nat → Nat} {qo qd : Nat} (hK : va_K D vwCl (gT cy ++ []) s) (hE : gX (lA s) s) {rec : PS → PS → (Nat → Int64) → (Nat → UInt64) → Int32 → Option Int32} {kc ks : Nat} (hkc : kc + 5 ≤ 601024) (hks : ks + 80 ≤ 7293034) (K : lw_K p l e s m below meth c b D cy ad am qo qd rec (kc + 5) (ks + 80)) (S M : PS) (ov : Nat → Int64) (dv : Nat → UInt64) (x5 : Int32) (H : Heap) (locs : List Loc) (ls : Array Slot) (hP : va_P D vwCl (wL cy ad am qo qd S M ov dv) H) (hD : va_D (lA s) (wL cy ad am qo qd S M ov dv)) (hS : va_S (lA s) s.heap H locs) (hl : lv_has ls 9 [(0, .ref b), (1, .ref (ad 0)), (2, .ref (am 0)), (3, .ref qo), (4, .ref qd), (5, .int x5)]) (h : q_law_c4 xs L rec S M ov dv x5 = some 1) : W p l e room_1 s m #[Value.ref b] below meth c H locs kc ks (lw_Z below #[Value.ref b] s) (F0 m 400 ls []) := by
  obtain ⟨hx, hb, hr, hml, hown, hts0, hX, hbl, hlocks, hgv⟩ := C0
  have hts : ∀ w ∈ wsL_law, w.before #[Value.ref b] s = true := fun w h => hts0 w (wsL_law_in w h)
  have hA : ∀ q : Nat, s.heap.size ≤ q → lA s q := fun _ h => h
  have hbA : ¬ lA s b := Nat.not_le.mpr hbl
  refine W.widen (k := kc + 0) (n := ks + 0) (Nat.le_refl _) (Nat.le_refl _) ?_
  unfold q_law_c4 at h
  refine lv_aload_n hx hb dL_law_400 rfl (lv_at hl 1 rfl) ?_
  refine lv_aload_n hx hb dL_law_401 rfl (lv_at hl 0 rfl) ?_
  refine lv_iload hx hb dL_law_402 (lv_at hl 5 rfl) ?_
  refine lv_iconst (v := 1) hx hb dL_law_404 (by decide) ?_
  refine lv_iadd hx hb dL_law_405 ?_
  obtain ⟨v1, ev1, h⟩ := o_bind h
  refine g_sld hx hb hX hbl hbA hS ev1 dL_law_406 ?_
  refine lv_aload_n hx hb dL_law_407 rfl (lv_at hl 0 rfl) ?_
  refine lv_iload hx hb dL_law_408 (lv_at hl 5 rfl) ?_
  refine lv_iconst (v := 2) hx hb dL_law_410 (by decide) ?_
  refine lv_iadd hx hb dL_law_411 ?_
  obtain ⟨v2, ev2, h⟩ := o_bind h
  refine g_sld hx hb hX hbl hbA hS ev2 dL_law_412 ?_
  refine lv_aload_n hx hb dL_law_413 rfl (lv_at hl 3 rfl) ?_
  obtain ⟨⟨S4, o5, v3⟩, ev3, h⟩ := o_bind h
  refine g_cL (As := [.ref (ad 0), .int v1, .int v2, .ref qo]) (rest := []) ⟨hx, hb, hml, hown, hts⟩ (m_L_isBelow l hst D cy [] ad qo (dD cy qd dv :: mW cy am M []) _ S ov v1 v2 S4 o5 v3 ev3) (vx_cwSW 4 hts gL_law_L_isBelow rfl rfl rfl (by decide +kernel) ⟨(Nat.le_of_ble_eq_true rfl), (Nat.le_of_ble_eq_true rfl)⟩) hP hK hD hS hA hE rfl hl.1 rfl (Nat.le_of_ble_eq_true rfl) dL_law_414 ⟨(by show kc + 0 + 2 ≤ 601024; omega), (by show ks + 0 + 12 ≤ 7293034; omega)⟩ (fun H locs hP hD hS => ?_)
  have hP : va_P D vwCl (wL cy ad am qo qd S4 M o5 dv) H := hP
  have hD : va_D (lA s) (wL cy ad am qo qd S4 M o5 dv) := hD
  refine W.widen (k := kc + 2) (n := ks + 12) (by omega) (by omega) ?_
  refine lv_istore (lv' := [(6, .int v3), (0, .ref b), (1, .ref (ad 0)), (2, .ref (am 0)), (3, .ref qo), (4, .ref qd), (5, .int x5)]) hx hb dL_law_417 hl (by decide) rfl (fun ls hl => ?_)
  refine lv_aload_n hx hb dL_law_419 rfl (lv_at hl 3 rfl) ?_
  refine lv_aload_n hx hb dL_law_420 rfl (lv_at hl 1 rfl) ?_
  refine lv_iload hx hb dL_law_421 (lv_at hl 6 rfl) ?_
  refine lv_iconst (v := 1) hx hb dL_law_423 (by decide) ?_
  refine lv_iadd hx hb dL_law_424 ?_
  obtain ⟨v6, ev6, h⟩ := o_bind h
  refine g_sld hx hb hX hbl hbA hS ev6 dL_law_425 ?_
  refine lv_aload_n hx hb dL_law_426 rfl (lv_at hl 1 rfl) ?_
  refine lv_iload hx hb dL_law_427 (lv_at hl 6 rfl) ?_
  refine lv_iconst (v := 2) hx hb dL_law_429 (by decide) ?_
  refine lv_iadd hx hb dL_law_430 ?_
  obtain ⟨v7, ev7, h⟩ := o_bind h
  refine g_sld hx hb hX hbl hbA hS ev7 dL_law_431 ?_
  have hP := wL_toCP hP
  have hD := wL_toCD hD
  obtain ⟨⟨M9, v8⟩, ev8, h⟩ := o_bind h
  refine g_cVi (As := [.int v6, .int v7]) (rest := []) ⟨hx, hb, hml, hown, hts⟩ (m_X6_isBelow l hst D cy [] am (oC cy qo o5 :: dD cy qd dv :: xW cy ad S4 []) _ M v6 v7 M9 v8 ev8) (cwV 2 hts gL_law_X6_isBelow rfl rfl rfl (by decide +kernel) ⟨(Nat.le_of_ble_eq_true rfl), (Nat.le_of_ble_eq_true rfl)⟩) (va_recv hK hP (ci := 6) (q0 := 0) rfl rfl) hP hK hD hS hA hE rfl hl.1 rfl (Nat.le_of_ble_eq_true rfl) dL_law_432 ⟨(by show kc + 2 + 0 ≤ 601024; omega), (by show ks + 12 + 0 ≤ 7293034; omega)⟩ (fun H locs hP hD hS => ?_)
  have hP := wL_ofCP hP
  have hD := wL_ofCD hD
  have hP : va_P D vwCl (wL cy ad am qo qd S4 M9 o5 dv) H := hP
  have hD : va_D (lA s) (wL cy ad am qo qd S4 M9 o5 dv) := hD
  refine W.widen (k := kc + 2) (n := ks + 12) (by omega) (by omega) ?_
  refine lv_istore (lv' := [(7, .int v8), (6, .int v3), (0, .ref b), (1, .ref (ad 0)), (2, .ref (am 0)), (3, .ref qo), (4, .ref qd), (5, .int x5)]) hx hb dL_law_435 hl (by decide) rfl (fun ls hl => ?_)
  refine lv_aload_n hx hb dL_law_437 rfl (lv_at hl 4 rfl) ?_
  have hP := wL_toCP hP
  have hD := wL_toCD hD
  obtain ⟨v10, ev10, h⟩ := o_bind h
  refine g_cVi (As := []) (rest := []) ⟨hx, hb, hml, hown, hts⟩ (m_X6_thrown l hst D cy [] am (oC cy qo o5 :: dD cy qd dv :: xW cy ad S4 []) _ M9  v10 ev10) (cwV 0 hts gL_law_X6_thrown rfl rfl rfl (by decide +kernel) ⟨(Nat.le_of_ble_eq_true rfl), (Nat.le_of_ble_eq_true rfl)⟩) (va_recv hK hP (ci := 6) (q0 := 0) rfl rfl) hP hK hD hS hA hE rfl hl.1 rfl (Nat.le_of_ble_eq_true rfl) dL_law_438 ⟨(by show kc + 2 + 0 ≤ 601024; omega), (by show ks + 12 + 0 ≤ 7293034; omega)⟩ (fun H locs hP hD hS => ?_)
  have hP := wL_ofCP hP
  have hD := wL_ofCD hD
  have hP : va_P D vwCl (wL cy ad am qo qd S4 M9 o5 dv) H := hP
  have hD : va_D (lA s) (wL cy ad am qo qd S4 M9 o5 dv) := hD
  refine W.widen (k := kc + 2) (n := ks + 12) (by omega) (by omega) ?_
  refine lv_iload hx hb dL_law_441 (lv_at hl 1 rfl) ?_
  refine lv_icmp_eq (tgt := 448) hx hb dL_law_443 (by decide) (fun hc => ?_) (fun hc => ?_)
  · have h := o_pos hc h
    refine lv_iload hx hb dL_law_448 (lv_at hl 1 rfl) ?_
    refine lv_if_ne (tgt := 472) hx hb dL_law_450 (by decide) (fun hc => ?_) (fun hc => ?_)
    · have h := o_neg hc h
      refine lv_goto (tgt := 1933) hx hb dL_law_472 (by decide) ?_
      refine lv_iinc (v := (x5 + 5)) (lv' := [(5, .int (x5 + 5)), (7, .int v8), (6, .int v3), (0, .ref b), (1, .ref (ad 0)), (2, .ref (am 0)), (3, .ref qo), (4, .ref qd)]) hx hb dL_law_1933 hl (k := 7) rfl rfl (by decide) rfl (fun ls hl => ?_)
      refine lv_goto (tgt := 28) hx hb dL_law_1936 (by decide) ?_
      refine W.widen (k := kc + 5) (n := ks + 80) (by omega) (by omega) ?_
      exact K S4 M9 o5 dv (x5 + 5) _ _ ls hP hD hS (lv_sub hl [3, 4, 5, 6, 7, 0] rfl) h
    · have h := o_pos hc h
      refine lv_aload_n hx hb dL_law_453 rfl (lv_at hl 5 rfl) ?_
      refine lv_iconst (v := 0) hx hb dL_law_454 (by decide) ?_
      obtain ⟨v11, ev11, h⟩ := o_bind h
      refine g_lald hx hb hK hP 25 33 rfl rfl ev11 dL_law_455 ?_
      refine lv_iload hx hb dL_law_456 (lv_at hl 0 rfl) ?_
      refine lv_if_eq (tgt := 465) hx hb dL_law_458 (by decide) (fun hc => ?_) (fun hc => ?_)
      · have h := o_pos hc h
        refine lv_lconst (v := 0) hx hb dL_law_465 (by decide) ?_
        refine W.lcmp hx hb dL_law_466 ?_
        refine lv_if_eq (tgt := 472) hx hb dL_law_467 (by decide) (fun hc => ?_) (fun hc => ?_)
        · have h := o_pos hc h
          refine lv_goto (tgt := 1933) hx hb dL_law_472 (by decide) ?_
          refine lv_iinc (v := (x5 + 5)) (lv' := [(5, .int (x5 + 5)), (7, .int v8), (6, .int v3), (0, .ref b), (1, .ref (ad 0)), (2, .ref (am 0)), (3, .ref qo), (4, .ref qd)]) hx hb dL_law_1933 hl (k := 7) rfl rfl (by decide) rfl (fun ls hl => ?_)
          refine lv_goto (tgt := 28) hx hb dL_law_1936 (by decide) ?_
          refine W.widen (k := kc + 5) (n := ks + 80) (by omega) (by omega) ?_
          exact K S4 M9 o5 dv (x5 + 5) _ _ ls hP hD hS (lv_sub hl [3, 4, 5, 6, 7, 0] rfl) h
        · have h := o_neg hc h
          refine lv_iconst (v := 0) hx hb dL_law_470 (by decide) ?_
          exact absurd (Option.some.inj h) (by decide)
      · have h := o_neg hc h
        refine lv_lconst (v := 1) hx hb dL_law_461 (by decide) ?_
        refine lv_goto (tgt := 466) hx hb dL_law_462 (by decide) ?_
        refine W.lcmp hx hb dL_law_466 ?_
        refine lv_if_eq (tgt := 472) hx hb dL_law_467 (by decide) (fun hc => ?_) (fun hc => ?_)
        · have h := o_pos hc h
          refine lv_goto (tgt := 1933) hx hb dL_law_472 (by decide) ?_
          refine lv_iinc (v := (x5 + 5)) (lv' := [(5, .int (x5 + 5)), (7, .int v8), (6, .int v3), (0, .ref b), (1, .ref (ad 0)), (2, .ref (am 0)), (3, .ref qo), (4, .ref qd)]) hx hb dL_law_1933 hl (k := 7) rfl rfl (by decide) rfl (fun ls hl => ?_)
          refine lv_goto (tgt := 28) hx hb dL_law_1936 (by decide) ?_
          refine W.widen (k := kc + 5) (n := ks + 80) (by omega) (by omega) ?_
          exact K S4 M9 o5 dv (x5 + 5) _ _ ls hP hD hS (lv_sub hl [3, 4, 5, 6, 7, 0] rfl) h
        · have h := o_neg hc h
          refine lv_iconst (v := 0) hx hb dL_law_470 (by decide) ?_
          exact absurd (Option.some.inj h) (by decide)
  · have h := o_neg hc h
    refine lv_iconst (v := 0) hx hb dL_law_446 (by decide) ?_
    exact absurd (Option.some.inj h) (by decide)
set_option maxHeartbeats 4000000 in
set_option maxRecDepth 100000 in
theorem law_c5 {p : Program} {l : Launch} {e : Env} {s : State} {m : MethodId} {below : List Frame} {meth : Method} {c : Code} (hst : l.stackTraces = false) {b L : Nat} {xs : Nat → Int32} (C0 : lw_At p s m meth c b L xs) {D : va_G} {cy : Nat → ClassId} {ad am : Nat → Nat} {qo qd : Nat} (hK : va_K D vwCl (gT cy ++ []) s) (hE : gX (lA s) s) {rec : PS → PS → (Nat → Int64) → (Nat → UInt64) → Int32 → Option Int32} {kc ks : Nat} (hkc : kc + 5 ≤ 601024) (hks : ks + 80 ≤ 7293034) (K : lw_K p l e s m below meth c b D cy ad am qo qd rec (kc + 5) (ks + 80)) (S M : PS) (ov : Nat → Int64) (dv : Nat → UInt64) (x5 : Int32) (H : Heap) (locs : List Loc) (ls : Array Slot) (hP : va_P D vwCl (wL cy ad am qo qd S M ov dv) H) (hD : va_D (lA s) (wL cy ad am qo qd S M ov dv)) (hS : va_S (lA s) s.heap H locs) (hl : lv_has ls 9 [(0, .ref b), (1, .ref (ad 0)), (2, .ref (am 0)), (3, .ref qo), (4, .ref qd), (5, .int x5)]) (h : q_law_c5 xs L rec S M ov dv x5 = some 1) : W p l e room_1 s m #[Value.ref b] below meth c H locs kc ks (lw_Z below #[Value.ref b] s) (F0 m 475 ls []) := by
  obtain ⟨hx, hb, hr, hml, hown, hts0, hX, hbl, hlocks, hgv⟩ := C0
  have hts : ∀ w ∈ wsL_law, w.before #[Value.ref b] s = true := fun w h => hts0 w (wsL_law_in w h)
  have hA : ∀ q : Nat, s.heap.size ≤ q → lA s q := fun _ h => h
  have hbA : ¬ lA s b := Nat.not_le.mpr hbl
  refine W.widen (k := kc + 0) (n := ks + 0) (Nat.le_refl _) (Nat.le_refl _) ?_
  unfold q_law_c5 at h
  refine lv_aload_n hx hb dL_law_475 rfl (lv_at hl 1 rfl) ?_
  refine lv_aload_n hx hb dL_law_476 rfl (lv_at hl 0 rfl) ?_
  refine lv_iload hx hb dL_law_477 (lv_at hl 5 rfl) ?_
  refine lv_iconst (v := 1) hx hb dL_law_479 (by decide) ?_
  refine lv_iadd hx hb dL_law_480 ?_
  obtain ⟨v1, ev1, h⟩ := o_bind h
  refine g_sld hx hb hX hbl hbA hS ev1 dL_law_481 ?_
  refine lv_aload_n hx hb dL_law_482 rfl (lv_at hl 3 rfl) ?_
  obtain ⟨⟨S3, o4, v2⟩, ev2, h⟩ := o_bind h
  refine g_cL (As := [.ref (ad 0), .int v1, .ref qo]) (rest := []) ⟨hx, hb, hml, hown, hts⟩ (m_L_liveBelow l hst D cy [] ad qo (dD cy qd dv :: mW cy am M []) _ S ov v1 S3 o4 v2 ev2) (vx_cwSW 3 hts gL_law_L_liveBelow rfl rfl rfl (by decide +kernel) ⟨(Nat.le_of_ble_eq_true rfl), (Nat.le_of_ble_eq_true rfl)⟩) hP hK hD hS hA hE rfl hl.1 rfl (Nat.le_of_ble_eq_true rfl) dL_law_483 ⟨(by show kc + 0 + 1 ≤ 601024; omega), (by show ks + 0 + 6 ≤ 7293034; omega)⟩ (fun H locs hP hD hS => ?_)
  have hP : va_P D vwCl (wL cy ad am qo qd S3 M o4 dv) H := hP
  have hD : va_D (lA s) (wL cy ad am qo qd S3 M o4 dv) := hD
  refine W.widen (k := kc + 1) (n := ks + 6) (by omega) (by omega) ?_
  refine lv_istore (lv' := [(6, .int v2), (0, .ref b), (1, .ref (ad 0)), (2, .ref (am 0)), (3, .ref qo), (4, .ref qd), (5, .int x5)]) hx hb dL_law_486 hl (by decide) rfl (fun ls hl => ?_)
  refine lv_aload_n hx hb dL_law_488 rfl (lv_at hl 3 rfl) ?_
  refine lv_aload_n hx hb dL_law_489 rfl (lv_at hl 1 rfl) ?_
  refine lv_iload hx hb dL_law_490 (lv_at hl 6 rfl) ?_
  refine lv_iconst (v := 1) hx hb dL_law_492 (by decide) ?_
  refine lv_iadd hx hb dL_law_493 ?_
  obtain ⟨v5, ev5, h⟩ := o_bind h
  refine g_sld hx hb hX hbl hbA hS ev5 dL_law_494 ?_
  have hP := wL_toCP hP
  have hD := wL_toCD hD
  obtain ⟨⟨M7, v6⟩, ev6, h⟩ := o_bind h
  refine g_cVi (As := [.int v5]) (rest := []) ⟨hx, hb, hml, hown, hts⟩ (m_X6_liveBelow l hst D cy [] am (oC cy qo o4 :: dD cy qd dv :: xW cy ad S3 []) _ M v5 M7 v6 ev6) (cwV 1 hts gL_law_X6_liveBelow rfl rfl rfl (by decide +kernel) ⟨(Nat.le_of_ble_eq_true rfl), (Nat.le_of_ble_eq_true rfl)⟩) (va_recv hK hP (ci := 6) (q0 := 0) rfl rfl) hP hK hD hS hA hE rfl hl.1 rfl (Nat.le_of_ble_eq_true rfl) dL_law_495 ⟨(by show kc + 1 + 0 ≤ 601024; omega), (by show ks + 6 + 0 ≤ 7293034; omega)⟩ (fun H locs hP hD hS => ?_)
  have hP := wL_ofCP hP
  have hD := wL_ofCD hD
  have hP : va_P D vwCl (wL cy ad am qo qd S3 M7 o4 dv) H := hP
  have hD : va_D (lA s) (wL cy ad am qo qd S3 M7 o4 dv) := hD
  refine W.widen (k := kc + 1) (n := ks + 6) (by omega) (by omega) ?_
  refine lv_istore (lv' := [(7, .int v6), (6, .int v2), (0, .ref b), (1, .ref (ad 0)), (2, .ref (am 0)), (3, .ref qo), (4, .ref qd), (5, .int x5)]) hx hb dL_law_498 hl (by decide) rfl (fun ls hl => ?_)
  refine lv_aload_n hx hb dL_law_500 rfl (lv_at hl 4 rfl) ?_
  have hP := wL_toCP hP
  have hD := wL_toCD hD
  obtain ⟨v8, ev8, h⟩ := o_bind h
  refine g_cVi (As := []) (rest := []) ⟨hx, hb, hml, hown, hts⟩ (m_X6_thrown l hst D cy [] am (oC cy qo o4 :: dD cy qd dv :: xW cy ad S3 []) _ M7  v8 ev8) (cwV 0 hts gL_law_X6_thrown rfl rfl rfl (by decide +kernel) ⟨(Nat.le_of_ble_eq_true rfl), (Nat.le_of_ble_eq_true rfl)⟩) (va_recv hK hP (ci := 6) (q0 := 0) rfl rfl) hP hK hD hS hA hE rfl hl.1 rfl (Nat.le_of_ble_eq_true rfl) dL_law_501 ⟨(by show kc + 1 + 0 ≤ 601024; omega), (by show ks + 6 + 0 ≤ 7293034; omega)⟩ (fun H locs hP hD hS => ?_)
  have hP := wL_ofCP hP
  have hD := wL_ofCD hD
  have hP : va_P D vwCl (wL cy ad am qo qd S3 M7 o4 dv) H := hP
  have hD : va_D (lA s) (wL cy ad am qo qd S3 M7 o4 dv) := hD
  refine W.widen (k := kc + 1) (n := ks + 6) (by omega) (by omega) ?_
  refine lv_iload hx hb dL_law_504 (lv_at hl 1 rfl) ?_
  refine lv_icmp_eq (tgt := 511) hx hb dL_law_506 (by decide) (fun hc => ?_) (fun hc => ?_)
  · have h := o_pos hc h
    refine lv_iload hx hb dL_law_511 (lv_at hl 1 rfl) ?_
    refine lv_if_ne (tgt := 528) hx hb dL_law_513 (by decide) (fun hc => ?_) (fun hc => ?_)
    · have h := o_neg hc h
      refine lv_goto (tgt := 1933) hx hb dL_law_528 (by decide) ?_
      refine lv_iinc (v := (x5 + 5)) (lv' := [(5, .int (x5 + 5)), (7, .int v6), (6, .int v2), (0, .ref b), (1, .ref (ad 0)), (2, .ref (am 0)), (3, .ref qo), (4, .ref qd)]) hx hb dL_law_1933 hl (k := 7) rfl rfl (by decide) rfl (fun ls hl => ?_)
      refine lv_goto (tgt := 28) hx hb dL_law_1936 (by decide) ?_
      refine W.widen (k := kc + 5) (n := ks + 80) (by omega) (by omega) ?_
      exact K S3 M7 o4 dv (x5 + 5) _ _ ls hP hD hS (lv_sub hl [3, 4, 5, 6, 7, 0] rfl) h
    · have h := o_pos hc h
      refine lv_aload_n hx hb dL_law_516 rfl (lv_at hl 5 rfl) ?_
      refine lv_iconst (v := 0) hx hb dL_law_517 (by decide) ?_
      obtain ⟨v9, ev9, h⟩ := o_bind h
      refine g_lald hx hb hK hP 25 33 rfl rfl ev9 dL_law_518 ?_
      refine lv_iload hx hb dL_law_519 (lv_at hl 0 rfl) ?_
      refine lv_i2l (v := ((v6 : Int32).toInt64)) hx hb dL_law_521 rfl ?_
      refine W.lcmp hx hb dL_law_522 ?_
      refine lv_if_eq (tgt := 528) hx hb dL_law_523 (by decide) (fun hc => ?_) (fun hc => ?_)
      · have h := o_pos hc h
        refine lv_goto (tgt := 1933) hx hb dL_law_528 (by decide) ?_
        refine lv_iinc (v := (x5 + 5)) (lv' := [(5, .int (x5 + 5)), (7, .int v6), (6, .int v2), (0, .ref b), (1, .ref (ad 0)), (2, .ref (am 0)), (3, .ref qo), (4, .ref qd)]) hx hb dL_law_1933 hl (k := 7) rfl rfl (by decide) rfl (fun ls hl => ?_)
        refine lv_goto (tgt := 28) hx hb dL_law_1936 (by decide) ?_
        refine W.widen (k := kc + 5) (n := ks + 80) (by omega) (by omega) ?_
        exact K S3 M7 o4 dv (x5 + 5) _ _ ls hP hD hS (lv_sub hl [3, 4, 5, 6, 7, 0] rfl) h
      · have h := o_neg hc h
        refine lv_iconst (v := 0) hx hb dL_law_526 (by decide) ?_
        exact absurd (Option.some.inj h) (by decide)
  · have h := o_neg hc h
    refine lv_iconst (v := 0) hx hb dL_law_509 (by decide) ?_
    exact absurd (Option.some.inj h) (by decide)
set_option maxHeartbeats 4000000 in
set_option maxRecDepth 100000 in
theorem law_c6 {p : Program} {l : Launch} {e : Env} {s : State} {m : MethodId} {below : List Frame} {meth : Method} {c : Code} (hst : l.stackTraces = false) {b L : Nat} {xs : Nat → Int32} (C0 : lw_At p s m meth c b L xs) {D : va_G} {cy : Nat → ClassId} {ad am : Nat → Nat} {qo qd : Nat} (hK : va_K D vwCl (gT cy ++ []) s) (hE : gX (lA s) s) {rec : PS → PS → (Nat → Int64) → (Nat → UInt64) → Int32 → Option Int32} {kc ks : Nat} (hkc : kc + 5 ≤ 601024) (hks : ks + 80 ≤ 7293034) (K : lw_K p l e s m below meth c b D cy ad am qo qd rec (kc + 5) (ks + 80)) (S M : PS) (ov : Nat → Int64) (dv : Nat → UInt64) (x5 : Int32) (H : Heap) (locs : List Loc) (ls : Array Slot) (hP : va_P D vwCl (wL cy ad am qo qd S M ov dv) H) (hD : va_D (lA s) (wL cy ad am qo qd S M ov dv)) (hS : va_S (lA s) s.heap H locs) (hl : lv_has ls 9 [(0, .ref b), (1, .ref (ad 0)), (2, .ref (am 0)), (3, .ref qo), (4, .ref qd), (5, .int x5)]) (h : q_law_c6 xs L rec S M ov dv x5 = some 1) : W p l e room_1 s m #[Value.ref b] below meth c H locs kc ks (lw_Z below #[Value.ref b] s) (F0 m 531 ls []) := by
  obtain ⟨hx, hb, hr, hml, hown, hts0, hX, hbl, hlocks, hgv⟩ := C0
  have hts : ∀ w ∈ wsL_law, w.before #[Value.ref b] s = true := fun w h => hts0 w (wsL_law_in w h)
  have hA : ∀ q : Nat, s.heap.size ≤ q → lA s q := fun _ h => h
  have hbA : ¬ lA s b := Nat.not_le.mpr hbl
  refine W.widen (k := kc + 0) (n := ks + 0) (Nat.le_refl _) (Nat.le_refl _) ?_
  unfold q_law_c6 at h
  refine lv_aload_n hx hb dL_law_531 rfl (lv_at hl 1 rfl) ?_
  refine lv_aload_n hx hb dL_law_532 rfl (lv_at hl 0 rfl) ?_
  refine lv_iload hx hb dL_law_533 (lv_at hl 5 rfl) ?_
  refine lv_iconst (v := 1) hx hb dL_law_535 (by decide) ?_
  refine lv_iadd hx hb dL_law_536 ?_
  obtain ⟨v1, ev1, h⟩ := o_bind h
  refine g_sld hx hb hX hbl hbA hS ev1 dL_law_537 ?_
  refine lv_aload_n hx hb dL_law_538 rfl (lv_at hl 0 rfl) ?_
  refine lv_iload hx hb dL_law_539 (lv_at hl 5 rfl) ?_
  refine lv_iconst (v := 2) hx hb dL_law_541 (by decide) ?_
  refine lv_iadd hx hb dL_law_542 ?_
  obtain ⟨v2, ev2, h⟩ := o_bind h
  refine g_sld hx hb hX hbl hbA hS ev2 dL_law_543 ?_
  refine lv_aload_n hx hb dL_law_544 rfl (lv_at hl 0 rfl) ?_
  refine lv_iload hx hb dL_law_545 (lv_at hl 5 rfl) ?_
  refine lv_iconst (v := 3) hx hb dL_law_547 (by decide) ?_
  refine lv_iadd hx hb dL_law_548 ?_
  obtain ⟨v3, ev3, h⟩ := o_bind h
  refine g_sld hx hb hX hbl hbA hS ev3 dL_law_549 ?_
  refine lv_aload_n hx hb dL_law_550 rfl (lv_at hl 3 rfl) ?_
  obtain ⟨⟨S5, o6, v4⟩, ev4, h⟩ := o_bind h
  refine g_cL (As := [.ref (ad 0), .int v1, .int v2, .int v3, .ref qo]) (rest := []) ⟨hx, hb, hml, hown, hts⟩ (m_L_addMethod l hst D cy [] ad qo (dD cy qd dv :: mW cy am M []) _ S ov v1 v2 v3 S5 o6 v4 ev4) (vx_cwSW 5 hts gL_law_L_addMethod rfl rfl rfl (by decide +kernel) ⟨(Nat.le_of_ble_eq_true rfl), (Nat.le_of_ble_eq_true rfl)⟩) hP hK hD hS hA hE rfl hl.1 rfl (Nat.le_of_ble_eq_true rfl) dL_law_551 ⟨(by show kc + 0 + 3 ≤ 601024; omega), (by show ks + 0 + 18 ≤ 7293034; omega)⟩ (fun H locs hP hD hS => ?_)
  have hP : va_P D vwCl (wL cy ad am qo qd S5 M o6 dv) H := hP
  have hD : va_D (lA s) (wL cy ad am qo qd S5 M o6 dv) := hD
  refine W.widen (k := kc + 3) (n := ks + 18) (by omega) (by omega) ?_
  refine lv_istore (lv' := [(6, .int v4), (0, .ref b), (1, .ref (ad 0)), (2, .ref (am 0)), (3, .ref qo), (4, .ref qd), (5, .int x5)]) hx hb dL_law_554 hl (by decide) rfl (fun ls hl => ?_)
  refine lv_aload_n hx hb dL_law_556 rfl (lv_at hl 3 rfl) ?_
  refine lv_aload_n hx hb dL_law_557 rfl (lv_at hl 1 rfl) ?_
  refine lv_iload hx hb dL_law_558 (lv_at hl 6 rfl) ?_
  refine lv_iconst (v := 1) hx hb dL_law_560 (by decide) ?_
  refine lv_iadd hx hb dL_law_561 ?_
  obtain ⟨v7, ev7, h⟩ := o_bind h
  refine g_sld hx hb hX hbl hbA hS ev7 dL_law_562 ?_
  refine lv_aload_n hx hb dL_law_563 rfl (lv_at hl 1 rfl) ?_
  refine lv_iload hx hb dL_law_564 (lv_at hl 6 rfl) ?_
  refine lv_iconst (v := 2) hx hb dL_law_566 (by decide) ?_
  refine lv_iadd hx hb dL_law_567 ?_
  obtain ⟨v8, ev8, h⟩ := o_bind h
  refine g_sld hx hb hX hbl hbA hS ev8 dL_law_568 ?_
  refine lv_aload_n hx hb dL_law_569 rfl (lv_at hl 1 rfl) ?_
  refine lv_iload hx hb dL_law_570 (lv_at hl 6 rfl) ?_
  refine lv_iconst (v := 3) hx hb dL_law_572 (by decide) ?_
  refine lv_iadd hx hb dL_law_573 ?_
  obtain ⟨v9, ev9, h⟩ := o_bind h
  refine g_sld hx hb hX hbl hbA hS ev9 dL_law_574 ?_
  have hP := wL_toCP hP
  have hD := wL_toCD hD
  obtain ⟨⟨M11, v10⟩, ev10, h⟩ := o_bind h
  refine g_cVi (As := [.int v7, .int v8, .int v9]) (rest := []) ⟨hx, hb, hml, hown, hts⟩ (m_X6_addMethod l hst D cy [] am (oC cy qo o6 :: dD cy qd dv :: xW cy ad S5 []) _ M v7 v8 v9 M11 v10 ev10) (cwV 3 hts gL_law_X6_addMethod rfl rfl rfl (by decide +kernel) ⟨(Nat.le_of_ble_eq_true rfl), (Nat.le_of_ble_eq_true rfl)⟩) (va_recv hK hP (ci := 6) (q0 := 0) rfl rfl) hP hK hD hS hA hE rfl hl.1 rfl (Nat.le_of_ble_eq_true rfl) dL_law_575 ⟨(by show kc + 3 + 0 ≤ 601024; omega), (by show ks + 18 + 0 ≤ 7293034; omega)⟩ (fun H locs hP hD hS => ?_)
  have hP := wL_ofCP hP
  have hD := wL_ofCD hD
  have hP : va_P D vwCl (wL cy ad am qo qd S5 M11 o6 dv) H := hP
  have hD : va_D (lA s) (wL cy ad am qo qd S5 M11 o6 dv) := hD
  refine W.widen (k := kc + 3) (n := ks + 18) (by omega) (by omega) ?_
  refine lv_istore (lv' := [(7, .int v10), (6, .int v4), (0, .ref b), (1, .ref (ad 0)), (2, .ref (am 0)), (3, .ref qo), (4, .ref qd), (5, .int x5)]) hx hb dL_law_578 hl (by decide) rfl (fun ls hl => ?_)
  refine lv_aload_n hx hb dL_law_580 rfl (lv_at hl 4 rfl) ?_
  have hP := wL_toCP hP
  have hD := wL_toCD hD
  obtain ⟨v12, ev12, h⟩ := o_bind h
  refine g_cVi (As := []) (rest := []) ⟨hx, hb, hml, hown, hts⟩ (m_X6_thrown l hst D cy [] am (oC cy qo o6 :: dD cy qd dv :: xW cy ad S5 []) _ M11  v12 ev12) (cwV 0 hts gL_law_X6_thrown rfl rfl rfl (by decide +kernel) ⟨(Nat.le_of_ble_eq_true rfl), (Nat.le_of_ble_eq_true rfl)⟩) (va_recv hK hP (ci := 6) (q0 := 0) rfl rfl) hP hK hD hS hA hE rfl hl.1 rfl (Nat.le_of_ble_eq_true rfl) dL_law_581 ⟨(by show kc + 3 + 0 ≤ 601024; omega), (by show ks + 18 + 0 ≤ 7293034; omega)⟩ (fun H locs hP hD hS => ?_)
  have hP := wL_ofCP hP
  have hD := wL_ofCD hD
  have hP : va_P D vwCl (wL cy ad am qo qd S5 M11 o6 dv) H := hP
  have hD : va_D (lA s) (wL cy ad am qo qd S5 M11 o6 dv) := hD
  refine W.widen (k := kc + 3) (n := ks + 18) (by omega) (by omega) ?_
  refine lv_iload hx hb dL_law_584 (lv_at hl 1 rfl) ?_
  refine lv_icmp_eq (tgt := 591) hx hb dL_law_586 (by decide) (fun hc => ?_) (fun hc => ?_)
  · have h := o_pos hc h
    refine lv_iload hx hb dL_law_591 (lv_at hl 1 rfl) ?_
    refine lv_if_ne (tgt := 608) hx hb dL_law_593 (by decide) (fun hc => ?_) (fun hc => ?_)
    · have h := o_neg hc h
      refine lv_goto (tgt := 1933) hx hb dL_law_608 (by decide) ?_
      refine lv_iinc (v := (x5 + 5)) (lv' := [(5, .int (x5 + 5)), (7, .int v10), (6, .int v4), (0, .ref b), (1, .ref (ad 0)), (2, .ref (am 0)), (3, .ref qo), (4, .ref qd)]) hx hb dL_law_1933 hl (k := 7) rfl rfl (by decide) rfl (fun ls hl => ?_)
      refine lv_goto (tgt := 28) hx hb dL_law_1936 (by decide) ?_
      refine W.widen (k := kc + 5) (n := ks + 80) (by omega) (by omega) ?_
      exact K S5 M11 o6 dv (x5 + 5) _ _ ls hP hD hS (lv_sub hl [3, 4, 5, 6, 7, 0] rfl) h
    · have h := o_pos hc h
      refine lv_aload_n hx hb dL_law_596 rfl (lv_at hl 5 rfl) ?_
      refine lv_iconst (v := 0) hx hb dL_law_597 (by decide) ?_
      obtain ⟨v13, ev13, h⟩ := o_bind h
      refine g_lald hx hb hK hP 25 33 rfl rfl ev13 dL_law_598 ?_
      refine lv_iload hx hb dL_law_599 (lv_at hl 0 rfl) ?_
      refine lv_i2l (v := ((v10 : Int32).toInt64)) hx hb dL_law_601 rfl ?_
      refine W.lcmp hx hb dL_law_602 ?_
      refine lv_if_eq (tgt := 608) hx hb dL_law_603 (by decide) (fun hc => ?_) (fun hc => ?_)
      · have h := o_pos hc h
        refine lv_goto (tgt := 1933) hx hb dL_law_608 (by decide) ?_
        refine lv_iinc (v := (x5 + 5)) (lv' := [(5, .int (x5 + 5)), (7, .int v10), (6, .int v4), (0, .ref b), (1, .ref (ad 0)), (2, .ref (am 0)), (3, .ref qo), (4, .ref qd)]) hx hb dL_law_1933 hl (k := 7) rfl rfl (by decide) rfl (fun ls hl => ?_)
        refine lv_goto (tgt := 28) hx hb dL_law_1936 (by decide) ?_
        refine W.widen (k := kc + 5) (n := ks + 80) (by omega) (by omega) ?_
        exact K S5 M11 o6 dv (x5 + 5) _ _ ls hP hD hS (lv_sub hl [3, 4, 5, 6, 7, 0] rfl) h
      · have h := o_neg hc h
        refine lv_iconst (v := 0) hx hb dL_law_606 (by decide) ?_
        exact absurd (Option.some.inj h) (by decide)
  · have h := o_neg hc h
    refine lv_iconst (v := 0) hx hb dL_law_589 (by decide) ?_
    exact absurd (Option.some.inj h) (by decide)
set_option maxHeartbeats 4000000 in
set_option maxRecDepth 100000 in
theorem law_c7 {p : Program} {l : Launch} {e : Env} {s : State} {m : MethodId} {below : List Frame} {meth : Method} {c : Code} (hst : l.stackTraces = false) {b L : Nat} {xs : Nat → Int32} (C0 : lw_At p s m meth c b L xs) {D : va_G} {cy : Nat → ClassId} {ad am : Nat → Nat} {qo qd : Nat} (hK : va_K D vwCl (gT cy ++ []) s) (hE : gX (lA s) s) {rec : PS → PS → (Nat → Int64) → (Nat → UInt64) → Int32 → Option Int32} {kc ks : Nat} (hkc : kc + 5 ≤ 601024) (hks : ks + 80 ≤ 7293034) (K : lw_K p l e s m below meth c b D cy ad am qo qd rec (kc + 5) (ks + 80)) (S M : PS) (ov : Nat → Int64) (dv : Nat → UInt64) (x5 : Int32) (H : Heap) (locs : List Loc) (ls : Array Slot) (hP : va_P D vwCl (wL cy ad am qo qd S M ov dv) H) (hD : va_D (lA s) (wL cy ad am qo qd S M ov dv)) (hS : va_S (lA s) s.heap H locs) (hl : lv_has ls 9 [(0, .ref b), (1, .ref (ad 0)), (2, .ref (am 0)), (3, .ref qo), (4, .ref qd), (5, .int x5)]) (h : q_law_c7 xs L rec S M ov dv x5 = some 1) : W p l e room_1 s m #[Value.ref b] below meth c H locs kc ks (lw_Z below #[Value.ref b] s) (F0 m 611 ls []) := by
  obtain ⟨hx, hb, hr, hml, hown, hts0, hX, hbl, hlocks, hgv⟩ := C0
  have hts : ∀ w ∈ wsL_law, w.before #[Value.ref b] s = true := fun w h => hts0 w (wsL_law_in w h)
  have hA : ∀ q : Nat, s.heap.size ≤ q → lA s q := fun _ h => h
  have hbA : ¬ lA s b := Nat.not_le.mpr hbl
  refine W.widen (k := kc + 0) (n := ks + 0) (Nat.le_refl _) (Nat.le_refl _) ?_
  unfold q_law_c7 at h
  refine lv_aload_n hx hb dL_law_611 rfl (lv_at hl 1 rfl) ?_
  refine lv_aload_n hx hb dL_law_612 rfl (lv_at hl 0 rfl) ?_
  refine lv_iload hx hb dL_law_613 (lv_at hl 5 rfl) ?_
  refine lv_iconst (v := 1) hx hb dL_law_615 (by decide) ?_
  refine lv_iadd hx hb dL_law_616 ?_
  obtain ⟨v1, ev1, h⟩ := o_bind h
  refine g_sld hx hb hX hbl hbA hS ev1 dL_law_617 ?_
  refine lv_aload_n hx hb dL_law_618 rfl (lv_at hl 0 rfl) ?_
  refine lv_iload hx hb dL_law_619 (lv_at hl 5 rfl) ?_
  refine lv_iconst (v := 2) hx hb dL_law_621 (by decide) ?_
  refine lv_iadd hx hb dL_law_622 ?_
  obtain ⟨v2, ev2, h⟩ := o_bind h
  refine g_sld hx hb hX hbl hbA hS ev2 dL_law_623 ?_
  refine lv_aload_n hx hb dL_law_624 rfl (lv_at hl 0 rfl) ?_
  refine lv_iload hx hb dL_law_625 (lv_at hl 5 rfl) ?_
  refine lv_iconst (v := 3) hx hb dL_law_627 (by decide) ?_
  refine lv_iadd hx hb dL_law_628 ?_
  obtain ⟨v3, ev3, h⟩ := o_bind h
  refine g_sld hx hb hX hbl hbA hS ev3 dL_law_629 ?_
  refine lv_aload_n hx hb dL_law_630 rfl (lv_at hl 0 rfl) ?_
  refine lv_iload hx hb dL_law_631 (lv_at hl 5 rfl) ?_
  refine lv_iconst (v := 4) hx hb dL_law_633 (by decide) ?_
  refine lv_iadd hx hb dL_law_634 ?_
  obtain ⟨v4, ev4, h⟩ := o_bind h
  refine g_sld hx hb hX hbl hbA hS ev4 dL_law_635 ?_
  refine lv_aload_n hx hb dL_law_636 rfl (lv_at hl 3 rfl) ?_
  obtain ⟨⟨S6, o7, v5⟩, ev5, h⟩ := o_bind h
  refine g_cL (As := [.ref (ad 0), .int v1, .int v2, .int v3, .int v4, .ref qo]) (rest := []) ⟨hx, hb, hml, hown, hts⟩ (m_L_addCall l hst D cy [] ad qo (dD cy qd dv :: mW cy am M []) _ S ov v1 v2 v3 v4 S6 o7 v5 ev5) (vx_cwSW 6 hts gL_law_L_addCall rfl rfl rfl (by decide +kernel) ⟨(Nat.le_of_ble_eq_true rfl), (Nat.le_of_ble_eq_true rfl)⟩) hP hK hD hS hA hE rfl hl.1 rfl (Nat.le_of_ble_eq_true rfl) dL_law_637 ⟨(by show kc + 0 + 4 ≤ 601024; omega), (by show ks + 0 + 24 ≤ 7293034; omega)⟩ (fun H locs hP hD hS => ?_)
  have hP : va_P D vwCl (wL cy ad am qo qd S6 M o7 dv) H := hP
  have hD : va_D (lA s) (wL cy ad am qo qd S6 M o7 dv) := hD
  refine W.widen (k := kc + 4) (n := ks + 24) (by omega) (by omega) ?_
  refine lv_istore (lv' := [(6, .int v5), (0, .ref b), (1, .ref (ad 0)), (2, .ref (am 0)), (3, .ref qo), (4, .ref qd), (5, .int x5)]) hx hb dL_law_640 hl (by decide) rfl (fun ls hl => ?_)
  refine lv_aload_n hx hb dL_law_642 rfl (lv_at hl 3 rfl) ?_
  refine lv_aload_n hx hb dL_law_643 rfl (lv_at hl 1 rfl) ?_
  refine lv_iload hx hb dL_law_644 (lv_at hl 6 rfl) ?_
  refine lv_iconst (v := 1) hx hb dL_law_646 (by decide) ?_
  refine lv_iadd hx hb dL_law_647 ?_
  obtain ⟨v8, ev8, h⟩ := o_bind h
  refine g_sld hx hb hX hbl hbA hS ev8 dL_law_648 ?_
  refine lv_aload_n hx hb dL_law_649 rfl (lv_at hl 1 rfl) ?_
  refine lv_iload hx hb dL_law_650 (lv_at hl 6 rfl) ?_
  refine lv_iconst (v := 2) hx hb dL_law_652 (by decide) ?_
  refine lv_iadd hx hb dL_law_653 ?_
  obtain ⟨v9, ev9, h⟩ := o_bind h
  refine g_sld hx hb hX hbl hbA hS ev9 dL_law_654 ?_
  refine lv_aload_n hx hb dL_law_655 rfl (lv_at hl 1 rfl) ?_
  refine lv_iload hx hb dL_law_656 (lv_at hl 6 rfl) ?_
  refine lv_iconst (v := 3) hx hb dL_law_658 (by decide) ?_
  refine lv_iadd hx hb dL_law_659 ?_
  obtain ⟨v10, ev10, h⟩ := o_bind h
  refine g_sld hx hb hX hbl hbA hS ev10 dL_law_660 ?_
  refine lv_aload_n hx hb dL_law_661 rfl (lv_at hl 1 rfl) ?_
  refine lv_iload hx hb dL_law_662 (lv_at hl 6 rfl) ?_
  refine lv_iconst (v := 4) hx hb dL_law_664 (by decide) ?_
  refine lv_iadd hx hb dL_law_665 ?_
  obtain ⟨v11, ev11, h⟩ := o_bind h
  refine g_sld hx hb hX hbl hbA hS ev11 dL_law_666 ?_
  have hP := wL_toCP hP
  have hD := wL_toCD hD
  obtain ⟨⟨M13, v12⟩, ev12, h⟩ := o_bind h
  refine g_cVi (As := [.int v8, .int v9, .int v10, .int v11]) (rest := []) ⟨hx, hb, hml, hown, hts⟩ (m_X6_addCall l hst D cy [] am (oC cy qo o7 :: dD cy qd dv :: xW cy ad S6 []) _ M v8 v9 v10 v11 M13 v12 ev12) (cwV 4 hts gL_law_X6_addCall rfl rfl rfl (by decide +kernel) ⟨(Nat.le_of_ble_eq_true rfl), (Nat.le_of_ble_eq_true rfl)⟩) (va_recv hK hP (ci := 6) (q0 := 0) rfl rfl) hP hK hD hS hA hE rfl hl.1 rfl (Nat.le_of_ble_eq_true rfl) dL_law_667 ⟨(by show kc + 4 + 0 ≤ 601024; omega), (by show ks + 24 + 0 ≤ 7293034; omega)⟩ (fun H locs hP hD hS => ?_)
  have hP := wL_ofCP hP
  have hD := wL_ofCD hD
  have hP : va_P D vwCl (wL cy ad am qo qd S6 M13 o7 dv) H := hP
  have hD : va_D (lA s) (wL cy ad am qo qd S6 M13 o7 dv) := hD
  refine W.widen (k := kc + 4) (n := ks + 24) (by omega) (by omega) ?_
  refine lv_istore (lv' := [(7, .int v12), (6, .int v5), (0, .ref b), (1, .ref (ad 0)), (2, .ref (am 0)), (3, .ref qo), (4, .ref qd), (5, .int x5)]) hx hb dL_law_670 hl (by decide) rfl (fun ls hl => ?_)
  refine lv_aload_n hx hb dL_law_672 rfl (lv_at hl 4 rfl) ?_
  have hP := wL_toCP hP
  have hD := wL_toCD hD
  obtain ⟨v14, ev14, h⟩ := o_bind h
  refine g_cVi (As := []) (rest := []) ⟨hx, hb, hml, hown, hts⟩ (m_X6_thrown l hst D cy [] am (oC cy qo o7 :: dD cy qd dv :: xW cy ad S6 []) _ M13  v14 ev14) (cwV 0 hts gL_law_X6_thrown rfl rfl rfl (by decide +kernel) ⟨(Nat.le_of_ble_eq_true rfl), (Nat.le_of_ble_eq_true rfl)⟩) (va_recv hK hP (ci := 6) (q0 := 0) rfl rfl) hP hK hD hS hA hE rfl hl.1 rfl (Nat.le_of_ble_eq_true rfl) dL_law_673 ⟨(by show kc + 4 + 0 ≤ 601024; omega), (by show ks + 24 + 0 ≤ 7293034; omega)⟩ (fun H locs hP hD hS => ?_)
  have hP := wL_ofCP hP
  have hD := wL_ofCD hD
  have hP : va_P D vwCl (wL cy ad am qo qd S6 M13 o7 dv) H := hP
  have hD : va_D (lA s) (wL cy ad am qo qd S6 M13 o7 dv) := hD
  refine W.widen (k := kc + 4) (n := ks + 24) (by omega) (by omega) ?_
  refine lv_iload hx hb dL_law_676 (lv_at hl 1 rfl) ?_
  refine lv_icmp_eq (tgt := 683) hx hb dL_law_678 (by decide) (fun hc => ?_) (fun hc => ?_)
  · have h := o_pos hc h
    refine lv_iload hx hb dL_law_683 (lv_at hl 1 rfl) ?_
    refine lv_if_ne (tgt := 700) hx hb dL_law_685 (by decide) (fun hc => ?_) (fun hc => ?_)
    · have h := o_neg hc h
      refine lv_goto (tgt := 1933) hx hb dL_law_700 (by decide) ?_
      refine lv_iinc (v := (x5 + 5)) (lv' := [(5, .int (x5 + 5)), (7, .int v12), (6, .int v5), (0, .ref b), (1, .ref (ad 0)), (2, .ref (am 0)), (3, .ref qo), (4, .ref qd)]) hx hb dL_law_1933 hl (k := 7) rfl rfl (by decide) rfl (fun ls hl => ?_)
      refine lv_goto (tgt := 28) hx hb dL_law_1936 (by decide) ?_
      refine W.widen (k := kc + 5) (n := ks + 80) (by omega) (by omega) ?_
      exact K S6 M13 o7 dv (x5 + 5) _ _ ls hP hD hS (lv_sub hl [3, 4, 5, 6, 7, 0] rfl) h
    · have h := o_pos hc h
      refine lv_aload_n hx hb dL_law_688 rfl (lv_at hl 5 rfl) ?_
      refine lv_iconst (v := 0) hx hb dL_law_689 (by decide) ?_
      obtain ⟨v15, ev15, h⟩ := o_bind h
      refine g_lald hx hb hK hP 25 33 rfl rfl ev15 dL_law_690 ?_
      refine lv_iload hx hb dL_law_691 (lv_at hl 0 rfl) ?_
      refine lv_i2l (v := ((v12 : Int32).toInt64)) hx hb dL_law_693 rfl ?_
      refine W.lcmp hx hb dL_law_694 ?_
      refine lv_if_eq (tgt := 700) hx hb dL_law_695 (by decide) (fun hc => ?_) (fun hc => ?_)
      · have h := o_pos hc h
        refine lv_goto (tgt := 1933) hx hb dL_law_700 (by decide) ?_
        refine lv_iinc (v := (x5 + 5)) (lv' := [(5, .int (x5 + 5)), (7, .int v12), (6, .int v5), (0, .ref b), (1, .ref (ad 0)), (2, .ref (am 0)), (3, .ref qo), (4, .ref qd)]) hx hb dL_law_1933 hl (k := 7) rfl rfl (by decide) rfl (fun ls hl => ?_)
        refine lv_goto (tgt := 28) hx hb dL_law_1936 (by decide) ?_
        refine W.widen (k := kc + 5) (n := ks + 80) (by omega) (by omega) ?_
        exact K S6 M13 o7 dv (x5 + 5) _ _ ls hP hD hS (lv_sub hl [3, 4, 5, 6, 7, 0] rfl) h
      · have h := o_neg hc h
        refine lv_iconst (v := 0) hx hb dL_law_698 (by decide) ?_
        exact absurd (Option.some.inj h) (by decide)
  · have h := o_neg hc h
    refine lv_iconst (v := 0) hx hb dL_law_681 (by decide) ?_
    exact absurd (Option.some.inj h) (by decide)
set_option maxHeartbeats 4000000 in
set_option maxRecDepth 100000 in
theorem law_c8 {p : Program} {l : Launch} {e : Env} {s : State} {m : MethodId} {below : List Frame} {meth : Method} {c : Code} (hst : l.stackTraces = false) {b L : Nat} {xs : Nat → Int32} (C0 : lw_At p s m meth c b L xs) {D : va_G} {cy : Nat → ClassId} {ad am : Nat → Nat} {qo qd : Nat} (hK : va_K D vwCl (gT cy ++ []) s) (hE : gX (lA s) s) {rec : PS → PS → (Nat → Int64) → (Nat → UInt64) → Int32 → Option Int32} {kc ks : Nat} (hkc : kc + 5 ≤ 601024) (hks : ks + 80 ≤ 7293034) (K : lw_K p l e s m below meth c b D cy ad am qo qd rec (kc + 5) (ks + 80)) (S M : PS) (ov : Nat → Int64) (dv : Nat → UInt64) (x5 : Int32) (H : Heap) (locs : List Loc) (ls : Array Slot) (hP : va_P D vwCl (wL cy ad am qo qd S M ov dv) H) (hD : va_D (lA s) (wL cy ad am qo qd S M ov dv)) (hS : va_S (lA s) s.heap H locs) (hl : lv_has ls 9 [(0, .ref b), (1, .ref (ad 0)), (2, .ref (am 0)), (3, .ref qo), (4, .ref qd), (5, .int x5)]) (h : q_law_c8 xs L rec S M ov dv x5 = some 1) : W p l e room_1 s m #[Value.ref b] below meth c H locs kc ks (lw_Z below #[Value.ref b] s) (F0 m 703 ls []) := by
  obtain ⟨hx, hb, hr, hml, hown, hts0, hX, hbl, hlocks, hgv⟩ := C0
  have hts : ∀ w ∈ wsL_law, w.before #[Value.ref b] s = true := fun w h => hts0 w (wsL_law_in w h)
  have hA : ∀ q : Nat, s.heap.size ≤ q → lA s q := fun _ h => h
  have hbA : ¬ lA s b := Nat.not_le.mpr hbl
  refine W.widen (k := kc + 0) (n := ks + 0) (Nat.le_refl _) (Nat.le_refl _) ?_
  unfold q_law_c8 at h
  refine lv_aload_n hx hb dL_law_703 rfl (lv_at hl 1 rfl) ?_
  obtain ⟨v1, ev1, h⟩ := o_bind h
  refine g_cVi (As := []) (rest := []) ⟨hx, hb, hml, hown, hts⟩ (m_X5_methodCount l hst D cy [] ad (oC cy qo ov :: dD cy qd dv :: mW cy am M []) _ S  v1 ev1) (cwV 0 hts gL_law_X5_methodCount rfl rfl rfl (by decide +kernel) ⟨(Nat.le_of_ble_eq_true rfl), (Nat.le_of_ble_eq_true rfl)⟩) (va_recv hK hP (ci := 5) (q0 := 0) rfl rfl) hP hK hD hS hA hE rfl hl.1 rfl (Nat.le_of_ble_eq_true rfl) dL_law_704 ⟨(by show kc + 0 + 0 ≤ 601024; omega), (by show ks + 0 + 0 ≤ 7293034; omega)⟩ (fun H locs hP hD hS => ?_)
  have hP : va_P D vwCl (wL cy ad am qo qd S M ov dv) H := hP
  have hD : va_D (lA s) (wL cy ad am qo qd S M ov dv) := hD
  refine W.widen (k := kc + 0) (n := ks + 0) (by omega) (by omega) ?_
  refine lv_aload_n hx hb dL_law_707 rfl (lv_at hl 2 rfl) ?_
  have hP := wL_toCP hP
  have hD := wL_toCD hD
  obtain ⟨⟨M3, v2⟩, ev2, h⟩ := o_bind h
  refine g_cVi (As := []) (rest := [.int v1]) ⟨hx, hb, hml, hown, hts⟩ (m_X6_methodCount l hst D cy [] am (oC cy qo ov :: dD cy qd dv :: xW cy ad S []) _ M  M3 v2 ev2) (cwV 0 hts gL_law_X6_methodCount rfl rfl rfl (by decide +kernel) ⟨(Nat.le_of_ble_eq_true rfl), (Nat.le_of_ble_eq_true rfl)⟩) (va_recv hK hP (ci := 6) (q0 := 0) rfl rfl) hP hK hD hS hA hE rfl hl.1 rfl (Nat.le_of_ble_eq_true rfl) dL_law_708 ⟨(by show kc + 0 + 0 ≤ 601024; omega), (by show ks + 0 + 0 ≤ 7293034; omega)⟩ (fun H locs hP hD hS => ?_)
  have hP := wL_ofCP hP
  have hD := wL_ofCD hD
  have hP : va_P D vwCl (wL cy ad am qo qd S M3 ov dv) H := hP
  have hD : va_D (lA s) (wL cy ad am qo qd S M3 ov dv) := hD
  refine W.widen (k := kc + 0) (n := ks + 0) (by omega) (by omega) ?_
  refine lv_icmp_eq (tgt := 1933) hx hb dL_law_711 (by decide) (fun hc => ?_) (fun hc => ?_)
  · have h := o_pos hc h
    refine lv_iinc (v := (x5 + 5)) (lv' := [(5, .int (x5 + 5)), (0, .ref b), (1, .ref (ad 0)), (2, .ref (am 0)), (3, .ref qo), (4, .ref qd)]) hx hb dL_law_1933 hl (k := 5) rfl rfl (by decide) rfl (fun ls hl => ?_)
    refine lv_goto (tgt := 28) hx hb dL_law_1936 (by decide) ?_
    refine W.widen (k := kc + 5) (n := ks + 80) (by omega) (by omega) ?_
    exact K S M3 ov dv (x5 + 5) _ _ ls hP hD hS (lv_sub hl [1, 2, 3, 4, 5, 0] rfl) h
  · have h := o_neg hc h
    refine lv_iconst (v := 0) hx hb dL_law_714 (by decide) ?_
    exact absurd (Option.some.inj h) (by decide)
set_option maxHeartbeats 4000000 in
set_option maxRecDepth 100000 in
theorem law_c9 {p : Program} {l : Launch} {e : Env} {s : State} {m : MethodId} {below : List Frame} {meth : Method} {c : Code} (hst : l.stackTraces = false) {b L : Nat} {xs : Nat → Int32} (C0 : lw_At p s m meth c b L xs) {D : va_G} {cy : Nat → ClassId} {ad am : Nat → Nat} {qo qd : Nat} (hK : va_K D vwCl (gT cy ++ []) s) (hE : gX (lA s) s) {rec : PS → PS → (Nat → Int64) → (Nat → UInt64) → Int32 → Option Int32} {kc ks : Nat} (hkc : kc + 5 ≤ 601024) (hks : ks + 80 ≤ 7293034) (K : lw_K p l e s m below meth c b D cy ad am qo qd rec (kc + 5) (ks + 80)) (S M : PS) (ov : Nat → Int64) (dv : Nat → UInt64) (x5 : Int32) (H : Heap) (locs : List Loc) (ls : Array Slot) (hP : va_P D vwCl (wL cy ad am qo qd S M ov dv) H) (hD : va_D (lA s) (wL cy ad am qo qd S M ov dv)) (hS : va_S (lA s) s.heap H locs) (hl : lv_has ls 9 [(0, .ref b), (1, .ref (ad 0)), (2, .ref (am 0)), (3, .ref qo), (4, .ref qd), (5, .int x5)]) (h : q_law_c9 xs L rec S M ov dv x5 = some 1) : W p l e room_1 s m #[Value.ref b] below meth c H locs kc ks (lw_Z below #[Value.ref b] s) (F0 m 716 ls []) := by
  obtain ⟨hx, hb, hr, hml, hown, hts0, hX, hbl, hlocks, hgv⟩ := C0
  have hts : ∀ w ∈ wsL_law, w.before #[Value.ref b] s = true := fun w h => hts0 w (wsL_law_in w h)
  have hA : ∀ q : Nat, s.heap.size ≤ q → lA s q := fun _ h => h
  have hbA : ¬ lA s b := Nat.not_le.mpr hbl
  refine W.widen (k := kc + 0) (n := ks + 0) (Nat.le_refl _) (Nat.le_refl _) ?_
  unfold q_law_c9 at h
  refine lv_aload_n hx hb dL_law_716 rfl (lv_at hl 1 rfl) ?_
  refine lv_aload_n hx hb dL_law_717 rfl (lv_at hl 0 rfl) ?_
  refine lv_iload hx hb dL_law_718 (lv_at hl 5 rfl) ?_
  refine lv_iconst (v := 1) hx hb dL_law_720 (by decide) ?_
  refine lv_iadd hx hb dL_law_721 ?_
  obtain ⟨v1, ev1, h⟩ := o_bind h
  refine g_sld hx hb hX hbl hbA hS ev1 dL_law_722 ?_
  refine lv_aload_n hx hb dL_law_723 rfl (lv_at hl 0 rfl) ?_
  refine lv_iload hx hb dL_law_724 (lv_at hl 5 rfl) ?_
  refine lv_iconst (v := 2) hx hb dL_law_726 (by decide) ?_
  refine lv_iadd hx hb dL_law_727 ?_
  obtain ⟨v2, ev2, h⟩ := o_bind h
  refine g_sld hx hb hX hbl hbA hS ev2 dL_law_728 ?_
  refine lv_aload_n hx hb dL_law_729 rfl (lv_at hl 3 rfl) ?_
  obtain ⟨⟨S4, o5, v3⟩, ev3, h⟩ := o_bind h
  refine g_cL (As := [.ref (ad 0), .int v1, .int v2, .ref qo]) (rest := []) ⟨hx, hb, hml, hown, hts⟩ (m_L_found l hst D cy [] ad qo (dD cy qd dv :: mW cy am M []) _ S ov v1 v2 S4 o5 v3 ev3) (vx_cwSW 4 hts gL_law_L_found rfl rfl rfl (by decide +kernel) ⟨(Nat.le_of_ble_eq_true rfl), (Nat.le_of_ble_eq_true rfl)⟩) hP hK hD hS hA hE rfl hl.1 rfl (Nat.le_of_ble_eq_true rfl) dL_law_730 ⟨(by show kc + 0 + 2 ≤ 601024; omega), (by show ks + 0 + 12 ≤ 7293034; omega)⟩ (fun H locs hP hD hS => ?_)
  have hP : va_P D vwCl (wL cy ad am qo qd S4 M o5 dv) H := hP
  have hD : va_D (lA s) (wL cy ad am qo qd S4 M o5 dv) := hD
  refine W.widen (k := kc + 2) (n := ks + 12) (by omega) (by omega) ?_
  refine lv_istore (lv' := [(6, .int v3), (0, .ref b), (1, .ref (ad 0)), (2, .ref (am 0)), (3, .ref qo), (4, .ref qd), (5, .int x5)]) hx hb dL_law_733 hl (by decide) rfl (fun ls hl => ?_)
  refine lv_aload_n hx hb dL_law_735 rfl (lv_at hl 3 rfl) ?_
  refine lv_aload_n hx hb dL_law_736 rfl (lv_at hl 1 rfl) ?_
  refine lv_iload hx hb dL_law_737 (lv_at hl 6 rfl) ?_
  refine lv_iconst (v := 1) hx hb dL_law_739 (by decide) ?_
  refine lv_iadd hx hb dL_law_740 ?_
  obtain ⟨v6, ev6, h⟩ := o_bind h
  refine g_sld hx hb hX hbl hbA hS ev6 dL_law_741 ?_
  refine lv_aload_n hx hb dL_law_742 rfl (lv_at hl 1 rfl) ?_
  refine lv_iload hx hb dL_law_743 (lv_at hl 6 rfl) ?_
  refine lv_iconst (v := 2) hx hb dL_law_745 (by decide) ?_
  refine lv_iadd hx hb dL_law_746 ?_
  obtain ⟨v7, ev7, h⟩ := o_bind h
  refine g_sld hx hb hX hbl hbA hS ev7 dL_law_747 ?_
  have hP := wL_toCP hP
  have hD := wL_toCD hD
  obtain ⟨⟨M9, v8⟩, ev8, h⟩ := o_bind h
  refine g_cVi (As := [.int v6, .int v7]) (rest := []) ⟨hx, hb, hml, hown, hts⟩ (m_X6_found l hst D cy [] am (oC cy qo o5 :: dD cy qd dv :: xW cy ad S4 []) _ M v6 v7 M9 v8 ev8) (cwV 2 hts gL_law_X6_found rfl rfl rfl (by decide +kernel) ⟨(Nat.le_of_ble_eq_true rfl), (Nat.le_of_ble_eq_true rfl)⟩) (va_recv hK hP (ci := 6) (q0 := 0) rfl rfl) hP hK hD hS hA hE rfl hl.1 rfl (Nat.le_of_ble_eq_true rfl) dL_law_748 ⟨(by show kc + 2 + 0 ≤ 601024; omega), (by show ks + 12 + 0 ≤ 7293034; omega)⟩ (fun H locs hP hD hS => ?_)
  have hP := wL_ofCP hP
  have hD := wL_ofCD hD
  have hP : va_P D vwCl (wL cy ad am qo qd S4 M9 o5 dv) H := hP
  have hD : va_D (lA s) (wL cy ad am qo qd S4 M9 o5 dv) := hD
  refine W.widen (k := kc + 2) (n := ks + 12) (by omega) (by omega) ?_
  refine lv_istore (lv' := [(7, .int v8), (6, .int v3), (0, .ref b), (1, .ref (ad 0)), (2, .ref (am 0)), (3, .ref qo), (4, .ref qd), (5, .int x5)]) hx hb dL_law_751 hl (by decide) rfl (fun ls hl => ?_)
  refine lv_aload_n hx hb dL_law_753 rfl (lv_at hl 4 rfl) ?_
  have hP := wL_toCP hP
  have hD := wL_toCD hD
  obtain ⟨v10, ev10, h⟩ := o_bind h
  refine g_cVi (As := []) (rest := []) ⟨hx, hb, hml, hown, hts⟩ (m_X6_thrown l hst D cy [] am (oC cy qo o5 :: dD cy qd dv :: xW cy ad S4 []) _ M9  v10 ev10) (cwV 0 hts gL_law_X6_thrown rfl rfl rfl (by decide +kernel) ⟨(Nat.le_of_ble_eq_true rfl), (Nat.le_of_ble_eq_true rfl)⟩) (va_recv hK hP (ci := 6) (q0 := 0) rfl rfl) hP hK hD hS hA hE rfl hl.1 rfl (Nat.le_of_ble_eq_true rfl) dL_law_754 ⟨(by show kc + 2 + 0 ≤ 601024; omega), (by show ks + 12 + 0 ≤ 7293034; omega)⟩ (fun H locs hP hD hS => ?_)
  have hP := wL_ofCP hP
  have hD := wL_ofCD hD
  have hP : va_P D vwCl (wL cy ad am qo qd S4 M9 o5 dv) H := hP
  have hD : va_D (lA s) (wL cy ad am qo qd S4 M9 o5 dv) := hD
  refine W.widen (k := kc + 2) (n := ks + 12) (by omega) (by omega) ?_
  refine lv_iload hx hb dL_law_757 (lv_at hl 1 rfl) ?_
  refine lv_icmp_eq (tgt := 764) hx hb dL_law_759 (by decide) (fun hc => ?_) (fun hc => ?_)
  · have h := o_pos hc h
    refine lv_iload hx hb dL_law_764 (lv_at hl 1 rfl) ?_
    refine lv_if_ne (tgt := 781) hx hb dL_law_766 (by decide) (fun hc => ?_) (fun hc => ?_)
    · have h := o_neg hc h
      refine lv_goto (tgt := 1933) hx hb dL_law_781 (by decide) ?_
      refine lv_iinc (v := (x5 + 5)) (lv' := [(5, .int (x5 + 5)), (7, .int v8), (6, .int v3), (0, .ref b), (1, .ref (ad 0)), (2, .ref (am 0)), (3, .ref qo), (4, .ref qd)]) hx hb dL_law_1933 hl (k := 7) rfl rfl (by decide) rfl (fun ls hl => ?_)
      refine lv_goto (tgt := 28) hx hb dL_law_1936 (by decide) ?_
      refine W.widen (k := kc + 5) (n := ks + 80) (by omega) (by omega) ?_
      exact K S4 M9 o5 dv (x5 + 5) _ _ ls hP hD hS (lv_sub hl [3, 4, 5, 6, 7, 0] rfl) h
    · have h := o_pos hc h
      refine lv_aload_n hx hb dL_law_769 rfl (lv_at hl 5 rfl) ?_
      refine lv_iconst (v := 0) hx hb dL_law_770 (by decide) ?_
      obtain ⟨v11, ev11, h⟩ := o_bind h
      refine g_lald hx hb hK hP 25 33 rfl rfl ev11 dL_law_771 ?_
      refine lv_iload hx hb dL_law_772 (lv_at hl 0 rfl) ?_
      refine lv_i2l (v := ((v8 : Int32).toInt64)) hx hb dL_law_774 rfl ?_
      refine W.lcmp hx hb dL_law_775 ?_
      refine lv_if_eq (tgt := 781) hx hb dL_law_776 (by decide) (fun hc => ?_) (fun hc => ?_)
      · have h := o_pos hc h
        refine lv_goto (tgt := 1933) hx hb dL_law_781 (by decide) ?_
        refine lv_iinc (v := (x5 + 5)) (lv' := [(5, .int (x5 + 5)), (7, .int v8), (6, .int v3), (0, .ref b), (1, .ref (ad 0)), (2, .ref (am 0)), (3, .ref qo), (4, .ref qd)]) hx hb dL_law_1933 hl (k := 7) rfl rfl (by decide) rfl (fun ls hl => ?_)
        refine lv_goto (tgt := 28) hx hb dL_law_1936 (by decide) ?_
        refine W.widen (k := kc + 5) (n := ks + 80) (by omega) (by omega) ?_
        exact K S4 M9 o5 dv (x5 + 5) _ _ ls hP hD hS (lv_sub hl [3, 4, 5, 6, 7, 0] rfl) h
      · have h := o_neg hc h
        refine lv_iconst (v := 0) hx hb dL_law_779 (by decide) ?_
        exact absurd (Option.some.inj h) (by decide)
  · have h := o_neg hc h
    refine lv_iconst (v := 0) hx hb dL_law_762 (by decide) ?_
    exact absurd (Option.some.inj h) (by decide)
set_option maxHeartbeats 4000000 in
set_option maxRecDepth 100000 in
theorem law_c10 {p : Program} {l : Launch} {e : Env} {s : State} {m : MethodId} {below : List Frame} {meth : Method} {c : Code} (hst : l.stackTraces = false) {b L : Nat} {xs : Nat → Int32} (C0 : lw_At p s m meth c b L xs) {D : va_G} {cy : Nat → ClassId} {ad am : Nat → Nat} {qo qd : Nat} (hK : va_K D vwCl (gT cy ++ []) s) (hE : gX (lA s) s) {rec : PS → PS → (Nat → Int64) → (Nat → UInt64) → Int32 → Option Int32} {kc ks : Nat} (hkc : kc + 5 ≤ 601024) (hks : ks + 80 ≤ 7293034) (K : lw_K p l e s m below meth c b D cy ad am qo qd rec (kc + 5) (ks + 80)) (S M : PS) (ov : Nat → Int64) (dv : Nat → UInt64) (x5 : Int32) (H : Heap) (locs : List Loc) (ls : Array Slot) (hP : va_P D vwCl (wL cy ad am qo qd S M ov dv) H) (hD : va_D (lA s) (wL cy ad am qo qd S M ov dv)) (hS : va_S (lA s) s.heap H locs) (hl : lv_has ls 9 [(0, .ref b), (1, .ref (ad 0)), (2, .ref (am 0)), (3, .ref qo), (4, .ref qd), (5, .int x5)]) (h : q_law_c10 xs L rec S M ov dv x5 = some 1) : W p l e room_1 s m #[Value.ref b] below meth c H locs kc ks (lw_Z below #[Value.ref b] s) (F0 m 784 ls []) := by
  obtain ⟨hx, hb, hr, hml, hown, hts0, hX, hbl, hlocks, hgv⟩ := C0
  have hts : ∀ w ∈ wsL_law, w.before #[Value.ref b] s = true := fun w h => hts0 w (wsL_law_in w h)
  have hA : ∀ q : Nat, s.heap.size ≤ q → lA s q := fun _ h => h
  have hbA : ¬ lA s b := Nat.not_le.mpr hbl
  refine W.widen (k := kc + 0) (n := ks + 0) (Nat.le_refl _) (Nat.le_refl _) ?_
  unfold q_law_c10 at h
  refine lv_aload_n hx hb dL_law_784 rfl (lv_at hl 1 rfl) ?_
  refine lv_aload_n hx hb dL_law_785 rfl (lv_at hl 0 rfl) ?_
  refine lv_iload hx hb dL_law_786 (lv_at hl 5 rfl) ?_
  refine lv_iconst (v := 1) hx hb dL_law_788 (by decide) ?_
  refine lv_iadd hx hb dL_law_789 ?_
  obtain ⟨v1, ev1, h⟩ := o_bind h
  refine g_sld hx hb hX hbl hbA hS ev1 dL_law_790 ?_
  refine lv_aload_n hx hb dL_law_791 rfl (lv_at hl 0 rfl) ?_
  refine lv_iload hx hb dL_law_792 (lv_at hl 5 rfl) ?_
  refine lv_iconst (v := 2) hx hb dL_law_794 (by decide) ?_
  refine lv_iadd hx hb dL_law_795 ?_
  obtain ⟨v2, ev2, h⟩ := o_bind h
  refine g_sld hx hb hX hbl hbA hS ev2 dL_law_796 ?_
  refine lv_aload_n hx hb dL_law_797 rfl (lv_at hl 3 rfl) ?_
  obtain ⟨⟨S4, o5, v3⟩, ev3, h⟩ := o_bind h
  refine g_cL (As := [.ref (ad 0), .int v1, .int v2, .ref qo]) (rest := []) ⟨hx, hb, hml, hown, hts⟩ (m_L_targetCount l hst D cy [] ad qo (dD cy qd dv :: mW cy am M []) _ S ov v1 v2 S4 o5 v3 ev3) (vx_cwSW 4 hts gL_law_L_targetCount rfl rfl rfl (by decide +kernel) ⟨(Nat.le_of_ble_eq_true rfl), (Nat.le_of_ble_eq_true rfl)⟩) hP hK hD hS hA hE rfl hl.1 rfl (Nat.le_of_ble_eq_true rfl) dL_law_798 ⟨(by show kc + 0 + 2 ≤ 601024; omega), (by show ks + 0 + 12 ≤ 7293034; omega)⟩ (fun H locs hP hD hS => ?_)
  have hP : va_P D vwCl (wL cy ad am qo qd S4 M o5 dv) H := hP
  have hD : va_D (lA s) (wL cy ad am qo qd S4 M o5 dv) := hD
  refine W.widen (k := kc + 2) (n := ks + 12) (by omega) (by omega) ?_
  refine lv_istore (lv' := [(6, .int v3), (0, .ref b), (1, .ref (ad 0)), (2, .ref (am 0)), (3, .ref qo), (4, .ref qd), (5, .int x5)]) hx hb dL_law_801 hl (by decide) rfl (fun ls hl => ?_)
  refine lv_aload_n hx hb dL_law_803 rfl (lv_at hl 3 rfl) ?_
  refine lv_aload_n hx hb dL_law_804 rfl (lv_at hl 1 rfl) ?_
  refine lv_iload hx hb dL_law_805 (lv_at hl 6 rfl) ?_
  refine lv_iconst (v := 1) hx hb dL_law_807 (by decide) ?_
  refine lv_iadd hx hb dL_law_808 ?_
  obtain ⟨v6, ev6, h⟩ := o_bind h
  refine g_sld hx hb hX hbl hbA hS ev6 dL_law_809 ?_
  refine lv_aload_n hx hb dL_law_810 rfl (lv_at hl 1 rfl) ?_
  refine lv_iload hx hb dL_law_811 (lv_at hl 6 rfl) ?_
  refine lv_iconst (v := 2) hx hb dL_law_813 (by decide) ?_
  refine lv_iadd hx hb dL_law_814 ?_
  obtain ⟨v7, ev7, h⟩ := o_bind h
  refine g_sld hx hb hX hbl hbA hS ev7 dL_law_815 ?_
  have hP := wL_toCP hP
  have hD := wL_toCD hD
  obtain ⟨⟨M9, v8⟩, ev8, h⟩ := o_bind h
  refine g_cVi (As := [.int v6, .int v7]) (rest := []) ⟨hx, hb, hml, hown, hts⟩ (m_X6_targetCount l hst D cy [] am (oC cy qo o5 :: dD cy qd dv :: xW cy ad S4 []) _ M v6 v7 M9 v8 ev8) (cwV 2 hts gL_law_X6_targetCount rfl rfl rfl (by decide +kernel) ⟨(Nat.le_of_ble_eq_true rfl), (Nat.le_of_ble_eq_true rfl)⟩) (va_recv hK hP (ci := 6) (q0 := 0) rfl rfl) hP hK hD hS hA hE rfl hl.1 rfl (Nat.le_of_ble_eq_true rfl) dL_law_816 ⟨(by show kc + 2 + 0 ≤ 601024; omega), (by show ks + 12 + 0 ≤ 7293034; omega)⟩ (fun H locs hP hD hS => ?_)
  have hP := wL_ofCP hP
  have hD := wL_ofCD hD
  have hP : va_P D vwCl (wL cy ad am qo qd S4 M9 o5 dv) H := hP
  have hD : va_D (lA s) (wL cy ad am qo qd S4 M9 o5 dv) := hD
  refine W.widen (k := kc + 2) (n := ks + 12) (by omega) (by omega) ?_
  refine lv_istore (lv' := [(7, .int v8), (6, .int v3), (0, .ref b), (1, .ref (ad 0)), (2, .ref (am 0)), (3, .ref qo), (4, .ref qd), (5, .int x5)]) hx hb dL_law_819 hl (by decide) rfl (fun ls hl => ?_)
  refine lv_aload_n hx hb dL_law_821 rfl (lv_at hl 4 rfl) ?_
  have hP := wL_toCP hP
  have hD := wL_toCD hD
  obtain ⟨v10, ev10, h⟩ := o_bind h
  refine g_cVi (As := []) (rest := []) ⟨hx, hb, hml, hown, hts⟩ (m_X6_thrown l hst D cy [] am (oC cy qo o5 :: dD cy qd dv :: xW cy ad S4 []) _ M9  v10 ev10) (cwV 0 hts gL_law_X6_thrown rfl rfl rfl (by decide +kernel) ⟨(Nat.le_of_ble_eq_true rfl), (Nat.le_of_ble_eq_true rfl)⟩) (va_recv hK hP (ci := 6) (q0 := 0) rfl rfl) hP hK hD hS hA hE rfl hl.1 rfl (Nat.le_of_ble_eq_true rfl) dL_law_822 ⟨(by show kc + 2 + 0 ≤ 601024; omega), (by show ks + 12 + 0 ≤ 7293034; omega)⟩ (fun H locs hP hD hS => ?_)
  have hP := wL_ofCP hP
  have hD := wL_ofCD hD
  have hP : va_P D vwCl (wL cy ad am qo qd S4 M9 o5 dv) H := hP
  have hD : va_D (lA s) (wL cy ad am qo qd S4 M9 o5 dv) := hD
  refine W.widen (k := kc + 2) (n := ks + 12) (by omega) (by omega) ?_
  refine lv_iload hx hb dL_law_825 (lv_at hl 1 rfl) ?_
  refine lv_icmp_eq (tgt := 832) hx hb dL_law_827 (by decide) (fun hc => ?_) (fun hc => ?_)
  · have h := o_pos hc h
    refine lv_iload hx hb dL_law_832 (lv_at hl 1 rfl) ?_
    refine lv_if_ne (tgt := 849) hx hb dL_law_834 (by decide) (fun hc => ?_) (fun hc => ?_)
    · have h := o_neg hc h
      refine lv_goto (tgt := 1933) hx hb dL_law_849 (by decide) ?_
      refine lv_iinc (v := (x5 + 5)) (lv' := [(5, .int (x5 + 5)), (7, .int v8), (6, .int v3), (0, .ref b), (1, .ref (ad 0)), (2, .ref (am 0)), (3, .ref qo), (4, .ref qd)]) hx hb dL_law_1933 hl (k := 7) rfl rfl (by decide) rfl (fun ls hl => ?_)
      refine lv_goto (tgt := 28) hx hb dL_law_1936 (by decide) ?_
      refine W.widen (k := kc + 5) (n := ks + 80) (by omega) (by omega) ?_
      exact K S4 M9 o5 dv (x5 + 5) _ _ ls hP hD hS (lv_sub hl [3, 4, 5, 6, 7, 0] rfl) h
    · have h := o_pos hc h
      refine lv_aload_n hx hb dL_law_837 rfl (lv_at hl 5 rfl) ?_
      refine lv_iconst (v := 0) hx hb dL_law_838 (by decide) ?_
      obtain ⟨v11, ev11, h⟩ := o_bind h
      refine g_lald hx hb hK hP 25 33 rfl rfl ev11 dL_law_839 ?_
      refine lv_iload hx hb dL_law_840 (lv_at hl 0 rfl) ?_
      refine lv_i2l (v := ((v8 : Int32).toInt64)) hx hb dL_law_842 rfl ?_
      refine W.lcmp hx hb dL_law_843 ?_
      refine lv_if_eq (tgt := 849) hx hb dL_law_844 (by decide) (fun hc => ?_) (fun hc => ?_)
      · have h := o_pos hc h
        refine lv_goto (tgt := 1933) hx hb dL_law_849 (by decide) ?_
        refine lv_iinc (v := (x5 + 5)) (lv' := [(5, .int (x5 + 5)), (7, .int v8), (6, .int v3), (0, .ref b), (1, .ref (ad 0)), (2, .ref (am 0)), (3, .ref qo), (4, .ref qd)]) hx hb dL_law_1933 hl (k := 7) rfl rfl (by decide) rfl (fun ls hl => ?_)
        refine lv_goto (tgt := 28) hx hb dL_law_1936 (by decide) ?_
        refine W.widen (k := kc + 5) (n := ks + 80) (by omega) (by omega) ?_
        exact K S4 M9 o5 dv (x5 + 5) _ _ ls hP hD hS (lv_sub hl [3, 4, 5, 6, 7, 0] rfl) h
      · have h := o_neg hc h
        refine lv_iconst (v := 0) hx hb dL_law_847 (by decide) ?_
        exact absurd (Option.some.inj h) (by decide)
  · have h := o_neg hc h
    refine lv_iconst (v := 0) hx hb dL_law_830 (by decide) ?_
    exact absurd (Option.some.inj h) (by decide)
set_option maxHeartbeats 4000000 in
set_option maxRecDepth 100000 in
theorem law_c11 {p : Program} {l : Launch} {e : Env} {s : State} {m : MethodId} {below : List Frame} {meth : Method} {c : Code} (hst : l.stackTraces = false) {b L : Nat} {xs : Nat → Int32} (C0 : lw_At p s m meth c b L xs) {D : va_G} {cy : Nat → ClassId} {ad am : Nat → Nat} {qo qd : Nat} (hK : va_K D vwCl (gT cy ++ []) s) (hE : gX (lA s) s) {rec : PS → PS → (Nat → Int64) → (Nat → UInt64) → Int32 → Option Int32} {kc ks : Nat} (hkc : kc + 5 ≤ 601024) (hks : ks + 80 ≤ 7293034) (K : lw_K p l e s m below meth c b D cy ad am qo qd rec (kc + 5) (ks + 80)) (S M : PS) (ov : Nat → Int64) (dv : Nat → UInt64) (x5 : Int32) (H : Heap) (locs : List Loc) (ls : Array Slot) (hP : va_P D vwCl (wL cy ad am qo qd S M ov dv) H) (hD : va_D (lA s) (wL cy ad am qo qd S M ov dv)) (hS : va_S (lA s) s.heap H locs) (hl : lv_has ls 9 [(0, .ref b), (1, .ref (ad 0)), (2, .ref (am 0)), (3, .ref qo), (4, .ref qd), (5, .int x5)]) (h : q_law_c11 xs L rec S M ov dv x5 = some 1) : W p l e room_1 s m #[Value.ref b] below meth c H locs kc ks (lw_Z below #[Value.ref b] s) (F0 m 852 ls []) := by
  obtain ⟨hx, hb, hr, hml, hown, hts0, hX, hbl, hlocks, hgv⟩ := C0
  have hts : ∀ w ∈ wsL_law, w.before #[Value.ref b] s = true := fun w h => hts0 w (wsL_law_in w h)
  have hA : ∀ q : Nat, s.heap.size ≤ q → lA s q := fun _ h => h
  have hbA : ¬ lA s b := Nat.not_le.mpr hbl
  refine W.widen (k := kc + 0) (n := ks + 0) (Nat.le_refl _) (Nat.le_refl _) ?_
  unfold q_law_c11 at h
  refine lv_aload_n hx hb dL_law_852 rfl (lv_at hl 1 rfl) ?_
  refine lv_aload_n hx hb dL_law_853 rfl (lv_at hl 0 rfl) ?_
  refine lv_iload hx hb dL_law_854 (lv_at hl 5 rfl) ?_
  refine lv_iconst (v := 1) hx hb dL_law_856 (by decide) ?_
  refine lv_iadd hx hb dL_law_857 ?_
  obtain ⟨v1, ev1, h⟩ := o_bind h
  refine g_sld hx hb hX hbl hbA hS ev1 dL_law_858 ?_
  refine lv_aload_n hx hb dL_law_859 rfl (lv_at hl 0 rfl) ?_
  refine lv_iload hx hb dL_law_860 (lv_at hl 5 rfl) ?_
  refine lv_iconst (v := 2) hx hb dL_law_862 (by decide) ?_
  refine lv_iadd hx hb dL_law_863 ?_
  obtain ⟨v2, ev2, h⟩ := o_bind h
  refine g_sld hx hb hX hbl hbA hS ev2 dL_law_864 ?_
  refine lv_aload_n hx hb dL_law_865 rfl (lv_at hl 0 rfl) ?_
  refine lv_iload hx hb dL_law_866 (lv_at hl 5 rfl) ?_
  refine lv_iconst (v := 3) hx hb dL_law_868 (by decide) ?_
  refine lv_iadd hx hb dL_law_869 ?_
  obtain ⟨v3, ev3, h⟩ := o_bind h
  refine g_sld hx hb hX hbl hbA hS ev3 dL_law_870 ?_
  refine lv_aload_n hx hb dL_law_871 rfl (lv_at hl 3 rfl) ?_
  obtain ⟨⟨S5, o6, v4⟩, ev4, h⟩ := o_bind h
  refine g_cL (As := [.ref (ad 0), .int v1, .int v2, .int v3, .ref qo]) (rest := []) ⟨hx, hb, hml, hown, hts⟩ (m_L_target l hst D cy [] ad qo (dD cy qd dv :: mW cy am M []) _ S ov v1 v2 v3 S5 o6 v4 ev4) (vx_cwSW 5 hts gL_law_L_target rfl rfl rfl (by decide +kernel) ⟨(Nat.le_of_ble_eq_true rfl), (Nat.le_of_ble_eq_true rfl)⟩) hP hK hD hS hA hE rfl hl.1 rfl (Nat.le_of_ble_eq_true rfl) dL_law_872 ⟨(by show kc + 0 + 3 ≤ 601024; omega), (by show ks + 0 + 18 ≤ 7293034; omega)⟩ (fun H locs hP hD hS => ?_)
  have hP : va_P D vwCl (wL cy ad am qo qd S5 M o6 dv) H := hP
  have hD : va_D (lA s) (wL cy ad am qo qd S5 M o6 dv) := hD
  refine W.widen (k := kc + 3) (n := ks + 18) (by omega) (by omega) ?_
  refine lv_istore (lv' := [(6, .int v4), (0, .ref b), (1, .ref (ad 0)), (2, .ref (am 0)), (3, .ref qo), (4, .ref qd), (5, .int x5)]) hx hb dL_law_875 hl (by decide) rfl (fun ls hl => ?_)
  refine lv_aload_n hx hb dL_law_877 rfl (lv_at hl 3 rfl) ?_
  refine lv_aload_n hx hb dL_law_878 rfl (lv_at hl 1 rfl) ?_
  refine lv_iload hx hb dL_law_879 (lv_at hl 6 rfl) ?_
  refine lv_iconst (v := 1) hx hb dL_law_881 (by decide) ?_
  refine lv_iadd hx hb dL_law_882 ?_
  obtain ⟨v7, ev7, h⟩ := o_bind h
  refine g_sld hx hb hX hbl hbA hS ev7 dL_law_883 ?_
  refine lv_aload_n hx hb dL_law_884 rfl (lv_at hl 1 rfl) ?_
  refine lv_iload hx hb dL_law_885 (lv_at hl 6 rfl) ?_
  refine lv_iconst (v := 2) hx hb dL_law_887 (by decide) ?_
  refine lv_iadd hx hb dL_law_888 ?_
  obtain ⟨v8, ev8, h⟩ := o_bind h
  refine g_sld hx hb hX hbl hbA hS ev8 dL_law_889 ?_
  refine lv_aload_n hx hb dL_law_890 rfl (lv_at hl 1 rfl) ?_
  refine lv_iload hx hb dL_law_891 (lv_at hl 6 rfl) ?_
  refine lv_iconst (v := 3) hx hb dL_law_893 (by decide) ?_
  refine lv_iadd hx hb dL_law_894 ?_
  obtain ⟨v9, ev9, h⟩ := o_bind h
  refine g_sld hx hb hX hbl hbA hS ev9 dL_law_895 ?_
  have hP := wL_toCP hP
  have hD := wL_toCD hD
  obtain ⟨⟨M11, v10⟩, ev10, h⟩ := o_bind h
  refine g_cVi (As := [.int v7, .int v8, .int v9]) (rest := []) ⟨hx, hb, hml, hown, hts⟩ (m_X6_target l hst D cy [] am (oC cy qo o6 :: dD cy qd dv :: xW cy ad S5 []) _ M v7 v8 v9 M11 v10 ev10) (cwV 3 hts gL_law_X6_target rfl rfl rfl (by decide +kernel) ⟨(Nat.le_of_ble_eq_true rfl), (Nat.le_of_ble_eq_true rfl)⟩) (va_recv hK hP (ci := 6) (q0 := 0) rfl rfl) hP hK hD hS hA hE rfl hl.1 rfl (Nat.le_of_ble_eq_true rfl) dL_law_896 ⟨(by show kc + 3 + 0 ≤ 601024; omega), (by show ks + 18 + 0 ≤ 7293034; omega)⟩ (fun H locs hP hD hS => ?_)
  have hP := wL_ofCP hP
  have hD := wL_ofCD hD
  have hP : va_P D vwCl (wL cy ad am qo qd S5 M11 o6 dv) H := hP
  have hD : va_D (lA s) (wL cy ad am qo qd S5 M11 o6 dv) := hD
  refine W.widen (k := kc + 3) (n := ks + 18) (by omega) (by omega) ?_
  refine lv_istore (lv' := [(7, .int v10), (6, .int v4), (0, .ref b), (1, .ref (ad 0)), (2, .ref (am 0)), (3, .ref qo), (4, .ref qd), (5, .int x5)]) hx hb dL_law_899 hl (by decide) rfl (fun ls hl => ?_)
  refine lv_aload_n hx hb dL_law_901 rfl (lv_at hl 4 rfl) ?_
  have hP := wL_toCP hP
  have hD := wL_toCD hD
  obtain ⟨v12, ev12, h⟩ := o_bind h
  refine g_cVi (As := []) (rest := []) ⟨hx, hb, hml, hown, hts⟩ (m_X6_thrown l hst D cy [] am (oC cy qo o6 :: dD cy qd dv :: xW cy ad S5 []) _ M11  v12 ev12) (cwV 0 hts gL_law_X6_thrown rfl rfl rfl (by decide +kernel) ⟨(Nat.le_of_ble_eq_true rfl), (Nat.le_of_ble_eq_true rfl)⟩) (va_recv hK hP (ci := 6) (q0 := 0) rfl rfl) hP hK hD hS hA hE rfl hl.1 rfl (Nat.le_of_ble_eq_true rfl) dL_law_902 ⟨(by show kc + 3 + 0 ≤ 601024; omega), (by show ks + 18 + 0 ≤ 7293034; omega)⟩ (fun H locs hP hD hS => ?_)
  have hP := wL_ofCP hP
  have hD := wL_ofCD hD
  have hP : va_P D vwCl (wL cy ad am qo qd S5 M11 o6 dv) H := hP
  have hD : va_D (lA s) (wL cy ad am qo qd S5 M11 o6 dv) := hD
  refine W.widen (k := kc + 3) (n := ks + 18) (by omega) (by omega) ?_
  refine lv_iload hx hb dL_law_905 (lv_at hl 1 rfl) ?_
  refine lv_icmp_eq (tgt := 912) hx hb dL_law_907 (by decide) (fun hc => ?_) (fun hc => ?_)
  · have h := o_pos hc h
    refine lv_iload hx hb dL_law_912 (lv_at hl 1 rfl) ?_
    refine lv_if_ne (tgt := 929) hx hb dL_law_914 (by decide) (fun hc => ?_) (fun hc => ?_)
    · have h := o_neg hc h
      refine lv_goto (tgt := 1933) hx hb dL_law_929 (by decide) ?_
      refine lv_iinc (v := (x5 + 5)) (lv' := [(5, .int (x5 + 5)), (7, .int v10), (6, .int v4), (0, .ref b), (1, .ref (ad 0)), (2, .ref (am 0)), (3, .ref qo), (4, .ref qd)]) hx hb dL_law_1933 hl (k := 7) rfl rfl (by decide) rfl (fun ls hl => ?_)
      refine lv_goto (tgt := 28) hx hb dL_law_1936 (by decide) ?_
      refine W.widen (k := kc + 5) (n := ks + 80) (by omega) (by omega) ?_
      exact K S5 M11 o6 dv (x5 + 5) _ _ ls hP hD hS (lv_sub hl [3, 4, 5, 6, 7, 0] rfl) h
    · have h := o_pos hc h
      refine lv_aload_n hx hb dL_law_917 rfl (lv_at hl 5 rfl) ?_
      refine lv_iconst (v := 0) hx hb dL_law_918 (by decide) ?_
      obtain ⟨v13, ev13, h⟩ := o_bind h
      refine g_lald hx hb hK hP 25 33 rfl rfl ev13 dL_law_919 ?_
      refine lv_iload hx hb dL_law_920 (lv_at hl 0 rfl) ?_
      refine lv_i2l (v := ((v10 : Int32).toInt64)) hx hb dL_law_922 rfl ?_
      refine W.lcmp hx hb dL_law_923 ?_
      refine lv_if_eq (tgt := 929) hx hb dL_law_924 (by decide) (fun hc => ?_) (fun hc => ?_)
      · have h := o_pos hc h
        refine lv_goto (tgt := 1933) hx hb dL_law_929 (by decide) ?_
        refine lv_iinc (v := (x5 + 5)) (lv' := [(5, .int (x5 + 5)), (7, .int v10), (6, .int v4), (0, .ref b), (1, .ref (ad 0)), (2, .ref (am 0)), (3, .ref qo), (4, .ref qd)]) hx hb dL_law_1933 hl (k := 7) rfl rfl (by decide) rfl (fun ls hl => ?_)
        refine lv_goto (tgt := 28) hx hb dL_law_1936 (by decide) ?_
        refine W.widen (k := kc + 5) (n := ks + 80) (by omega) (by omega) ?_
        exact K S5 M11 o6 dv (x5 + 5) _ _ ls hP hD hS (lv_sub hl [3, 4, 5, 6, 7, 0] rfl) h
      · have h := o_neg hc h
        refine lv_iconst (v := 0) hx hb dL_law_927 (by decide) ?_
        exact absurd (Option.some.inj h) (by decide)
  · have h := o_neg hc h
    refine lv_iconst (v := 0) hx hb dL_law_910 (by decide) ?_
    exact absurd (Option.some.inj h) (by decide)
set_option maxHeartbeats 4000000 in
set_option maxRecDepth 100000 in
theorem law_c12 {p : Program} {l : Launch} {e : Env} {s : State} {m : MethodId} {below : List Frame} {meth : Method} {c : Code} (hst : l.stackTraces = false) {b L : Nat} {xs : Nat → Int32} (C0 : lw_At p s m meth c b L xs) {D : va_G} {cy : Nat → ClassId} {ad am : Nat → Nat} {qo qd : Nat} (hK : va_K D vwCl (gT cy ++ []) s) (hE : gX (lA s) s) {rec : PS → PS → (Nat → Int64) → (Nat → UInt64) → Int32 → Option Int32} {kc ks : Nat} (hkc : kc + 5 ≤ 601024) (hks : ks + 80 ≤ 7293034) (K : lw_K p l e s m below meth c b D cy ad am qo qd rec (kc + 5) (ks + 80)) (S M : PS) (ov : Nat → Int64) (dv : Nat → UInt64) (x5 : Int32) (H : Heap) (locs : List Loc) (ls : Array Slot) (hP : va_P D vwCl (wL cy ad am qo qd S M ov dv) H) (hD : va_D (lA s) (wL cy ad am qo qd S M ov dv)) (hS : va_S (lA s) s.heap H locs) (hl : lv_has ls 9 [(0, .ref b), (1, .ref (ad 0)), (2, .ref (am 0)), (3, .ref qo), (4, .ref qd), (5, .int x5)]) (h : q_law_c12 xs L rec S M ov dv x5 = some 1) : W p l e room_1 s m #[Value.ref b] below meth c H locs kc ks (lw_Z below #[Value.ref b] s) (F0 m 932 ls []) := by
  obtain ⟨hx, hb, hr, hml, hown, hts0, hX, hbl, hlocks, hgv⟩ := C0
  have hts : ∀ w ∈ wsL_law, w.before #[Value.ref b] s = true := fun w h => hts0 w (wsL_law_in w h)
  have hA : ∀ q : Nat, s.heap.size ≤ q → lA s q := fun _ h => h
  have hbA : ¬ lA s b := Nat.not_le.mpr hbl
  refine W.widen (k := kc + 0) (n := ks + 0) (Nat.le_refl _) (Nat.le_refl _) ?_
  unfold q_law_c12 at h
  refine lv_aload_n hx hb dL_law_932 rfl (lv_at hl 1 rfl) ?_
  refine lv_aload_n hx hb dL_law_933 rfl (lv_at hl 0 rfl) ?_
  refine lv_iload hx hb dL_law_934 (lv_at hl 5 rfl) ?_
  refine lv_iconst (v := 1) hx hb dL_law_936 (by decide) ?_
  refine lv_iadd hx hb dL_law_937 ?_
  obtain ⟨v1, ev1, h⟩ := o_bind h
  refine g_sld hx hb hX hbl hbA hS ev1 dL_law_938 ?_
  refine lv_aload_n hx hb dL_law_939 rfl (lv_at hl 3 rfl) ?_
  obtain ⟨⟨S3, o4, v2⟩, ev2, h⟩ := o_bind h
  refine g_cL (As := [.ref (ad 0), .int v1, .ref qo]) (rest := []) ⟨hx, hb, hml, hown, hts⟩ (m_L_reached l hst D cy [] ad qo (dD cy qd dv :: mW cy am M []) _ S ov v1 S3 o4 v2 ev2) (vx_cwSW 3 hts gL_law_L_reached rfl rfl rfl (by decide +kernel) ⟨(Nat.le_of_ble_eq_true rfl), (Nat.le_of_ble_eq_true rfl)⟩) hP hK hD hS hA hE rfl hl.1 rfl (Nat.le_of_ble_eq_true rfl) dL_law_940 ⟨(by show kc + 0 + 1 ≤ 601024; omega), (by show ks + 0 + 6 ≤ 7293034; omega)⟩ (fun H locs hP hD hS => ?_)
  have hP : va_P D vwCl (wL cy ad am qo qd S3 M o4 dv) H := hP
  have hD : va_D (lA s) (wL cy ad am qo qd S3 M o4 dv) := hD
  refine W.widen (k := kc + 1) (n := ks + 6) (by omega) (by omega) ?_
  refine lv_istore (lv' := [(6, .int v2), (0, .ref b), (1, .ref (ad 0)), (2, .ref (am 0)), (3, .ref qo), (4, .ref qd), (5, .int x5)]) hx hb dL_law_943 hl (by decide) rfl (fun ls hl => ?_)
  refine lv_aload_n hx hb dL_law_945 rfl (lv_at hl 3 rfl) ?_
  refine lv_aload_n hx hb dL_law_946 rfl (lv_at hl 1 rfl) ?_
  refine lv_iload hx hb dL_law_947 (lv_at hl 6 rfl) ?_
  refine lv_iconst (v := 1) hx hb dL_law_949 (by decide) ?_
  refine lv_iadd hx hb dL_law_950 ?_
  obtain ⟨v5, ev5, h⟩ := o_bind h
  refine g_sld hx hb hX hbl hbA hS ev5 dL_law_951 ?_
  have hP := wL_toCP hP
  have hD := wL_toCD hD
  obtain ⟨⟨M7, v6⟩, ev6, h⟩ := o_bind h
  refine g_cVi (As := [.int v5]) (rest := []) ⟨hx, hb, hml, hown, hts⟩ (m_X6_reached l hst D cy [] am (oC cy qo o4 :: dD cy qd dv :: xW cy ad S3 []) _ M v5 M7 v6 ev6) (cwV 1 hts gL_law_X6_reached rfl rfl rfl (by decide +kernel) ⟨(Nat.le_of_ble_eq_true rfl), (Nat.le_of_ble_eq_true rfl)⟩) (va_recv hK hP (ci := 6) (q0 := 0) rfl rfl) hP hK hD hS hA hE rfl hl.1 rfl (Nat.le_of_ble_eq_true rfl) dL_law_952 ⟨(by show kc + 1 + 0 ≤ 601024; omega), (by show ks + 6 + 0 ≤ 7293034; omega)⟩ (fun H locs hP hD hS => ?_)
  have hP := wL_ofCP hP
  have hD := wL_ofCD hD
  have hP : va_P D vwCl (wL cy ad am qo qd S3 M7 o4 dv) H := hP
  have hD : va_D (lA s) (wL cy ad am qo qd S3 M7 o4 dv) := hD
  refine W.widen (k := kc + 1) (n := ks + 6) (by omega) (by omega) ?_
  refine lv_istore (lv' := [(7, .int v6), (6, .int v2), (0, .ref b), (1, .ref (ad 0)), (2, .ref (am 0)), (3, .ref qo), (4, .ref qd), (5, .int x5)]) hx hb dL_law_955 hl (by decide) rfl (fun ls hl => ?_)
  refine lv_aload_n hx hb dL_law_957 rfl (lv_at hl 4 rfl) ?_
  have hP := wL_toCP hP
  have hD := wL_toCD hD
  obtain ⟨v8, ev8, h⟩ := o_bind h
  refine g_cVi (As := []) (rest := []) ⟨hx, hb, hml, hown, hts⟩ (m_X6_thrown l hst D cy [] am (oC cy qo o4 :: dD cy qd dv :: xW cy ad S3 []) _ M7  v8 ev8) (cwV 0 hts gL_law_X6_thrown rfl rfl rfl (by decide +kernel) ⟨(Nat.le_of_ble_eq_true rfl), (Nat.le_of_ble_eq_true rfl)⟩) (va_recv hK hP (ci := 6) (q0 := 0) rfl rfl) hP hK hD hS hA hE rfl hl.1 rfl (Nat.le_of_ble_eq_true rfl) dL_law_958 ⟨(by show kc + 1 + 0 ≤ 601024; omega), (by show ks + 6 + 0 ≤ 7293034; omega)⟩ (fun H locs hP hD hS => ?_)
  have hP := wL_ofCP hP
  have hD := wL_ofCD hD
  have hP : va_P D vwCl (wL cy ad am qo qd S3 M7 o4 dv) H := hP
  have hD : va_D (lA s) (wL cy ad am qo qd S3 M7 o4 dv) := hD
  refine W.widen (k := kc + 1) (n := ks + 6) (by omega) (by omega) ?_
  refine lv_iload hx hb dL_law_961 (lv_at hl 1 rfl) ?_
  refine lv_icmp_eq (tgt := 968) hx hb dL_law_963 (by decide) (fun hc => ?_) (fun hc => ?_)
  · have h := o_pos hc h
    refine lv_iload hx hb dL_law_968 (lv_at hl 1 rfl) ?_
    refine lv_if_ne (tgt := 985) hx hb dL_law_970 (by decide) (fun hc => ?_) (fun hc => ?_)
    · have h := o_neg hc h
      refine lv_goto (tgt := 1933) hx hb dL_law_985 (by decide) ?_
      refine lv_iinc (v := (x5 + 5)) (lv' := [(5, .int (x5 + 5)), (7, .int v6), (6, .int v2), (0, .ref b), (1, .ref (ad 0)), (2, .ref (am 0)), (3, .ref qo), (4, .ref qd)]) hx hb dL_law_1933 hl (k := 7) rfl rfl (by decide) rfl (fun ls hl => ?_)
      refine lv_goto (tgt := 28) hx hb dL_law_1936 (by decide) ?_
      refine W.widen (k := kc + 5) (n := ks + 80) (by omega) (by omega) ?_
      exact K S3 M7 o4 dv (x5 + 5) _ _ ls hP hD hS (lv_sub hl [3, 4, 5, 6, 7, 0] rfl) h
    · have h := o_pos hc h
      refine lv_aload_n hx hb dL_law_973 rfl (lv_at hl 5 rfl) ?_
      refine lv_iconst (v := 0) hx hb dL_law_974 (by decide) ?_
      obtain ⟨v9, ev9, h⟩ := o_bind h
      refine g_lald hx hb hK hP 25 33 rfl rfl ev9 dL_law_975 ?_
      refine lv_iload hx hb dL_law_976 (lv_at hl 0 rfl) ?_
      refine lv_i2l (v := ((v6 : Int32).toInt64)) hx hb dL_law_978 rfl ?_
      refine W.lcmp hx hb dL_law_979 ?_
      refine lv_if_eq (tgt := 985) hx hb dL_law_980 (by decide) (fun hc => ?_) (fun hc => ?_)
      · have h := o_pos hc h
        refine lv_goto (tgt := 1933) hx hb dL_law_985 (by decide) ?_
        refine lv_iinc (v := (x5 + 5)) (lv' := [(5, .int (x5 + 5)), (7, .int v6), (6, .int v2), (0, .ref b), (1, .ref (ad 0)), (2, .ref (am 0)), (3, .ref qo), (4, .ref qd)]) hx hb dL_law_1933 hl (k := 7) rfl rfl (by decide) rfl (fun ls hl => ?_)
        refine lv_goto (tgt := 28) hx hb dL_law_1936 (by decide) ?_
        refine W.widen (k := kc + 5) (n := ks + 80) (by omega) (by omega) ?_
        exact K S3 M7 o4 dv (x5 + 5) _ _ ls hP hD hS (lv_sub hl [3, 4, 5, 6, 7, 0] rfl) h
      · have h := o_neg hc h
        refine lv_iconst (v := 0) hx hb dL_law_983 (by decide) ?_
        exact absurd (Option.some.inj h) (by decide)
  · have h := o_neg hc h
    refine lv_iconst (v := 0) hx hb dL_law_966 (by decide) ?_
    exact absurd (Option.some.inj h) (by decide)
set_option maxHeartbeats 4000000 in
set_option maxRecDepth 100000 in
theorem law_c13 {p : Program} {l : Launch} {e : Env} {s : State} {m : MethodId} {below : List Frame} {meth : Method} {c : Code} (hst : l.stackTraces = false) {b L : Nat} {xs : Nat → Int32} (C0 : lw_At p s m meth c b L xs) {D : va_G} {cy : Nat → ClassId} {ad am : Nat → Nat} {qo qd : Nat} (hK : va_K D vwCl (gT cy ++ []) s) (hE : gX (lA s) s) {rec : PS → PS → (Nat → Int64) → (Nat → UInt64) → Int32 → Option Int32} {kc ks : Nat} (hkc : kc + 5 ≤ 601024) (hks : ks + 80 ≤ 7293034) (K : lw_K p l e s m below meth c b D cy ad am qo qd rec (kc + 5) (ks + 80)) (S M : PS) (ov : Nat → Int64) (dv : Nat → UInt64) (x5 : Int32) (H : Heap) (locs : List Loc) (ls : Array Slot) (hP : va_P D vwCl (wL cy ad am qo qd S M ov dv) H) (hD : va_D (lA s) (wL cy ad am qo qd S M ov dv)) (hS : va_S (lA s) s.heap H locs) (hl : lv_has ls 9 [(0, .ref b), (1, .ref (ad 0)), (2, .ref (am 0)), (3, .ref qo), (4, .ref qd), (5, .int x5)]) (h : q_law_c13 xs L rec S M ov dv x5 = some 1) : W p l e room_1 s m #[Value.ref b] below meth c H locs kc ks (lw_Z below #[Value.ref b] s) (F0 m 988 ls []) := by
  obtain ⟨hx, hb, hr, hml, hown, hts0, hX, hbl, hlocks, hgv⟩ := C0
  have hts : ∀ w ∈ wsL_law, w.before #[Value.ref b] s = true := fun w h => hts0 w (wsL_law_in w h)
  have hA : ∀ q : Nat, s.heap.size ≤ q → lA s q := fun _ h => h
  have hbA : ¬ lA s b := Nat.not_le.mpr hbl
  refine W.widen (k := kc + 0) (n := ks + 0) (Nat.le_refl _) (Nat.le_refl _) ?_
  unfold q_law_c13 at h
  refine lv_aload_n hx hb dL_law_988 rfl (lv_at hl 1 rfl) ?_
  refine lv_aload_n hx hb dL_law_989 rfl (lv_at hl 0 rfl) ?_
  refine lv_iload hx hb dL_law_990 (lv_at hl 5 rfl) ?_
  refine lv_iconst (v := 1) hx hb dL_law_992 (by decide) ?_
  refine lv_iadd hx hb dL_law_993 ?_
  obtain ⟨v1, ev1, h⟩ := o_bind h
  refine g_sld hx hb hX hbl hbA hS ev1 dL_law_994 ?_
  refine lv_aload_n hx hb dL_law_995 rfl (lv_at hl 0 rfl) ?_
  refine lv_iload hx hb dL_law_996 (lv_at hl 5 rfl) ?_
  refine lv_iconst (v := 2) hx hb dL_law_998 (by decide) ?_
  refine lv_iadd hx hb dL_law_999 ?_
  obtain ⟨v2, ev2, h⟩ := o_bind h
  refine g_sld hx hb hX hbl hbA hS ev2 dL_law_1000 ?_
  refine lv_aload_n hx hb dL_law_1001 rfl (lv_at hl 0 rfl) ?_
  refine lv_iload hx hb dL_law_1002 (lv_at hl 5 rfl) ?_
  refine lv_iconst (v := 3) hx hb dL_law_1004 (by decide) ?_
  refine lv_iadd hx hb dL_law_1005 ?_
  obtain ⟨v3, ev3, h⟩ := o_bind h
  refine g_sld hx hb hX hbl hbA hS ev3 dL_law_1006 ?_
  refine lv_aload_n hx hb dL_law_1007 rfl (lv_at hl 3 rfl) ?_
  obtain ⟨⟨S5, o6, v4⟩, ev4, h⟩ := o_bind h
  refine g_cL (As := [.ref (ad 0), .int v1, .int v2, .int v3, .ref qo]) (rest := []) ⟨hx, hb, hml, hown, hts⟩ (m_L_setLimits l hst D cy [] ad qo (dD cy qd dv :: mW cy am M []) _ S ov v1 v2 v3 S5 o6 v4 ev4) (vx_cwSW 5 hts gL_law_L_setLimits rfl rfl rfl (by decide +kernel) ⟨(Nat.le_of_ble_eq_true rfl), (Nat.le_of_ble_eq_true rfl)⟩) hP hK hD hS hA hE rfl hl.1 rfl (Nat.le_of_ble_eq_true rfl) dL_law_1008 ⟨(by show kc + 0 + 1 ≤ 601024; omega), (by show ks + 0 + 6 ≤ 7293034; omega)⟩ (fun H locs hP hD hS => ?_)
  have hP : va_P D vwCl (wL cy ad am qo qd S5 M o6 dv) H := hP
  have hD : va_D (lA s) (wL cy ad am qo qd S5 M o6 dv) := hD
  refine W.widen (k := kc + 1) (n := ks + 6) (by omega) (by omega) ?_
  refine lv_istore (lv' := [(6, .int v4), (0, .ref b), (1, .ref (ad 0)), (2, .ref (am 0)), (3, .ref qo), (4, .ref qd), (5, .int x5)]) hx hb dL_law_1011 hl (by decide) rfl (fun ls hl => ?_)
  refine lv_aload_n hx hb dL_law_1013 rfl (lv_at hl 3 rfl) ?_
  refine lv_aload_n hx hb dL_law_1014 rfl (lv_at hl 1 rfl) ?_
  refine lv_iload hx hb dL_law_1015 (lv_at hl 6 rfl) ?_
  refine lv_iconst (v := 1) hx hb dL_law_1017 (by decide) ?_
  refine lv_iadd hx hb dL_law_1018 ?_
  obtain ⟨v7, ev7, h⟩ := o_bind h
  refine g_sld hx hb hX hbl hbA hS ev7 dL_law_1019 ?_
  refine lv_aload_n hx hb dL_law_1020 rfl (lv_at hl 1 rfl) ?_
  refine lv_iload hx hb dL_law_1021 (lv_at hl 6 rfl) ?_
  refine lv_iconst (v := 2) hx hb dL_law_1023 (by decide) ?_
  refine lv_iadd hx hb dL_law_1024 ?_
  obtain ⟨v8, ev8, h⟩ := o_bind h
  refine g_sld hx hb hX hbl hbA hS ev8 dL_law_1025 ?_
  refine lv_aload_n hx hb dL_law_1026 rfl (lv_at hl 1 rfl) ?_
  refine lv_iload hx hb dL_law_1027 (lv_at hl 6 rfl) ?_
  refine lv_iconst (v := 3) hx hb dL_law_1029 (by decide) ?_
  refine lv_iadd hx hb dL_law_1030 ?_
  obtain ⟨v9, ev9, h⟩ := o_bind h
  refine g_sld hx hb hX hbl hbA hS ev9 dL_law_1031 ?_
  have hP := wL_toCP hP
  have hD := wL_toCD hD
  obtain ⟨⟨M11, v10⟩, ev10, h⟩ := o_bind h
  refine g_cVi (As := [.int v7, .int v8, .int v9]) (rest := []) ⟨hx, hb, hml, hown, hts⟩ (m_X6_setLimits l hst D cy [] am (oC cy qo o6 :: dD cy qd dv :: xW cy ad S5 []) _ M v7 v8 v9 M11 v10 ev10) (cwV 3 hts gL_law_X6_setLimits rfl rfl rfl (by decide +kernel) ⟨(Nat.le_of_ble_eq_true rfl), (Nat.le_of_ble_eq_true rfl)⟩) (va_recv hK hP (ci := 6) (q0 := 0) rfl rfl) hP hK hD hS hA hE rfl hl.1 rfl (Nat.le_of_ble_eq_true rfl) dL_law_1032 ⟨(by show kc + 1 + 0 ≤ 601024; omega), (by show ks + 6 + 0 ≤ 7293034; omega)⟩ (fun H locs hP hD hS => ?_)
  have hP := wL_ofCP hP
  have hD := wL_ofCD hD
  have hP : va_P D vwCl (wL cy ad am qo qd S5 M11 o6 dv) H := hP
  have hD : va_D (lA s) (wL cy ad am qo qd S5 M11 o6 dv) := hD
  refine W.widen (k := kc + 1) (n := ks + 6) (by omega) (by omega) ?_
  refine lv_istore (lv' := [(7, .int v10), (6, .int v4), (0, .ref b), (1, .ref (ad 0)), (2, .ref (am 0)), (3, .ref qo), (4, .ref qd), (5, .int x5)]) hx hb dL_law_1035 hl (by decide) rfl (fun ls hl => ?_)
  refine lv_aload_n hx hb dL_law_1037 rfl (lv_at hl 4 rfl) ?_
  have hP := wL_toCP hP
  have hD := wL_toCD hD
  obtain ⟨v12, ev12, h⟩ := o_bind h
  refine g_cVi (As := []) (rest := []) ⟨hx, hb, hml, hown, hts⟩ (m_X6_thrown l hst D cy [] am (oC cy qo o6 :: dD cy qd dv :: xW cy ad S5 []) _ M11  v12 ev12) (cwV 0 hts gL_law_X6_thrown rfl rfl rfl (by decide +kernel) ⟨(Nat.le_of_ble_eq_true rfl), (Nat.le_of_ble_eq_true rfl)⟩) (va_recv hK hP (ci := 6) (q0 := 0) rfl rfl) hP hK hD hS hA hE rfl hl.1 rfl (Nat.le_of_ble_eq_true rfl) dL_law_1038 ⟨(by show kc + 1 + 0 ≤ 601024; omega), (by show ks + 6 + 0 ≤ 7293034; omega)⟩ (fun H locs hP hD hS => ?_)
  have hP := wL_ofCP hP
  have hD := wL_ofCD hD
  have hP : va_P D vwCl (wL cy ad am qo qd S5 M11 o6 dv) H := hP
  have hD : va_D (lA s) (wL cy ad am qo qd S5 M11 o6 dv) := hD
  refine W.widen (k := kc + 1) (n := ks + 6) (by omega) (by omega) ?_
  refine lv_iload hx hb dL_law_1041 (lv_at hl 1 rfl) ?_
  refine lv_icmp_eq (tgt := 1048) hx hb dL_law_1043 (by decide) (fun hc => ?_) (fun hc => ?_)
  · have h := o_pos hc h
    refine lv_iload hx hb dL_law_1048 (lv_at hl 1 rfl) ?_
    refine lv_if_ne (tgt := 1072) hx hb dL_law_1050 (by decide) (fun hc => ?_) (fun hc => ?_)
    · have h := o_neg hc h
      refine lv_goto (tgt := 1933) hx hb dL_law_1072 (by decide) ?_
      refine lv_iinc (v := (x5 + 5)) (lv' := [(5, .int (x5 + 5)), (7, .int v10), (6, .int v4), (0, .ref b), (1, .ref (ad 0)), (2, .ref (am 0)), (3, .ref qo), (4, .ref qd)]) hx hb dL_law_1933 hl (k := 7) rfl rfl (by decide) rfl (fun ls hl => ?_)
      refine lv_goto (tgt := 28) hx hb dL_law_1936 (by decide) ?_
      refine W.widen (k := kc + 5) (n := ks + 80) (by omega) (by omega) ?_
      exact K S5 M11 o6 dv (x5 + 5) _ _ ls hP hD hS (lv_sub hl [3, 4, 5, 6, 7, 0] rfl) h
    · have h := o_pos hc h
      refine lv_aload_n hx hb dL_law_1053 rfl (lv_at hl 5 rfl) ?_
      refine lv_iconst (v := 0) hx hb dL_law_1054 (by decide) ?_
      obtain ⟨v13, ev13, h⟩ := o_bind h
      refine g_lald hx hb hK hP 25 33 rfl rfl ev13 dL_law_1055 ?_
      refine lv_iload hx hb dL_law_1056 (lv_at hl 0 rfl) ?_
      refine lv_if_eq (tgt := 1065) hx hb dL_law_1058 (by decide) (fun hc => ?_) (fun hc => ?_)
      · have h := o_pos hc h
        refine lv_lconst (v := 0) hx hb dL_law_1065 (by decide) ?_
        refine W.lcmp hx hb dL_law_1066 ?_
        refine lv_if_eq (tgt := 1072) hx hb dL_law_1067 (by decide) (fun hc => ?_) (fun hc => ?_)
        · have h := o_pos hc h
          refine lv_goto (tgt := 1933) hx hb dL_law_1072 (by decide) ?_
          refine lv_iinc (v := (x5 + 5)) (lv' := [(5, .int (x5 + 5)), (7, .int v10), (6, .int v4), (0, .ref b), (1, .ref (ad 0)), (2, .ref (am 0)), (3, .ref qo), (4, .ref qd)]) hx hb dL_law_1933 hl (k := 7) rfl rfl (by decide) rfl (fun ls hl => ?_)
          refine lv_goto (tgt := 28) hx hb dL_law_1936 (by decide) ?_
          refine W.widen (k := kc + 5) (n := ks + 80) (by omega) (by omega) ?_
          exact K S5 M11 o6 dv (x5 + 5) _ _ ls hP hD hS (lv_sub hl [3, 4, 5, 6, 7, 0] rfl) h
        · have h := o_neg hc h
          refine lv_iconst (v := 0) hx hb dL_law_1070 (by decide) ?_
          exact absurd (Option.some.inj h) (by decide)
      · have h := o_neg hc h
        refine lv_lconst (v := 1) hx hb dL_law_1061 (by decide) ?_
        refine lv_goto (tgt := 1066) hx hb dL_law_1062 (by decide) ?_
        refine W.lcmp hx hb dL_law_1066 ?_
        refine lv_if_eq (tgt := 1072) hx hb dL_law_1067 (by decide) (fun hc => ?_) (fun hc => ?_)
        · have h := o_pos hc h
          refine lv_goto (tgt := 1933) hx hb dL_law_1072 (by decide) ?_
          refine lv_iinc (v := (x5 + 5)) (lv' := [(5, .int (x5 + 5)), (7, .int v10), (6, .int v4), (0, .ref b), (1, .ref (ad 0)), (2, .ref (am 0)), (3, .ref qo), (4, .ref qd)]) hx hb dL_law_1933 hl (k := 7) rfl rfl (by decide) rfl (fun ls hl => ?_)
          refine lv_goto (tgt := 28) hx hb dL_law_1936 (by decide) ?_
          refine W.widen (k := kc + 5) (n := ks + 80) (by omega) (by omega) ?_
          exact K S5 M11 o6 dv (x5 + 5) _ _ ls hP hD hS (lv_sub hl [3, 4, 5, 6, 7, 0] rfl) h
        · have h := o_neg hc h
          refine lv_iconst (v := 0) hx hb dL_law_1070 (by decide) ?_
          exact absurd (Option.some.inj h) (by decide)
  · have h := o_neg hc h
    refine lv_iconst (v := 0) hx hb dL_law_1046 (by decide) ?_
    exact absurd (Option.some.inj h) (by decide)
set_option maxHeartbeats 4000000 in
set_option maxRecDepth 100000 in
theorem law_c14 {p : Program} {l : Launch} {e : Env} {s : State} {m : MethodId} {below : List Frame} {meth : Method} {c : Code} (hst : l.stackTraces = false) {b L : Nat} {xs : Nat → Int32} (C0 : lw_At p s m meth c b L xs) {D : va_G} {cy : Nat → ClassId} {ad am : Nat → Nat} {qo qd : Nat} (hK : va_K D vwCl (gT cy ++ []) s) (hE : gX (lA s) s) {rec : PS → PS → (Nat → Int64) → (Nat → UInt64) → Int32 → Option Int32} {kc ks : Nat} (hkc : kc + 5 ≤ 601024) (hks : ks + 80 ≤ 7293034) (K : lw_K p l e s m below meth c b D cy ad am qo qd rec (kc + 5) (ks + 80)) (S M : PS) (ov : Nat → Int64) (dv : Nat → UInt64) (x5 : Int32) (H : Heap) (locs : List Loc) (ls : Array Slot) (hP : va_P D vwCl (wL cy ad am qo qd S M ov dv) H) (hD : va_D (lA s) (wL cy ad am qo qd S M ov dv)) (hS : va_S (lA s) s.heap H locs) (hl : lv_has ls 9 [(0, .ref b), (1, .ref (ad 0)), (2, .ref (am 0)), (3, .ref qo), (4, .ref qd), (5, .int x5)]) (h : q_law_c14 xs L rec S M ov dv x5 = some 1) : W p l e room_1 s m #[Value.ref b] below meth c H locs kc ks (lw_Z below #[Value.ref b] s) (F0 m 1075 ls []) := by
  obtain ⟨hx, hb, hr, hml, hown, hts0, hX, hbl, hlocks, hgv⟩ := C0
  have hts : ∀ w ∈ wsL_law, w.before #[Value.ref b] s = true := fun w h => hts0 w (wsL_law_in w h)
  have hA : ∀ q : Nat, s.heap.size ≤ q → lA s q := fun _ h => h
  have hbA : ¬ lA s b := Nat.not_le.mpr hbl
  refine W.widen (k := kc + 0) (n := ks + 0) (Nat.le_refl _) (Nat.le_refl _) ?_
  unfold q_law_c14 at h
  refine lv_aload_n hx hb dL_law_1075 rfl (lv_at hl 1 rfl) ?_
  refine lv_aload_n hx hb dL_law_1076 rfl (lv_at hl 0 rfl) ?_
  refine lv_iload hx hb dL_law_1077 (lv_at hl 5 rfl) ?_
  refine lv_iconst (v := 1) hx hb dL_law_1079 (by decide) ?_
  refine lv_iadd hx hb dL_law_1080 ?_
  obtain ⟨v1, ev1, h⟩ := o_bind h
  refine g_sld hx hb hX hbl hbA hS ev1 dL_law_1081 ?_
  refine lv_aload_n hx hb dL_law_1082 rfl (lv_at hl 3 rfl) ?_
  obtain ⟨⟨S3, o4, v2⟩, ev2, h⟩ := o_bind h
  refine g_cL (As := [.ref (ad 0), .int v1, .ref qo]) (rest := []) ⟨hx, hb, hml, hown, hts⟩ (m_L_plan l hst D cy [] ad qo (dD cy qd dv :: mW cy am M []) _ S ov v1 S3 o4 v2 ev2) (vx_cwSW 3 hts gL_law_L_plan rfl rfl rfl (by decide +kernel) ⟨(Nat.le_of_ble_eq_true rfl), (Nat.le_of_ble_eq_true rfl)⟩) hP hK hD hS hA hE rfl hl.1 rfl (Nat.le_of_ble_eq_true rfl) dL_law_1083 ⟨(by show kc + 0 + 1 ≤ 601024; omega), (by show ks + 0 + 6 ≤ 7293034; omega)⟩ (fun H locs hP hD hS => ?_)
  have hP : va_P D vwCl (wL cy ad am qo qd S3 M o4 dv) H := hP
  have hD : va_D (lA s) (wL cy ad am qo qd S3 M o4 dv) := hD
  refine W.widen (k := kc + 1) (n := ks + 6) (by omega) (by omega) ?_
  refine lv_istore (lv' := [(6, .int v2), (0, .ref b), (1, .ref (ad 0)), (2, .ref (am 0)), (3, .ref qo), (4, .ref qd), (5, .int x5)]) hx hb dL_law_1086 hl (by decide) rfl (fun ls hl => ?_)
  refine lv_aload_n hx hb dL_law_1088 rfl (lv_at hl 3 rfl) ?_
  refine lv_aload_n hx hb dL_law_1089 rfl (lv_at hl 1 rfl) ?_
  refine lv_iload hx hb dL_law_1090 (lv_at hl 6 rfl) ?_
  refine lv_iconst (v := 1) hx hb dL_law_1092 (by decide) ?_
  refine lv_iadd hx hb dL_law_1093 ?_
  obtain ⟨v5, ev5, h⟩ := o_bind h
  refine g_sld hx hb hX hbl hbA hS ev5 dL_law_1094 ?_
  have hP := wL_toCP hP
  have hD := wL_toCD hD
  obtain ⟨⟨M7, v6⟩, ev6, h⟩ := o_bind h
  refine g_cVi (As := [.int v5]) (rest := []) ⟨hx, hb, hml, hown, hts⟩ (m_X6_plan l hst D cy [] am (oC cy qo o4 :: dD cy qd dv :: xW cy ad S3 []) _ M v5 M7 v6 ev6) (cwV 1 hts gL_law_X6_plan rfl rfl rfl (by decide +kernel) ⟨(Nat.le_of_ble_eq_true rfl), (Nat.le_of_ble_eq_true rfl)⟩) (va_recv hK hP (ci := 6) (q0 := 0) rfl rfl) hP hK hD hS hA hE rfl hl.1 rfl (Nat.le_of_ble_eq_true rfl) dL_law_1095 ⟨(by show kc + 1 + 0 ≤ 601024; omega), (by show ks + 6 + 0 ≤ 7293034; omega)⟩ (fun H locs hP hD hS => ?_)
  have hP := wL_ofCP hP
  have hD := wL_ofCD hD
  have hP : va_P D vwCl (wL cy ad am qo qd S3 M7 o4 dv) H := hP
  have hD : va_D (lA s) (wL cy ad am qo qd S3 M7 o4 dv) := hD
  refine W.widen (k := kc + 1) (n := ks + 6) (by omega) (by omega) ?_
  refine lv_istore (lv' := [(7, .int v6), (6, .int v2), (0, .ref b), (1, .ref (ad 0)), (2, .ref (am 0)), (3, .ref qo), (4, .ref qd), (5, .int x5)]) hx hb dL_law_1098 hl (by decide) rfl (fun ls hl => ?_)
  refine lv_aload_n hx hb dL_law_1100 rfl (lv_at hl 4 rfl) ?_
  have hP := wL_toCP hP
  have hD := wL_toCD hD
  obtain ⟨v8, ev8, h⟩ := o_bind h
  refine g_cVi (As := []) (rest := []) ⟨hx, hb, hml, hown, hts⟩ (m_X6_thrown l hst D cy [] am (oC cy qo o4 :: dD cy qd dv :: xW cy ad S3 []) _ M7  v8 ev8) (cwV 0 hts gL_law_X6_thrown rfl rfl rfl (by decide +kernel) ⟨(Nat.le_of_ble_eq_true rfl), (Nat.le_of_ble_eq_true rfl)⟩) (va_recv hK hP (ci := 6) (q0 := 0) rfl rfl) hP hK hD hS hA hE rfl hl.1 rfl (Nat.le_of_ble_eq_true rfl) dL_law_1101 ⟨(by show kc + 1 + 0 ≤ 601024; omega), (by show ks + 6 + 0 ≤ 7293034; omega)⟩ (fun H locs hP hD hS => ?_)
  have hP := wL_ofCP hP
  have hD := wL_ofCD hD
  have hP : va_P D vwCl (wL cy ad am qo qd S3 M7 o4 dv) H := hP
  have hD : va_D (lA s) (wL cy ad am qo qd S3 M7 o4 dv) := hD
  refine W.widen (k := kc + 1) (n := ks + 6) (by omega) (by omega) ?_
  refine lv_iload hx hb dL_law_1104 (lv_at hl 1 rfl) ?_
  refine lv_icmp_eq (tgt := 1111) hx hb dL_law_1106 (by decide) (fun hc => ?_) (fun hc => ?_)
  · have h := o_pos hc h
    refine lv_iload hx hb dL_law_1111 (lv_at hl 1 rfl) ?_
    refine lv_if_ne (tgt := 1128) hx hb dL_law_1113 (by decide) (fun hc => ?_) (fun hc => ?_)
    · have h := o_neg hc h
      refine lv_goto (tgt := 1933) hx hb dL_law_1128 (by decide) ?_
      refine lv_iinc (v := (x5 + 5)) (lv' := [(5, .int (x5 + 5)), (7, .int v6), (6, .int v2), (0, .ref b), (1, .ref (ad 0)), (2, .ref (am 0)), (3, .ref qo), (4, .ref qd)]) hx hb dL_law_1933 hl (k := 7) rfl rfl (by decide) rfl (fun ls hl => ?_)
      refine lv_goto (tgt := 28) hx hb dL_law_1936 (by decide) ?_
      refine W.widen (k := kc + 5) (n := ks + 80) (by omega) (by omega) ?_
      exact K S3 M7 o4 dv (x5 + 5) _ _ ls hP hD hS (lv_sub hl [3, 4, 5, 6, 7, 0] rfl) h
    · have h := o_pos hc h
      refine lv_aload_n hx hb dL_law_1116 rfl (lv_at hl 5 rfl) ?_
      refine lv_iconst (v := 0) hx hb dL_law_1117 (by decide) ?_
      obtain ⟨v9, ev9, h⟩ := o_bind h
      refine g_lald hx hb hK hP 25 33 rfl rfl ev9 dL_law_1118 ?_
      refine lv_iload hx hb dL_law_1119 (lv_at hl 0 rfl) ?_
      refine lv_i2l (v := ((v6 : Int32).toInt64)) hx hb dL_law_1121 rfl ?_
      refine W.lcmp hx hb dL_law_1122 ?_
      refine lv_if_eq (tgt := 1128) hx hb dL_law_1123 (by decide) (fun hc => ?_) (fun hc => ?_)
      · have h := o_pos hc h
        refine lv_goto (tgt := 1933) hx hb dL_law_1128 (by decide) ?_
        refine lv_iinc (v := (x5 + 5)) (lv' := [(5, .int (x5 + 5)), (7, .int v6), (6, .int v2), (0, .ref b), (1, .ref (ad 0)), (2, .ref (am 0)), (3, .ref qo), (4, .ref qd)]) hx hb dL_law_1933 hl (k := 7) rfl rfl (by decide) rfl (fun ls hl => ?_)
        refine lv_goto (tgt := 28) hx hb dL_law_1936 (by decide) ?_
        refine W.widen (k := kc + 5) (n := ks + 80) (by omega) (by omega) ?_
        exact K S3 M7 o4 dv (x5 + 5) _ _ ls hP hD hS (lv_sub hl [3, 4, 5, 6, 7, 0] rfl) h
      · have h := o_neg hc h
        refine lv_iconst (v := 0) hx hb dL_law_1126 (by decide) ?_
        exact absurd (Option.some.inj h) (by decide)
  · have h := o_neg hc h
    refine lv_iconst (v := 0) hx hb dL_law_1109 (by decide) ?_
    exact absurd (Option.some.inj h) (by decide)
set_option maxHeartbeats 4000000 in
set_option maxRecDepth 100000 in
theorem law_c15 {p : Program} {l : Launch} {e : Env} {s : State} {m : MethodId} {below : List Frame} {meth : Method} {c : Code} (hst : l.stackTraces = false) {b L : Nat} {xs : Nat → Int32} (C0 : lw_At p s m meth c b L xs) {D : va_G} {cy : Nat → ClassId} {ad am : Nat → Nat} {qo qd : Nat} (hK : va_K D vwCl (gT cy ++ []) s) (hE : gX (lA s) s) {rec : PS → PS → (Nat → Int64) → (Nat → UInt64) → Int32 → Option Int32} {kc ks : Nat} (hkc : kc + 5 ≤ 601024) (hks : ks + 80 ≤ 7293034) (K : lw_K p l e s m below meth c b D cy ad am qo qd rec (kc + 5) (ks + 80)) (S M : PS) (ov : Nat → Int64) (dv : Nat → UInt64) (x5 : Int32) (H : Heap) (locs : List Loc) (ls : Array Slot) (hP : va_P D vwCl (wL cy ad am qo qd S M ov dv) H) (hD : va_D (lA s) (wL cy ad am qo qd S M ov dv)) (hS : va_S (lA s) s.heap H locs) (hl : lv_has ls 9 [(0, .ref b), (1, .ref (ad 0)), (2, .ref (am 0)), (3, .ref qo), (4, .ref qd), (5, .int x5)]) (h : q_law_c15 xs L rec S M ov dv x5 = some 1) : W p l e room_1 s m #[Value.ref b] below meth c H locs kc ks (lw_Z below #[Value.ref b] s) (F0 m 1131 ls []) := by
  obtain ⟨hx, hb, hr, hml, hown, hts0, hX, hbl, hlocks, hgv⟩ := C0
  have hts : ∀ w ∈ wsL_law, w.before #[Value.ref b] s = true := fun w h => hts0 w (wsL_law_in w h)
  have hA : ∀ q : Nat, s.heap.size ≤ q → lA s q := fun _ h => h
  have hbA : ¬ lA s b := Nat.not_le.mpr hbl
  refine W.widen (k := kc + 0) (n := ks + 0) (Nat.le_refl _) (Nat.le_refl _) ?_
  unfold q_law_c15 at h
  refine lv_aload_n hx hb dL_law_1131 rfl (lv_at hl 1 rfl) ?_
  obtain ⟨v1, ev1, h⟩ := o_bind h
  refine g_cVi (As := []) (rest := []) ⟨hx, hb, hml, hown, hts⟩ (m_X5_hasPlan l hst D cy [] ad (oC cy qo ov :: dD cy qd dv :: mW cy am M []) _ S  v1 ev1) (cwV 0 hts gL_law_X5_hasPlan rfl rfl rfl (by decide +kernel) ⟨(Nat.le_of_ble_eq_true rfl), (Nat.le_of_ble_eq_true rfl)⟩) (va_recv hK hP (ci := 5) (q0 := 0) rfl rfl) hP hK hD hS hA hE rfl hl.1 rfl (Nat.le_of_ble_eq_true rfl) dL_law_1132 ⟨(by show kc + 0 + 0 ≤ 601024; omega), (by show ks + 0 + 0 ≤ 7293034; omega)⟩ (fun H locs hP hD hS => ?_)
  have hP : va_P D vwCl (wL cy ad am qo qd S M ov dv) H := hP
  have hD : va_D (lA s) (wL cy ad am qo qd S M ov dv) := hD
  refine W.widen (k := kc + 0) (n := ks + 0) (by omega) (by omega) ?_
  refine lv_aload_n hx hb dL_law_1135 rfl (lv_at hl 2 rfl) ?_
  have hP := wL_toCP hP
  have hD := wL_toCD hD
  obtain ⟨⟨M3, v2⟩, ev2, h⟩ := o_bind h
  refine g_cVi (As := []) (rest := [.int v1]) ⟨hx, hb, hml, hown, hts⟩ (m_X6_hasPlan l hst D cy [] am (oC cy qo ov :: dD cy qd dv :: xW cy ad S []) _ M  M3 v2 ev2) (cwV 0 hts gL_law_X6_hasPlan rfl rfl rfl (by decide +kernel) ⟨(Nat.le_of_ble_eq_true rfl), (Nat.le_of_ble_eq_true rfl)⟩) (va_recv hK hP (ci := 6) (q0 := 0) rfl rfl) hP hK hD hS hA hE rfl hl.1 rfl (Nat.le_of_ble_eq_true rfl) dL_law_1136 ⟨(by show kc + 0 + 0 ≤ 601024; omega), (by show ks + 0 + 0 ≤ 7293034; omega)⟩ (fun H locs hP hD hS => ?_)
  have hP := wL_ofCP hP
  have hD := wL_ofCD hD
  have hP : va_P D vwCl (wL cy ad am qo qd S M3 ov dv) H := hP
  have hD : va_D (lA s) (wL cy ad am qo qd S M3 ov dv) := hD
  refine W.widen (k := kc + 0) (n := ks + 0) (by omega) (by omega) ?_
  refine lv_icmp_eq (tgt := 1933) hx hb dL_law_1139 (by decide) (fun hc => ?_) (fun hc => ?_)
  · have h := o_pos hc h
    refine lv_iinc (v := (x5 + 5)) (lv' := [(5, .int (x5 + 5)), (0, .ref b), (1, .ref (ad 0)), (2, .ref (am 0)), (3, .ref qo), (4, .ref qd)]) hx hb dL_law_1933 hl (k := 5) rfl rfl (by decide) rfl (fun ls hl => ?_)
    refine lv_goto (tgt := 28) hx hb dL_law_1936 (by decide) ?_
    refine W.widen (k := kc + 5) (n := ks + 80) (by omega) (by omega) ?_
    exact K S M3 ov dv (x5 + 5) _ _ ls hP hD hS (lv_sub hl [1, 2, 3, 4, 5, 0] rfl) h
  · have h := o_neg hc h
    refine lv_iconst (v := 0) hx hb dL_law_1142 (by decide) ?_
    exact absurd (Option.some.inj h) (by decide)
set_option maxHeartbeats 4000000 in
set_option maxRecDepth 100000 in
theorem law_c16 {p : Program} {l : Launch} {e : Env} {s : State} {m : MethodId} {below : List Frame} {meth : Method} {c : Code} (hst : l.stackTraces = false) {b L : Nat} {xs : Nat → Int32} (C0 : lw_At p s m meth c b L xs) {D : va_G} {cy : Nat → ClassId} {ad am : Nat → Nat} {qo qd : Nat} (hK : va_K D vwCl (gT cy ++ []) s) (hE : gX (lA s) s) {rec : PS → PS → (Nat → Int64) → (Nat → UInt64) → Int32 → Option Int32} {kc ks : Nat} (hkc : kc + 5 ≤ 601024) (hks : ks + 80 ≤ 7293034) (K : lw_K p l e s m below meth c b D cy ad am qo qd rec (kc + 5) (ks + 80)) (S M : PS) (ov : Nat → Int64) (dv : Nat → UInt64) (x5 : Int32) (H : Heap) (locs : List Loc) (ls : Array Slot) (hP : va_P D vwCl (wL cy ad am qo qd S M ov dv) H) (hD : va_D (lA s) (wL cy ad am qo qd S M ov dv)) (hS : va_S (lA s) s.heap H locs) (hl : lv_has ls 9 [(0, .ref b), (1, .ref (ad 0)), (2, .ref (am 0)), (3, .ref qo), (4, .ref qd), (5, .int x5)]) (h : q_law_c16 xs L rec S M ov dv x5 = some 1) : W p l e room_1 s m #[Value.ref b] below meth c H locs kc ks (lw_Z below #[Value.ref b] s) (F0 m 1144 ls []) := by
  obtain ⟨hx, hb, hr, hml, hown, hts0, hX, hbl, hlocks, hgv⟩ := C0
  have hts : ∀ w ∈ wsL_law, w.before #[Value.ref b] s = true := fun w h => hts0 w (wsL_law_in w h)
  have hA : ∀ q : Nat, s.heap.size ≤ q → lA s q := fun _ h => h
  have hbA : ¬ lA s b := Nat.not_le.mpr hbl
  refine W.widen (k := kc + 0) (n := ks + 0) (Nat.le_refl _) (Nat.le_refl _) ?_
  unfold q_law_c16 at h
  refine lv_aload_n hx hb dL_law_1144 rfl (lv_at hl 1 rfl) ?_
  refine lv_aload_n hx hb dL_law_1145 rfl (lv_at hl 3 rfl) ?_
  obtain ⟨⟨S2, o3, v1⟩, ev1, h⟩ := o_bind h
  refine g_cL (As := [.ref (ad 0), .ref qo]) (rest := []) ⟨hx, hb, hml, hown, hts⟩ (m_L_nodeCount l hst D cy [] ad qo (dD cy qd dv :: mW cy am M []) _ S ov  S2 o3 v1 ev1) (vx_cwSW 2 hts gL_law_L_nodeCount rfl rfl rfl (by decide +kernel) ⟨(Nat.le_of_ble_eq_true rfl), (Nat.le_of_ble_eq_true rfl)⟩) hP hK hD hS hA hE rfl hl.1 rfl (Nat.le_of_ble_eq_true rfl) dL_law_1146 ⟨(by show kc + 0 + 1 ≤ 601024; omega), (by show ks + 0 + 6 ≤ 7293034; omega)⟩ (fun H locs hP hD hS => ?_)
  have hP : va_P D vwCl (wL cy ad am qo qd S2 M o3 dv) H := hP
  have hD : va_D (lA s) (wL cy ad am qo qd S2 M o3 dv) := hD
  refine W.widen (k := kc + 1) (n := ks + 6) (by omega) (by omega) ?_
  refine lv_istore (lv' := [(6, .int v1), (0, .ref b), (1, .ref (ad 0)), (2, .ref (am 0)), (3, .ref qo), (4, .ref qd), (5, .int x5)]) hx hb dL_law_1149 hl (by decide) rfl (fun ls hl => ?_)
  refine lv_aload_n hx hb dL_law_1151 rfl (lv_at hl 3 rfl) ?_
  have hP := wL_toCP hP
  have hD := wL_toCD hD
  obtain ⟨⟨M5, v4⟩, ev4, h⟩ := o_bind h
  refine g_cVi (As := []) (rest := []) ⟨hx, hb, hml, hown, hts⟩ (m_X6_nodeCount l hst D cy [] am (oC cy qo o3 :: dD cy qd dv :: xW cy ad S2 []) _ M  M5 v4 ev4) (cwV 0 hts gL_law_X6_nodeCount rfl rfl rfl (by decide +kernel) ⟨(Nat.le_of_ble_eq_true rfl), (Nat.le_of_ble_eq_true rfl)⟩) (va_recv hK hP (ci := 6) (q0 := 0) rfl rfl) hP hK hD hS hA hE rfl hl.1 rfl (Nat.le_of_ble_eq_true rfl) dL_law_1152 ⟨(by show kc + 1 + 0 ≤ 601024; omega), (by show ks + 6 + 0 ≤ 7293034; omega)⟩ (fun H locs hP hD hS => ?_)
  have hP := wL_ofCP hP
  have hD := wL_ofCD hD
  have hP : va_P D vwCl (wL cy ad am qo qd S2 M5 o3 dv) H := hP
  have hD : va_D (lA s) (wL cy ad am qo qd S2 M5 o3 dv) := hD
  refine W.widen (k := kc + 1) (n := ks + 6) (by omega) (by omega) ?_
  refine lv_istore (lv' := [(7, .int v4), (6, .int v1), (0, .ref b), (1, .ref (ad 0)), (2, .ref (am 0)), (3, .ref qo), (4, .ref qd), (5, .int x5)]) hx hb dL_law_1155 hl (by decide) rfl (fun ls hl => ?_)
  refine lv_aload_n hx hb dL_law_1157 rfl (lv_at hl 4 rfl) ?_
  have hP := wL_toCP hP
  have hD := wL_toCD hD
  obtain ⟨v6, ev6, h⟩ := o_bind h
  refine g_cVi (As := []) (rest := []) ⟨hx, hb, hml, hown, hts⟩ (m_X6_thrown l hst D cy [] am (oC cy qo o3 :: dD cy qd dv :: xW cy ad S2 []) _ M5  v6 ev6) (cwV 0 hts gL_law_X6_thrown rfl rfl rfl (by decide +kernel) ⟨(Nat.le_of_ble_eq_true rfl), (Nat.le_of_ble_eq_true rfl)⟩) (va_recv hK hP (ci := 6) (q0 := 0) rfl rfl) hP hK hD hS hA hE rfl hl.1 rfl (Nat.le_of_ble_eq_true rfl) dL_law_1158 ⟨(by show kc + 1 + 0 ≤ 601024; omega), (by show ks + 6 + 0 ≤ 7293034; omega)⟩ (fun H locs hP hD hS => ?_)
  have hP := wL_ofCP hP
  have hD := wL_ofCD hD
  have hP : va_P D vwCl (wL cy ad am qo qd S2 M5 o3 dv) H := hP
  have hD : va_D (lA s) (wL cy ad am qo qd S2 M5 o3 dv) := hD
  refine W.widen (k := kc + 1) (n := ks + 6) (by omega) (by omega) ?_
  refine lv_iload hx hb dL_law_1161 (lv_at hl 1 rfl) ?_
  refine lv_icmp_eq (tgt := 1168) hx hb dL_law_1163 (by decide) (fun hc => ?_) (fun hc => ?_)
  · have h := o_pos hc h
    refine lv_iload hx hb dL_law_1168 (lv_at hl 1 rfl) ?_
    refine lv_if_ne (tgt := 1185) hx hb dL_law_1170 (by decide) (fun hc => ?_) (fun hc => ?_)
    · have h := o_neg hc h
      refine lv_goto (tgt := 1933) hx hb dL_law_1185 (by decide) ?_
      refine lv_iinc (v := (x5 + 5)) (lv' := [(5, .int (x5 + 5)), (7, .int v4), (6, .int v1), (0, .ref b), (1, .ref (ad 0)), (2, .ref (am 0)), (3, .ref qo), (4, .ref qd)]) hx hb dL_law_1933 hl (k := 7) rfl rfl (by decide) rfl (fun ls hl => ?_)
      refine lv_goto (tgt := 28) hx hb dL_law_1936 (by decide) ?_
      refine W.widen (k := kc + 5) (n := ks + 80) (by omega) (by omega) ?_
      exact K S2 M5 o3 dv (x5 + 5) _ _ ls hP hD hS (lv_sub hl [3, 4, 5, 6, 7, 0] rfl) h
    · have h := o_pos hc h
      refine lv_aload_n hx hb dL_law_1173 rfl (lv_at hl 5 rfl) ?_
      refine lv_iconst (v := 0) hx hb dL_law_1174 (by decide) ?_
      obtain ⟨v7, ev7, h⟩ := o_bind h
      refine g_lald hx hb hK hP 25 33 rfl rfl ev7 dL_law_1175 ?_
      refine lv_iload hx hb dL_law_1176 (lv_at hl 0 rfl) ?_
      refine lv_i2l (v := ((v4 : Int32).toInt64)) hx hb dL_law_1178 rfl ?_
      refine W.lcmp hx hb dL_law_1179 ?_
      refine lv_if_eq (tgt := 1185) hx hb dL_law_1180 (by decide) (fun hc => ?_) (fun hc => ?_)
      · have h := o_pos hc h
        refine lv_goto (tgt := 1933) hx hb dL_law_1185 (by decide) ?_
        refine lv_iinc (v := (x5 + 5)) (lv' := [(5, .int (x5 + 5)), (7, .int v4), (6, .int v1), (0, .ref b), (1, .ref (ad 0)), (2, .ref (am 0)), (3, .ref qo), (4, .ref qd)]) hx hb dL_law_1933 hl (k := 7) rfl rfl (by decide) rfl (fun ls hl => ?_)
        refine lv_goto (tgt := 28) hx hb dL_law_1936 (by decide) ?_
        refine W.widen (k := kc + 5) (n := ks + 80) (by omega) (by omega) ?_
        exact K S2 M5 o3 dv (x5 + 5) _ _ ls hP hD hS (lv_sub hl [3, 4, 5, 6, 7, 0] rfl) h
      · have h := o_neg hc h
        refine lv_iconst (v := 0) hx hb dL_law_1183 (by decide) ?_
        exact absurd (Option.some.inj h) (by decide)
  · have h := o_neg hc h
    refine lv_iconst (v := 0) hx hb dL_law_1166 (by decide) ?_
    exact absurd (Option.some.inj h) (by decide)
set_option maxHeartbeats 4000000 in
set_option maxRecDepth 100000 in
theorem law_c17 {p : Program} {l : Launch} {e : Env} {s : State} {m : MethodId} {below : List Frame} {meth : Method} {c : Code} (hst : l.stackTraces = false) {b L : Nat} {xs : Nat → Int32} (C0 : lw_At p s m meth c b L xs) {D : va_G} {cy : Nat → ClassId} {ad am : Nat → Nat} {qo qd : Nat} (hK : va_K D vwCl (gT cy ++ []) s) (hE : gX (lA s) s) {rec : PS → PS → (Nat → Int64) → (Nat → UInt64) → Int32 → Option Int32} {kc ks : Nat} (hkc : kc + 5 ≤ 601024) (hks : ks + 80 ≤ 7293034) (K : lw_K p l e s m below meth c b D cy ad am qo qd rec (kc + 5) (ks + 80)) (S M : PS) (ov : Nat → Int64) (dv : Nat → UInt64) (x5 : Int32) (H : Heap) (locs : List Loc) (ls : Array Slot) (hP : va_P D vwCl (wL cy ad am qo qd S M ov dv) H) (hD : va_D (lA s) (wL cy ad am qo qd S M ov dv)) (hS : va_S (lA s) s.heap H locs) (hl : lv_has ls 9 [(0, .ref b), (1, .ref (ad 0)), (2, .ref (am 0)), (3, .ref qo), (4, .ref qd), (5, .int x5)]) (h : q_law_c17 xs L rec S M ov dv x5 = some 1) : W p l e room_1 s m #[Value.ref b] below meth c H locs kc ks (lw_Z below #[Value.ref b] s) (F0 m 1188 ls []) := by
  obtain ⟨hx, hb, hr, hml, hown, hts0, hX, hbl, hlocks, hgv⟩ := C0
  have hts : ∀ w ∈ wsL_law, w.before #[Value.ref b] s = true := fun w h => hts0 w (wsL_law_in w h)
  have hA : ∀ q : Nat, s.heap.size ≤ q → lA s q := fun _ h => h
  have hbA : ¬ lA s b := Nat.not_le.mpr hbl
  refine W.widen (k := kc + 0) (n := ks + 0) (Nat.le_refl _) (Nat.le_refl _) ?_
  unfold q_law_c17 at h
  refine lv_aload_n hx hb dL_law_1188 rfl (lv_at hl 1 rfl) ?_
  refine lv_aload_n hx hb dL_law_1189 rfl (lv_at hl 3 rfl) ?_
  obtain ⟨⟨S2, o3, v1⟩, ev1, h⟩ := o_bind h
  refine g_cL (As := [.ref (ad 0), .ref qo]) (rest := []) ⟨hx, hb, hml, hown, hts⟩ (m_L_size l hst D cy [] ad qo (dD cy qd dv :: mW cy am M []) _ S ov  S2 o3 v1 ev1) (vx_cwSW 2 hts gL_law_L_size rfl rfl rfl (by decide +kernel) ⟨(Nat.le_of_ble_eq_true rfl), (Nat.le_of_ble_eq_true rfl)⟩) hP hK hD hS hA hE rfl hl.1 rfl (Nat.le_of_ble_eq_true rfl) dL_law_1190 ⟨(by show kc + 0 + 1 ≤ 601024; omega), (by show ks + 0 + 6 ≤ 7293034; omega)⟩ (fun H locs hP hD hS => ?_)
  have hP : va_P D vwCl (wL cy ad am qo qd S2 M o3 dv) H := hP
  have hD : va_D (lA s) (wL cy ad am qo qd S2 M o3 dv) := hD
  refine W.widen (k := kc + 1) (n := ks + 6) (by omega) (by omega) ?_
  refine lv_istore (lv' := [(6, .int v1), (0, .ref b), (1, .ref (ad 0)), (2, .ref (am 0)), (3, .ref qo), (4, .ref qd), (5, .int x5)]) hx hb dL_law_1193 hl (by decide) rfl (fun ls hl => ?_)
  refine lv_aload_n hx hb dL_law_1195 rfl (lv_at hl 3 rfl) ?_
  have hP := wL_toCP hP
  have hD := wL_toCD hD
  obtain ⟨⟨M5, v4⟩, ev4, h⟩ := o_bind h
  refine g_cVi (As := []) (rest := []) ⟨hx, hb, hml, hown, hts⟩ (m_X6_size l hst D cy [] am (oC cy qo o3 :: dD cy qd dv :: xW cy ad S2 []) _ M  M5 v4 ev4) (cwV 0 hts gL_law_X6_size rfl rfl rfl (by decide +kernel) ⟨(Nat.le_of_ble_eq_true rfl), (Nat.le_of_ble_eq_true rfl)⟩) (va_recv hK hP (ci := 6) (q0 := 0) rfl rfl) hP hK hD hS hA hE rfl hl.1 rfl (Nat.le_of_ble_eq_true rfl) dL_law_1196 ⟨(by show kc + 1 + 0 ≤ 601024; omega), (by show ks + 6 + 0 ≤ 7293034; omega)⟩ (fun H locs hP hD hS => ?_)
  have hP := wL_ofCP hP
  have hD := wL_ofCD hD
  have hP : va_P D vwCl (wL cy ad am qo qd S2 M5 o3 dv) H := hP
  have hD : va_D (lA s) (wL cy ad am qo qd S2 M5 o3 dv) := hD
  refine W.widen (k := kc + 1) (n := ks + 6) (by omega) (by omega) ?_
  refine lv_istore (lv' := [(7, .int v4), (6, .int v1), (0, .ref b), (1, .ref (ad 0)), (2, .ref (am 0)), (3, .ref qo), (4, .ref qd), (5, .int x5)]) hx hb dL_law_1199 hl (by decide) rfl (fun ls hl => ?_)
  refine lv_aload_n hx hb dL_law_1201 rfl (lv_at hl 4 rfl) ?_
  have hP := wL_toCP hP
  have hD := wL_toCD hD
  obtain ⟨v6, ev6, h⟩ := o_bind h
  refine g_cVi (As := []) (rest := []) ⟨hx, hb, hml, hown, hts⟩ (m_X6_thrown l hst D cy [] am (oC cy qo o3 :: dD cy qd dv :: xW cy ad S2 []) _ M5  v6 ev6) (cwV 0 hts gL_law_X6_thrown rfl rfl rfl (by decide +kernel) ⟨(Nat.le_of_ble_eq_true rfl), (Nat.le_of_ble_eq_true rfl)⟩) (va_recv hK hP (ci := 6) (q0 := 0) rfl rfl) hP hK hD hS hA hE rfl hl.1 rfl (Nat.le_of_ble_eq_true rfl) dL_law_1202 ⟨(by show kc + 1 + 0 ≤ 601024; omega), (by show ks + 6 + 0 ≤ 7293034; omega)⟩ (fun H locs hP hD hS => ?_)
  have hP := wL_ofCP hP
  have hD := wL_ofCD hD
  have hP : va_P D vwCl (wL cy ad am qo qd S2 M5 o3 dv) H := hP
  have hD : va_D (lA s) (wL cy ad am qo qd S2 M5 o3 dv) := hD
  refine W.widen (k := kc + 1) (n := ks + 6) (by omega) (by omega) ?_
  refine lv_iload hx hb dL_law_1205 (lv_at hl 1 rfl) ?_
  refine lv_icmp_eq (tgt := 1212) hx hb dL_law_1207 (by decide) (fun hc => ?_) (fun hc => ?_)
  · have h := o_pos hc h
    refine lv_iload hx hb dL_law_1212 (lv_at hl 1 rfl) ?_
    refine lv_if_ne (tgt := 1229) hx hb dL_law_1214 (by decide) (fun hc => ?_) (fun hc => ?_)
    · have h := o_neg hc h
      refine lv_goto (tgt := 1933) hx hb dL_law_1229 (by decide) ?_
      refine lv_iinc (v := (x5 + 5)) (lv' := [(5, .int (x5 + 5)), (7, .int v4), (6, .int v1), (0, .ref b), (1, .ref (ad 0)), (2, .ref (am 0)), (3, .ref qo), (4, .ref qd)]) hx hb dL_law_1933 hl (k := 7) rfl rfl (by decide) rfl (fun ls hl => ?_)
      refine lv_goto (tgt := 28) hx hb dL_law_1936 (by decide) ?_
      refine W.widen (k := kc + 5) (n := ks + 80) (by omega) (by omega) ?_
      exact K S2 M5 o3 dv (x5 + 5) _ _ ls hP hD hS (lv_sub hl [3, 4, 5, 6, 7, 0] rfl) h
    · have h := o_pos hc h
      refine lv_aload_n hx hb dL_law_1217 rfl (lv_at hl 5 rfl) ?_
      refine lv_iconst (v := 0) hx hb dL_law_1218 (by decide) ?_
      obtain ⟨v7, ev7, h⟩ := o_bind h
      refine g_lald hx hb hK hP 25 33 rfl rfl ev7 dL_law_1219 ?_
      refine lv_iload hx hb dL_law_1220 (lv_at hl 0 rfl) ?_
      refine lv_i2l (v := ((v4 : Int32).toInt64)) hx hb dL_law_1222 rfl ?_
      refine W.lcmp hx hb dL_law_1223 ?_
      refine lv_if_eq (tgt := 1229) hx hb dL_law_1224 (by decide) (fun hc => ?_) (fun hc => ?_)
      · have h := o_pos hc h
        refine lv_goto (tgt := 1933) hx hb dL_law_1229 (by decide) ?_
        refine lv_iinc (v := (x5 + 5)) (lv' := [(5, .int (x5 + 5)), (7, .int v4), (6, .int v1), (0, .ref b), (1, .ref (ad 0)), (2, .ref (am 0)), (3, .ref qo), (4, .ref qd)]) hx hb dL_law_1933 hl (k := 7) rfl rfl (by decide) rfl (fun ls hl => ?_)
        refine lv_goto (tgt := 28) hx hb dL_law_1936 (by decide) ?_
        refine W.widen (k := kc + 5) (n := ks + 80) (by omega) (by omega) ?_
        exact K S2 M5 o3 dv (x5 + 5) _ _ ls hP hD hS (lv_sub hl [3, 4, 5, 6, 7, 0] rfl) h
      · have h := o_neg hc h
        refine lv_iconst (v := 0) hx hb dL_law_1227 (by decide) ?_
        exact absurd (Option.some.inj h) (by decide)
  · have h := o_neg hc h
    refine lv_iconst (v := 0) hx hb dL_law_1210 (by decide) ?_
    exact absurd (Option.some.inj h) (by decide)
set_option maxHeartbeats 4000000 in
set_option maxRecDepth 100000 in
theorem law_c18 {p : Program} {l : Launch} {e : Env} {s : State} {m : MethodId} {below : List Frame} {meth : Method} {c : Code} (hst : l.stackTraces = false) {b L : Nat} {xs : Nat → Int32} (C0 : lw_At p s m meth c b L xs) {D : va_G} {cy : Nat → ClassId} {ad am : Nat → Nat} {qo qd : Nat} (hK : va_K D vwCl (gT cy ++ []) s) (hE : gX (lA s) s) {rec : PS → PS → (Nat → Int64) → (Nat → UInt64) → Int32 → Option Int32} {kc ks : Nat} (hkc : kc + 5 ≤ 601024) (hks : ks + 80 ≤ 7293034) (K : lw_K p l e s m below meth c b D cy ad am qo qd rec (kc + 5) (ks + 80)) (S M : PS) (ov : Nat → Int64) (dv : Nat → UInt64) (x5 : Int32) (H : Heap) (locs : List Loc) (ls : Array Slot) (hP : va_P D vwCl (wL cy ad am qo qd S M ov dv) H) (hD : va_D (lA s) (wL cy ad am qo qd S M ov dv)) (hS : va_S (lA s) s.heap H locs) (hl : lv_has ls 9 [(0, .ref b), (1, .ref (ad 0)), (2, .ref (am 0)), (3, .ref qo), (4, .ref qd), (5, .int x5)]) (h : q_law_c18 xs L rec S M ov dv x5 = some 1) : W p l e room_1 s m #[Value.ref b] below meth c H locs kc ks (lw_Z below #[Value.ref b] s) (F0 m 1232 ls []) := by
  obtain ⟨hx, hb, hr, hml, hown, hts0, hX, hbl, hlocks, hgv⟩ := C0
  have hts : ∀ w ∈ wsL_law, w.before #[Value.ref b] s = true := fun w h => hts0 w (wsL_law_in w h)
  have hA : ∀ q : Nat, s.heap.size ≤ q → lA s q := fun _ h => h
  have hbA : ¬ lA s b := Nat.not_le.mpr hbl
  refine W.widen (k := kc + 0) (n := ks + 0) (Nat.le_refl _) (Nat.le_refl _) ?_
  unfold q_law_c18 at h
  refine lv_aload_n hx hb dL_law_1232 rfl (lv_at hl 1 rfl) ?_
  refine lv_aload_n hx hb dL_law_1233 rfl (lv_at hl 0 rfl) ?_
  refine lv_iload hx hb dL_law_1234 (lv_at hl 5 rfl) ?_
  refine lv_iconst (v := 1) hx hb dL_law_1236 (by decide) ?_
  refine lv_iadd hx hb dL_law_1237 ?_
  obtain ⟨v1, ev1, h⟩ := o_bind h
  refine g_sld hx hb hX hbl hbA hS ev1 dL_law_1238 ?_
  refine lv_aload_n hx hb dL_law_1239 rfl (lv_at hl 3 rfl) ?_
  obtain ⟨⟨S3, o4, v2⟩, ev2, h⟩ := o_bind h
  refine g_cL (As := [.ref (ad 0), .int v1, .ref qo]) (rest := []) ⟨hx, hb, hml, hown, hts⟩ (m_L_method l hst D cy [] ad qo (dD cy qd dv :: mW cy am M []) _ S ov v1 S3 o4 v2 ev2) (vx_cwSW 3 hts gL_law_L_method rfl rfl rfl (by decide +kernel) ⟨(Nat.le_of_ble_eq_true rfl), (Nat.le_of_ble_eq_true rfl)⟩) hP hK hD hS hA hE rfl hl.1 rfl (Nat.le_of_ble_eq_true rfl) dL_law_1240 ⟨(by show kc + 0 + 2 ≤ 601024; omega), (by show ks + 0 + 12 ≤ 7293034; omega)⟩ (fun H locs hP hD hS => ?_)
  have hP : va_P D vwCl (wL cy ad am qo qd S3 M o4 dv) H := hP
  have hD : va_D (lA s) (wL cy ad am qo qd S3 M o4 dv) := hD
  refine W.widen (k := kc + 2) (n := ks + 12) (by omega) (by omega) ?_
  refine lv_istore (lv' := [(6, .int v2), (0, .ref b), (1, .ref (ad 0)), (2, .ref (am 0)), (3, .ref qo), (4, .ref qd), (5, .int x5)]) hx hb dL_law_1243 hl (by decide) rfl (fun ls hl => ?_)
  refine lv_aload_n hx hb dL_law_1245 rfl (lv_at hl 3 rfl) ?_
  refine lv_aload_n hx hb dL_law_1246 rfl (lv_at hl 1 rfl) ?_
  refine lv_iload hx hb dL_law_1247 (lv_at hl 6 rfl) ?_
  refine lv_iconst (v := 1) hx hb dL_law_1249 (by decide) ?_
  refine lv_iadd hx hb dL_law_1250 ?_
  obtain ⟨v5, ev5, h⟩ := o_bind h
  refine g_sld hx hb hX hbl hbA hS ev5 dL_law_1251 ?_
  have hP := wL_toCP hP
  have hD := wL_toCD hD
  obtain ⟨⟨M7, v6⟩, ev6, h⟩ := o_bind h
  refine g_cVi (As := [.int v5]) (rest := []) ⟨hx, hb, hml, hown, hts⟩ (m_X6_method l hst D cy [] am (oC cy qo o4 :: dD cy qd dv :: xW cy ad S3 []) _ M v5 M7 v6 ev6) (cwV 1 hts gL_law_X6_method rfl rfl rfl (by decide +kernel) ⟨(Nat.le_of_ble_eq_true rfl), (Nat.le_of_ble_eq_true rfl)⟩) (va_recv hK hP (ci := 6) (q0 := 0) rfl rfl) hP hK hD hS hA hE rfl hl.1 rfl (Nat.le_of_ble_eq_true rfl) dL_law_1252 ⟨(by show kc + 2 + 0 ≤ 601024; omega), (by show ks + 12 + 0 ≤ 7293034; omega)⟩ (fun H locs hP hD hS => ?_)
  have hP := wL_ofCP hP
  have hD := wL_ofCD hD
  have hP : va_P D vwCl (wL cy ad am qo qd S3 M7 o4 dv) H := hP
  have hD : va_D (lA s) (wL cy ad am qo qd S3 M7 o4 dv) := hD
  refine W.widen (k := kc + 2) (n := ks + 12) (by omega) (by omega) ?_
  refine lv_istore (lv' := [(7, .int v6), (6, .int v2), (0, .ref b), (1, .ref (ad 0)), (2, .ref (am 0)), (3, .ref qo), (4, .ref qd), (5, .int x5)]) hx hb dL_law_1255 hl (by decide) rfl (fun ls hl => ?_)
  refine lv_aload_n hx hb dL_law_1257 rfl (lv_at hl 4 rfl) ?_
  have hP := wL_toCP hP
  have hD := wL_toCD hD
  obtain ⟨v8, ev8, h⟩ := o_bind h
  refine g_cVi (As := []) (rest := []) ⟨hx, hb, hml, hown, hts⟩ (m_X6_thrown l hst D cy [] am (oC cy qo o4 :: dD cy qd dv :: xW cy ad S3 []) _ M7  v8 ev8) (cwV 0 hts gL_law_X6_thrown rfl rfl rfl (by decide +kernel) ⟨(Nat.le_of_ble_eq_true rfl), (Nat.le_of_ble_eq_true rfl)⟩) (va_recv hK hP (ci := 6) (q0 := 0) rfl rfl) hP hK hD hS hA hE rfl hl.1 rfl (Nat.le_of_ble_eq_true rfl) dL_law_1258 ⟨(by show kc + 2 + 0 ≤ 601024; omega), (by show ks + 12 + 0 ≤ 7293034; omega)⟩ (fun H locs hP hD hS => ?_)
  have hP := wL_ofCP hP
  have hD := wL_ofCD hD
  have hP : va_P D vwCl (wL cy ad am qo qd S3 M7 o4 dv) H := hP
  have hD : va_D (lA s) (wL cy ad am qo qd S3 M7 o4 dv) := hD
  refine W.widen (k := kc + 2) (n := ks + 12) (by omega) (by omega) ?_
  refine lv_iload hx hb dL_law_1261 (lv_at hl 1 rfl) ?_
  refine lv_icmp_eq (tgt := 1268) hx hb dL_law_1263 (by decide) (fun hc => ?_) (fun hc => ?_)
  · have h := o_pos hc h
    refine lv_iload hx hb dL_law_1268 (lv_at hl 1 rfl) ?_
    refine lv_if_ne (tgt := 1285) hx hb dL_law_1270 (by decide) (fun hc => ?_) (fun hc => ?_)
    · have h := o_neg hc h
      refine lv_goto (tgt := 1933) hx hb dL_law_1285 (by decide) ?_
      refine lv_iinc (v := (x5 + 5)) (lv' := [(5, .int (x5 + 5)), (7, .int v6), (6, .int v2), (0, .ref b), (1, .ref (ad 0)), (2, .ref (am 0)), (3, .ref qo), (4, .ref qd)]) hx hb dL_law_1933 hl (k := 7) rfl rfl (by decide) rfl (fun ls hl => ?_)
      refine lv_goto (tgt := 28) hx hb dL_law_1936 (by decide) ?_
      refine W.widen (k := kc + 5) (n := ks + 80) (by omega) (by omega) ?_
      exact K S3 M7 o4 dv (x5 + 5) _ _ ls hP hD hS (lv_sub hl [3, 4, 5, 6, 7, 0] rfl) h
    · have h := o_pos hc h
      refine lv_aload_n hx hb dL_law_1273 rfl (lv_at hl 5 rfl) ?_
      refine lv_iconst (v := 0) hx hb dL_law_1274 (by decide) ?_
      obtain ⟨v9, ev9, h⟩ := o_bind h
      refine g_lald hx hb hK hP 25 33 rfl rfl ev9 dL_law_1275 ?_
      refine lv_iload hx hb dL_law_1276 (lv_at hl 0 rfl) ?_
      refine lv_i2l (v := ((v6 : Int32).toInt64)) hx hb dL_law_1278 rfl ?_
      refine W.lcmp hx hb dL_law_1279 ?_
      refine lv_if_eq (tgt := 1285) hx hb dL_law_1280 (by decide) (fun hc => ?_) (fun hc => ?_)
      · have h := o_pos hc h
        refine lv_goto (tgt := 1933) hx hb dL_law_1285 (by decide) ?_
        refine lv_iinc (v := (x5 + 5)) (lv' := [(5, .int (x5 + 5)), (7, .int v6), (6, .int v2), (0, .ref b), (1, .ref (ad 0)), (2, .ref (am 0)), (3, .ref qo), (4, .ref qd)]) hx hb dL_law_1933 hl (k := 7) rfl rfl (by decide) rfl (fun ls hl => ?_)
        refine lv_goto (tgt := 28) hx hb dL_law_1936 (by decide) ?_
        refine W.widen (k := kc + 5) (n := ks + 80) (by omega) (by omega) ?_
        exact K S3 M7 o4 dv (x5 + 5) _ _ ls hP hD hS (lv_sub hl [3, 4, 5, 6, 7, 0] rfl) h
      · have h := o_neg hc h
        refine lv_iconst (v := 0) hx hb dL_law_1283 (by decide) ?_
        exact absurd (Option.some.inj h) (by decide)
  · have h := o_neg hc h
    refine lv_iconst (v := 0) hx hb dL_law_1266 (by decide) ?_
    exact absurd (Option.some.inj h) (by decide)
set_option maxHeartbeats 4000000 in
set_option maxRecDepth 100000 in
theorem law_c19 {p : Program} {l : Launch} {e : Env} {s : State} {m : MethodId} {below : List Frame} {meth : Method} {c : Code} (hst : l.stackTraces = false) {b L : Nat} {xs : Nat → Int32} (C0 : lw_At p s m meth c b L xs) {D : va_G} {cy : Nat → ClassId} {ad am : Nat → Nat} {qo qd : Nat} (hK : va_K D vwCl (gT cy ++ []) s) (hE : gX (lA s) s) {rec : PS → PS → (Nat → Int64) → (Nat → UInt64) → Int32 → Option Int32} {kc ks : Nat} (hkc : kc + 5 ≤ 601024) (hks : ks + 80 ≤ 7293034) (K : lw_K p l e s m below meth c b D cy ad am qo qd rec (kc + 5) (ks + 80)) (S M : PS) (ov : Nat → Int64) (dv : Nat → UInt64) (x5 : Int32) (H : Heap) (locs : List Loc) (ls : Array Slot) (hP : va_P D vwCl (wL cy ad am qo qd S M ov dv) H) (hD : va_D (lA s) (wL cy ad am qo qd S M ov dv)) (hS : va_S (lA s) s.heap H locs) (hl : lv_has ls 9 [(0, .ref b), (1, .ref (ad 0)), (2, .ref (am 0)), (3, .ref qo), (4, .ref qd), (5, .int x5)]) (h : q_law_c19 xs L rec S M ov dv x5 = some 1) : W p l e room_1 s m #[Value.ref b] below meth c H locs kc ks (lw_Z below #[Value.ref b] s) (F0 m 1288 ls []) := by
  obtain ⟨hx, hb, hr, hml, hown, hts0, hX, hbl, hlocks, hgv⟩ := C0
  have hts : ∀ w ∈ wsL_law, w.before #[Value.ref b] s = true := fun w h => hts0 w (wsL_law_in w h)
  have hA : ∀ q : Nat, s.heap.size ≤ q → lA s q := fun _ h => h
  have hbA : ¬ lA s b := Nat.not_le.mpr hbl
  refine W.widen (k := kc + 0) (n := ks + 0) (Nat.le_refl _) (Nat.le_refl _) ?_
  unfold q_law_c19 at h
  refine lv_aload_n hx hb dL_law_1288 rfl (lv_at hl 1 rfl) ?_
  refine lv_aload_n hx hb dL_law_1289 rfl (lv_at hl 0 rfl) ?_
  refine lv_iload hx hb dL_law_1290 (lv_at hl 5 rfl) ?_
  refine lv_iconst (v := 1) hx hb dL_law_1292 (by decide) ?_
  refine lv_iadd hx hb dL_law_1293 ?_
  obtain ⟨v1, ev1, h⟩ := o_bind h
  refine g_sld hx hb hX hbl hbA hS ev1 dL_law_1294 ?_
  refine lv_aload_n hx hb dL_law_1295 rfl (lv_at hl 3 rfl) ?_
  obtain ⟨⟨S3, o4, v2⟩, ev2, h⟩ := o_bind h
  refine g_cL (As := [.ref (ad 0), .int v1, .ref qo]) (rest := []) ⟨hx, hb, hml, hown, hts⟩ (m_L_parentNode l hst D cy [] ad qo (dD cy qd dv :: mW cy am M []) _ S ov v1 S3 o4 v2 ev2) (vx_cwSW 3 hts gL_law_L_parentNode rfl rfl rfl (by decide +kernel) ⟨(Nat.le_of_ble_eq_true rfl), (Nat.le_of_ble_eq_true rfl)⟩) hP hK hD hS hA hE rfl hl.1 rfl (Nat.le_of_ble_eq_true rfl) dL_law_1296 ⟨(by show kc + 0 + 2 ≤ 601024; omega), (by show ks + 0 + 12 ≤ 7293034; omega)⟩ (fun H locs hP hD hS => ?_)
  have hP : va_P D vwCl (wL cy ad am qo qd S3 M o4 dv) H := hP
  have hD : va_D (lA s) (wL cy ad am qo qd S3 M o4 dv) := hD
  refine W.widen (k := kc + 2) (n := ks + 12) (by omega) (by omega) ?_
  refine lv_istore (lv' := [(6, .int v2), (0, .ref b), (1, .ref (ad 0)), (2, .ref (am 0)), (3, .ref qo), (4, .ref qd), (5, .int x5)]) hx hb dL_law_1299 hl (by decide) rfl (fun ls hl => ?_)
  refine lv_aload_n hx hb dL_law_1301 rfl (lv_at hl 3 rfl) ?_
  refine lv_aload_n hx hb dL_law_1302 rfl (lv_at hl 1 rfl) ?_
  refine lv_iload hx hb dL_law_1303 (lv_at hl 6 rfl) ?_
  refine lv_iconst (v := 1) hx hb dL_law_1305 (by decide) ?_
  refine lv_iadd hx hb dL_law_1306 ?_
  obtain ⟨v5, ev5, h⟩ := o_bind h
  refine g_sld hx hb hX hbl hbA hS ev5 dL_law_1307 ?_
  have hP := wL_toCP hP
  have hD := wL_toCD hD
  obtain ⟨⟨M7, v6⟩, ev6, h⟩ := o_bind h
  refine g_cVi (As := [.int v5]) (rest := []) ⟨hx, hb, hml, hown, hts⟩ (m_X6_parentNode l hst D cy [] am (oC cy qo o4 :: dD cy qd dv :: xW cy ad S3 []) _ M v5 M7 v6 ev6) (cwV 1 hts gL_law_X6_parentNode rfl rfl rfl (by decide +kernel) ⟨(Nat.le_of_ble_eq_true rfl), (Nat.le_of_ble_eq_true rfl)⟩) (va_recv hK hP (ci := 6) (q0 := 0) rfl rfl) hP hK hD hS hA hE rfl hl.1 rfl (Nat.le_of_ble_eq_true rfl) dL_law_1308 ⟨(by show kc + 2 + 0 ≤ 601024; omega), (by show ks + 12 + 0 ≤ 7293034; omega)⟩ (fun H locs hP hD hS => ?_)
  have hP := wL_ofCP hP
  have hD := wL_ofCD hD
  have hP : va_P D vwCl (wL cy ad am qo qd S3 M7 o4 dv) H := hP
  have hD : va_D (lA s) (wL cy ad am qo qd S3 M7 o4 dv) := hD
  refine W.widen (k := kc + 2) (n := ks + 12) (by omega) (by omega) ?_
  refine lv_istore (lv' := [(7, .int v6), (6, .int v2), (0, .ref b), (1, .ref (ad 0)), (2, .ref (am 0)), (3, .ref qo), (4, .ref qd), (5, .int x5)]) hx hb dL_law_1311 hl (by decide) rfl (fun ls hl => ?_)
  refine lv_aload_n hx hb dL_law_1313 rfl (lv_at hl 4 rfl) ?_
  have hP := wL_toCP hP
  have hD := wL_toCD hD
  obtain ⟨v8, ev8, h⟩ := o_bind h
  refine g_cVi (As := []) (rest := []) ⟨hx, hb, hml, hown, hts⟩ (m_X6_thrown l hst D cy [] am (oC cy qo o4 :: dD cy qd dv :: xW cy ad S3 []) _ M7  v8 ev8) (cwV 0 hts gL_law_X6_thrown rfl rfl rfl (by decide +kernel) ⟨(Nat.le_of_ble_eq_true rfl), (Nat.le_of_ble_eq_true rfl)⟩) (va_recv hK hP (ci := 6) (q0 := 0) rfl rfl) hP hK hD hS hA hE rfl hl.1 rfl (Nat.le_of_ble_eq_true rfl) dL_law_1314 ⟨(by show kc + 2 + 0 ≤ 601024; omega), (by show ks + 12 + 0 ≤ 7293034; omega)⟩ (fun H locs hP hD hS => ?_)
  have hP := wL_ofCP hP
  have hD := wL_ofCD hD
  have hP : va_P D vwCl (wL cy ad am qo qd S3 M7 o4 dv) H := hP
  have hD : va_D (lA s) (wL cy ad am qo qd S3 M7 o4 dv) := hD
  refine W.widen (k := kc + 2) (n := ks + 12) (by omega) (by omega) ?_
  refine lv_iload hx hb dL_law_1317 (lv_at hl 1 rfl) ?_
  refine lv_icmp_eq (tgt := 1324) hx hb dL_law_1319 (by decide) (fun hc => ?_) (fun hc => ?_)
  · have h := o_pos hc h
    refine lv_iload hx hb dL_law_1324 (lv_at hl 1 rfl) ?_
    refine lv_if_ne (tgt := 1341) hx hb dL_law_1326 (by decide) (fun hc => ?_) (fun hc => ?_)
    · have h := o_neg hc h
      refine lv_goto (tgt := 1933) hx hb dL_law_1341 (by decide) ?_
      refine lv_iinc (v := (x5 + 5)) (lv' := [(5, .int (x5 + 5)), (7, .int v6), (6, .int v2), (0, .ref b), (1, .ref (ad 0)), (2, .ref (am 0)), (3, .ref qo), (4, .ref qd)]) hx hb dL_law_1933 hl (k := 7) rfl rfl (by decide) rfl (fun ls hl => ?_)
      refine lv_goto (tgt := 28) hx hb dL_law_1936 (by decide) ?_
      refine W.widen (k := kc + 5) (n := ks + 80) (by omega) (by omega) ?_
      exact K S3 M7 o4 dv (x5 + 5) _ _ ls hP hD hS (lv_sub hl [3, 4, 5, 6, 7, 0] rfl) h
    · have h := o_pos hc h
      refine lv_aload_n hx hb dL_law_1329 rfl (lv_at hl 5 rfl) ?_
      refine lv_iconst (v := 0) hx hb dL_law_1330 (by decide) ?_
      obtain ⟨v9, ev9, h⟩ := o_bind h
      refine g_lald hx hb hK hP 25 33 rfl rfl ev9 dL_law_1331 ?_
      refine lv_iload hx hb dL_law_1332 (lv_at hl 0 rfl) ?_
      refine lv_i2l (v := ((v6 : Int32).toInt64)) hx hb dL_law_1334 rfl ?_
      refine W.lcmp hx hb dL_law_1335 ?_
      refine lv_if_eq (tgt := 1341) hx hb dL_law_1336 (by decide) (fun hc => ?_) (fun hc => ?_)
      · have h := o_pos hc h
        refine lv_goto (tgt := 1933) hx hb dL_law_1341 (by decide) ?_
        refine lv_iinc (v := (x5 + 5)) (lv' := [(5, .int (x5 + 5)), (7, .int v6), (6, .int v2), (0, .ref b), (1, .ref (ad 0)), (2, .ref (am 0)), (3, .ref qo), (4, .ref qd)]) hx hb dL_law_1933 hl (k := 7) rfl rfl (by decide) rfl (fun ls hl => ?_)
        refine lv_goto (tgt := 28) hx hb dL_law_1936 (by decide) ?_
        refine W.widen (k := kc + 5) (n := ks + 80) (by omega) (by omega) ?_
        exact K S3 M7 o4 dv (x5 + 5) _ _ ls hP hD hS (lv_sub hl [3, 4, 5, 6, 7, 0] rfl) h
      · have h := o_neg hc h
        refine lv_iconst (v := 0) hx hb dL_law_1339 (by decide) ?_
        exact absurd (Option.some.inj h) (by decide)
  · have h := o_neg hc h
    refine lv_iconst (v := 0) hx hb dL_law_1322 (by decide) ?_
    exact absurd (Option.some.inj h) (by decide)
set_option maxHeartbeats 4000000 in
set_option maxRecDepth 100000 in
theorem law_c20 {p : Program} {l : Launch} {e : Env} {s : State} {m : MethodId} {below : List Frame} {meth : Method} {c : Code} (hst : l.stackTraces = false) {b L : Nat} {xs : Nat → Int32} (C0 : lw_At p s m meth c b L xs) {D : va_G} {cy : Nat → ClassId} {ad am : Nat → Nat} {qo qd : Nat} (hK : va_K D vwCl (gT cy ++ []) s) (hE : gX (lA s) s) {rec : PS → PS → (Nat → Int64) → (Nat → UInt64) → Int32 → Option Int32} {kc ks : Nat} (hkc : kc + 5 ≤ 601024) (hks : ks + 80 ≤ 7293034) (K : lw_K p l e s m below meth c b D cy ad am qo qd rec (kc + 5) (ks + 80)) (S M : PS) (ov : Nat → Int64) (dv : Nat → UInt64) (x5 : Int32) (H : Heap) (locs : List Loc) (ls : Array Slot) (hP : va_P D vwCl (wL cy ad am qo qd S M ov dv) H) (hD : va_D (lA s) (wL cy ad am qo qd S M ov dv)) (hS : va_S (lA s) s.heap H locs) (hl : lv_has ls 9 [(0, .ref b), (1, .ref (ad 0)), (2, .ref (am 0)), (3, .ref qo), (4, .ref qd), (5, .int x5)]) (h : q_law_c20 xs L rec S M ov dv x5 = some 1) : W p l e room_1 s m #[Value.ref b] below meth c H locs kc ks (lw_Z below #[Value.ref b] s) (F0 m 1344 ls []) := by
  obtain ⟨hx, hb, hr, hml, hown, hts0, hX, hbl, hlocks, hgv⟩ := C0
  have hts : ∀ w ∈ wsL_law, w.before #[Value.ref b] s = true := fun w h => hts0 w (wsL_law_in w h)
  have hA : ∀ q : Nat, s.heap.size ≤ q → lA s q := fun _ h => h
  have hbA : ¬ lA s b := Nat.not_le.mpr hbl
  refine W.widen (k := kc + 0) (n := ks + 0) (Nat.le_refl _) (Nat.le_refl _) ?_
  unfold q_law_c20 at h
  refine lv_aload_n hx hb dL_law_1344 rfl (lv_at hl 1 rfl) ?_
  refine lv_aload_n hx hb dL_law_1345 rfl (lv_at hl 0 rfl) ?_
  refine lv_iload hx hb dL_law_1346 (lv_at hl 5 rfl) ?_
  refine lv_iconst (v := 1) hx hb dL_law_1348 (by decide) ?_
  refine lv_iadd hx hb dL_law_1349 ?_
  obtain ⟨v1, ev1, h⟩ := o_bind h
  refine g_sld hx hb hX hbl hbA hS ev1 dL_law_1350 ?_
  refine lv_aload_n hx hb dL_law_1351 rfl (lv_at hl 3 rfl) ?_
  obtain ⟨⟨S3, o4, v2⟩, ev2, h⟩ := o_bind h
  refine g_cL (As := [.ref (ad 0), .int v1, .ref qo]) (rest := []) ⟨hx, hb, hml, hown, hts⟩ (m_L_siteOf l hst D cy [] ad qo (dD cy qd dv :: mW cy am M []) _ S ov v1 S3 o4 v2 ev2) (vx_cwSW 3 hts gL_law_L_siteOf rfl rfl rfl (by decide +kernel) ⟨(Nat.le_of_ble_eq_true rfl), (Nat.le_of_ble_eq_true rfl)⟩) hP hK hD hS hA hE rfl hl.1 rfl (Nat.le_of_ble_eq_true rfl) dL_law_1352 ⟨(by show kc + 0 + 2 ≤ 601024; omega), (by show ks + 0 + 12 ≤ 7293034; omega)⟩ (fun H locs hP hD hS => ?_)
  have hP : va_P D vwCl (wL cy ad am qo qd S3 M o4 dv) H := hP
  have hD : va_D (lA s) (wL cy ad am qo qd S3 M o4 dv) := hD
  refine W.widen (k := kc + 2) (n := ks + 12) (by omega) (by omega) ?_
  refine lv_istore (lv' := [(6, .int v2), (0, .ref b), (1, .ref (ad 0)), (2, .ref (am 0)), (3, .ref qo), (4, .ref qd), (5, .int x5)]) hx hb dL_law_1355 hl (by decide) rfl (fun ls hl => ?_)
  refine lv_aload_n hx hb dL_law_1357 rfl (lv_at hl 3 rfl) ?_
  refine lv_aload_n hx hb dL_law_1358 rfl (lv_at hl 1 rfl) ?_
  refine lv_iload hx hb dL_law_1359 (lv_at hl 6 rfl) ?_
  refine lv_iconst (v := 1) hx hb dL_law_1361 (by decide) ?_
  refine lv_iadd hx hb dL_law_1362 ?_
  obtain ⟨v5, ev5, h⟩ := o_bind h
  refine g_sld hx hb hX hbl hbA hS ev5 dL_law_1363 ?_
  have hP := wL_toCP hP
  have hD := wL_toCD hD
  obtain ⟨⟨M7, v6⟩, ev6, h⟩ := o_bind h
  refine g_cVi (As := [.int v5]) (rest := []) ⟨hx, hb, hml, hown, hts⟩ (m_X6_siteOf l hst D cy [] am (oC cy qo o4 :: dD cy qd dv :: xW cy ad S3 []) _ M v5 M7 v6 ev6) (cwV 1 hts gL_law_X6_siteOf rfl rfl rfl (by decide +kernel) ⟨(Nat.le_of_ble_eq_true rfl), (Nat.le_of_ble_eq_true rfl)⟩) (va_recv hK hP (ci := 6) (q0 := 0) rfl rfl) hP hK hD hS hA hE rfl hl.1 rfl (Nat.le_of_ble_eq_true rfl) dL_law_1364 ⟨(by show kc + 2 + 0 ≤ 601024; omega), (by show ks + 12 + 0 ≤ 7293034; omega)⟩ (fun H locs hP hD hS => ?_)
  have hP := wL_ofCP hP
  have hD := wL_ofCD hD
  have hP : va_P D vwCl (wL cy ad am qo qd S3 M7 o4 dv) H := hP
  have hD : va_D (lA s) (wL cy ad am qo qd S3 M7 o4 dv) := hD
  refine W.widen (k := kc + 2) (n := ks + 12) (by omega) (by omega) ?_
  refine lv_istore (lv' := [(7, .int v6), (6, .int v2), (0, .ref b), (1, .ref (ad 0)), (2, .ref (am 0)), (3, .ref qo), (4, .ref qd), (5, .int x5)]) hx hb dL_law_1367 hl (by decide) rfl (fun ls hl => ?_)
  refine lv_aload_n hx hb dL_law_1369 rfl (lv_at hl 4 rfl) ?_
  have hP := wL_toCP hP
  have hD := wL_toCD hD
  obtain ⟨v8, ev8, h⟩ := o_bind h
  refine g_cVi (As := []) (rest := []) ⟨hx, hb, hml, hown, hts⟩ (m_X6_thrown l hst D cy [] am (oC cy qo o4 :: dD cy qd dv :: xW cy ad S3 []) _ M7  v8 ev8) (cwV 0 hts gL_law_X6_thrown rfl rfl rfl (by decide +kernel) ⟨(Nat.le_of_ble_eq_true rfl), (Nat.le_of_ble_eq_true rfl)⟩) (va_recv hK hP (ci := 6) (q0 := 0) rfl rfl) hP hK hD hS hA hE rfl hl.1 rfl (Nat.le_of_ble_eq_true rfl) dL_law_1370 ⟨(by show kc + 2 + 0 ≤ 601024; omega), (by show ks + 12 + 0 ≤ 7293034; omega)⟩ (fun H locs hP hD hS => ?_)
  have hP := wL_ofCP hP
  have hD := wL_ofCD hD
  have hP : va_P D vwCl (wL cy ad am qo qd S3 M7 o4 dv) H := hP
  have hD : va_D (lA s) (wL cy ad am qo qd S3 M7 o4 dv) := hD
  refine W.widen (k := kc + 2) (n := ks + 12) (by omega) (by omega) ?_
  refine lv_iload hx hb dL_law_1373 (lv_at hl 1 rfl) ?_
  refine lv_icmp_eq (tgt := 1380) hx hb dL_law_1375 (by decide) (fun hc => ?_) (fun hc => ?_)
  · have h := o_pos hc h
    refine lv_iload hx hb dL_law_1380 (lv_at hl 1 rfl) ?_
    refine lv_if_ne (tgt := 1397) hx hb dL_law_1382 (by decide) (fun hc => ?_) (fun hc => ?_)
    · have h := o_neg hc h
      refine lv_goto (tgt := 1933) hx hb dL_law_1397 (by decide) ?_
      refine lv_iinc (v := (x5 + 5)) (lv' := [(5, .int (x5 + 5)), (7, .int v6), (6, .int v2), (0, .ref b), (1, .ref (ad 0)), (2, .ref (am 0)), (3, .ref qo), (4, .ref qd)]) hx hb dL_law_1933 hl (k := 7) rfl rfl (by decide) rfl (fun ls hl => ?_)
      refine lv_goto (tgt := 28) hx hb dL_law_1936 (by decide) ?_
      refine W.widen (k := kc + 5) (n := ks + 80) (by omega) (by omega) ?_
      exact K S3 M7 o4 dv (x5 + 5) _ _ ls hP hD hS (lv_sub hl [3, 4, 5, 6, 7, 0] rfl) h
    · have h := o_pos hc h
      refine lv_aload_n hx hb dL_law_1385 rfl (lv_at hl 5 rfl) ?_
      refine lv_iconst (v := 0) hx hb dL_law_1386 (by decide) ?_
      obtain ⟨v9, ev9, h⟩ := o_bind h
      refine g_lald hx hb hK hP 25 33 rfl rfl ev9 dL_law_1387 ?_
      refine lv_iload hx hb dL_law_1388 (lv_at hl 0 rfl) ?_
      refine lv_i2l (v := ((v6 : Int32).toInt64)) hx hb dL_law_1390 rfl ?_
      refine W.lcmp hx hb dL_law_1391 ?_
      refine lv_if_eq (tgt := 1397) hx hb dL_law_1392 (by decide) (fun hc => ?_) (fun hc => ?_)
      · have h := o_pos hc h
        refine lv_goto (tgt := 1933) hx hb dL_law_1397 (by decide) ?_
        refine lv_iinc (v := (x5 + 5)) (lv' := [(5, .int (x5 + 5)), (7, .int v6), (6, .int v2), (0, .ref b), (1, .ref (ad 0)), (2, .ref (am 0)), (3, .ref qo), (4, .ref qd)]) hx hb dL_law_1933 hl (k := 7) rfl rfl (by decide) rfl (fun ls hl => ?_)
        refine lv_goto (tgt := 28) hx hb dL_law_1936 (by decide) ?_
        refine W.widen (k := kc + 5) (n := ks + 80) (by omega) (by omega) ?_
        exact K S3 M7 o4 dv (x5 + 5) _ _ ls hP hD hS (lv_sub hl [3, 4, 5, 6, 7, 0] rfl) h
      · have h := o_neg hc h
        refine lv_iconst (v := 0) hx hb dL_law_1395 (by decide) ?_
        exact absurd (Option.some.inj h) (by decide)
  · have h := o_neg hc h
    refine lv_iconst (v := 0) hx hb dL_law_1378 (by decide) ?_
    exact absurd (Option.some.inj h) (by decide)
set_option maxHeartbeats 4000000 in
set_option maxRecDepth 100000 in
theorem law_c21 {p : Program} {l : Launch} {e : Env} {s : State} {m : MethodId} {below : List Frame} {meth : Method} {c : Code} (hst : l.stackTraces = false) {b L : Nat} {xs : Nat → Int32} (C0 : lw_At p s m meth c b L xs) {D : va_G} {cy : Nat → ClassId} {ad am : Nat → Nat} {qo qd : Nat} (hK : va_K D vwCl (gT cy ++ []) s) (hE : gX (lA s) s) {rec : PS → PS → (Nat → Int64) → (Nat → UInt64) → Int32 → Option Int32} {kc ks : Nat} (hkc : kc + 5 ≤ 601024) (hks : ks + 80 ≤ 7293034) (K : lw_K p l e s m below meth c b D cy ad am qo qd rec (kc + 5) (ks + 80)) (S M : PS) (ov : Nat → Int64) (dv : Nat → UInt64) (x5 : Int32) (H : Heap) (locs : List Loc) (ls : Array Slot) (hP : va_P D vwCl (wL cy ad am qo qd S M ov dv) H) (hD : va_D (lA s) (wL cy ad am qo qd S M ov dv)) (hS : va_S (lA s) s.heap H locs) (hl : lv_has ls 9 [(0, .ref b), (1, .ref (ad 0)), (2, .ref (am 0)), (3, .ref qo), (4, .ref qd), (5, .int x5)]) (h : q_law_c21 xs L rec S M ov dv x5 = some 1) : W p l e room_1 s m #[Value.ref b] below meth c H locs kc ks (lw_Z below #[Value.ref b] s) (F0 m 1400 ls []) := by
  obtain ⟨hx, hb, hr, hml, hown, hts0, hX, hbl, hlocks, hgv⟩ := C0
  have hts : ∀ w ∈ wsL_law, w.before #[Value.ref b] s = true := fun w h => hts0 w (wsL_law_in w h)
  have hA : ∀ q : Nat, s.heap.size ≤ q → lA s q := fun _ h => h
  have hbA : ¬ lA s b := Nat.not_le.mpr hbl
  refine W.widen (k := kc + 0) (n := ks + 0) (Nat.le_refl _) (Nat.le_refl _) ?_
  unfold q_law_c21 at h
  refine lv_aload_n hx hb dL_law_1400 rfl (lv_at hl 1 rfl) ?_
  refine lv_aload_n hx hb dL_law_1401 rfl (lv_at hl 0 rfl) ?_
  refine lv_iload hx hb dL_law_1402 (lv_at hl 5 rfl) ?_
  refine lv_iconst (v := 1) hx hb dL_law_1404 (by decide) ?_
  refine lv_iadd hx hb dL_law_1405 ?_
  obtain ⟨v1, ev1, h⟩ := o_bind h
  refine g_sld hx hb hX hbl hbA hS ev1 dL_law_1406 ?_
  refine lv_aload_n hx hb dL_law_1407 rfl (lv_at hl 3 rfl) ?_
  obtain ⟨⟨S3, o4, v2⟩, ev2, h⟩ := o_bind h
  refine g_cL (As := [.ref (ad 0), .int v1, .ref qo]) (rest := []) ⟨hx, hb, hml, hown, hts⟩ (m_L_depth l hst D cy [] ad qo (dD cy qd dv :: mW cy am M []) _ S ov v1 S3 o4 v2 ev2) (vx_cwSW 3 hts gL_law_L_depth rfl rfl rfl (by decide +kernel) ⟨(Nat.le_of_ble_eq_true rfl), (Nat.le_of_ble_eq_true rfl)⟩) hP hK hD hS hA hE rfl hl.1 rfl (Nat.le_of_ble_eq_true rfl) dL_law_1408 ⟨(by show kc + 0 + 2 ≤ 601024; omega), (by show ks + 0 + 12 ≤ 7293034; omega)⟩ (fun H locs hP hD hS => ?_)
  have hP : va_P D vwCl (wL cy ad am qo qd S3 M o4 dv) H := hP
  have hD : va_D (lA s) (wL cy ad am qo qd S3 M o4 dv) := hD
  refine W.widen (k := kc + 2) (n := ks + 12) (by omega) (by omega) ?_
  refine lv_istore (lv' := [(6, .int v2), (0, .ref b), (1, .ref (ad 0)), (2, .ref (am 0)), (3, .ref qo), (4, .ref qd), (5, .int x5)]) hx hb dL_law_1411 hl (by decide) rfl (fun ls hl => ?_)
  refine lv_aload_n hx hb dL_law_1413 rfl (lv_at hl 3 rfl) ?_
  refine lv_aload_n hx hb dL_law_1414 rfl (lv_at hl 1 rfl) ?_
  refine lv_iload hx hb dL_law_1415 (lv_at hl 6 rfl) ?_
  refine lv_iconst (v := 1) hx hb dL_law_1417 (by decide) ?_
  refine lv_iadd hx hb dL_law_1418 ?_
  obtain ⟨v5, ev5, h⟩ := o_bind h
  refine g_sld hx hb hX hbl hbA hS ev5 dL_law_1419 ?_
  have hP := wL_toCP hP
  have hD := wL_toCD hD
  obtain ⟨⟨M7, v6⟩, ev6, h⟩ := o_bind h
  refine g_cVi (As := [.int v5]) (rest := []) ⟨hx, hb, hml, hown, hts⟩ (m_X6_depth l hst D cy [] am (oC cy qo o4 :: dD cy qd dv :: xW cy ad S3 []) _ M v5 M7 v6 ev6) (cwV 1 hts gL_law_X6_depth rfl rfl rfl (by decide +kernel) ⟨(Nat.le_of_ble_eq_true rfl), (Nat.le_of_ble_eq_true rfl)⟩) (va_recv hK hP (ci := 6) (q0 := 0) rfl rfl) hP hK hD hS hA hE rfl hl.1 rfl (Nat.le_of_ble_eq_true rfl) dL_law_1420 ⟨(by show kc + 2 + 0 ≤ 601024; omega), (by show ks + 12 + 0 ≤ 7293034; omega)⟩ (fun H locs hP hD hS => ?_)
  have hP := wL_ofCP hP
  have hD := wL_ofCD hD
  have hP : va_P D vwCl (wL cy ad am qo qd S3 M7 o4 dv) H := hP
  have hD : va_D (lA s) (wL cy ad am qo qd S3 M7 o4 dv) := hD
  refine W.widen (k := kc + 2) (n := ks + 12) (by omega) (by omega) ?_
  refine lv_istore (lv' := [(7, .int v6), (6, .int v2), (0, .ref b), (1, .ref (ad 0)), (2, .ref (am 0)), (3, .ref qo), (4, .ref qd), (5, .int x5)]) hx hb dL_law_1423 hl (by decide) rfl (fun ls hl => ?_)
  refine lv_aload_n hx hb dL_law_1425 rfl (lv_at hl 4 rfl) ?_
  have hP := wL_toCP hP
  have hD := wL_toCD hD
  obtain ⟨v8, ev8, h⟩ := o_bind h
  refine g_cVi (As := []) (rest := []) ⟨hx, hb, hml, hown, hts⟩ (m_X6_thrown l hst D cy [] am (oC cy qo o4 :: dD cy qd dv :: xW cy ad S3 []) _ M7  v8 ev8) (cwV 0 hts gL_law_X6_thrown rfl rfl rfl (by decide +kernel) ⟨(Nat.le_of_ble_eq_true rfl), (Nat.le_of_ble_eq_true rfl)⟩) (va_recv hK hP (ci := 6) (q0 := 0) rfl rfl) hP hK hD hS hA hE rfl hl.1 rfl (Nat.le_of_ble_eq_true rfl) dL_law_1426 ⟨(by show kc + 2 + 0 ≤ 601024; omega), (by show ks + 12 + 0 ≤ 7293034; omega)⟩ (fun H locs hP hD hS => ?_)
  have hP := wL_ofCP hP
  have hD := wL_ofCD hD
  have hP : va_P D vwCl (wL cy ad am qo qd S3 M7 o4 dv) H := hP
  have hD : va_D (lA s) (wL cy ad am qo qd S3 M7 o4 dv) := hD
  refine W.widen (k := kc + 2) (n := ks + 12) (by omega) (by omega) ?_
  refine lv_iload hx hb dL_law_1429 (lv_at hl 1 rfl) ?_
  refine lv_icmp_eq (tgt := 1436) hx hb dL_law_1431 (by decide) (fun hc => ?_) (fun hc => ?_)
  · have h := o_pos hc h
    refine lv_iload hx hb dL_law_1436 (lv_at hl 1 rfl) ?_
    refine lv_if_ne (tgt := 1453) hx hb dL_law_1438 (by decide) (fun hc => ?_) (fun hc => ?_)
    · have h := o_neg hc h
      refine lv_goto (tgt := 1933) hx hb dL_law_1453 (by decide) ?_
      refine lv_iinc (v := (x5 + 5)) (lv' := [(5, .int (x5 + 5)), (7, .int v6), (6, .int v2), (0, .ref b), (1, .ref (ad 0)), (2, .ref (am 0)), (3, .ref qo), (4, .ref qd)]) hx hb dL_law_1933 hl (k := 7) rfl rfl (by decide) rfl (fun ls hl => ?_)
      refine lv_goto (tgt := 28) hx hb dL_law_1936 (by decide) ?_
      refine W.widen (k := kc + 5) (n := ks + 80) (by omega) (by omega) ?_
      exact K S3 M7 o4 dv (x5 + 5) _ _ ls hP hD hS (lv_sub hl [3, 4, 5, 6, 7, 0] rfl) h
    · have h := o_pos hc h
      refine lv_aload_n hx hb dL_law_1441 rfl (lv_at hl 5 rfl) ?_
      refine lv_iconst (v := 0) hx hb dL_law_1442 (by decide) ?_
      obtain ⟨v9, ev9, h⟩ := o_bind h
      refine g_lald hx hb hK hP 25 33 rfl rfl ev9 dL_law_1443 ?_
      refine lv_iload hx hb dL_law_1444 (lv_at hl 0 rfl) ?_
      refine lv_i2l (v := ((v6 : Int32).toInt64)) hx hb dL_law_1446 rfl ?_
      refine W.lcmp hx hb dL_law_1447 ?_
      refine lv_if_eq (tgt := 1453) hx hb dL_law_1448 (by decide) (fun hc => ?_) (fun hc => ?_)
      · have h := o_pos hc h
        refine lv_goto (tgt := 1933) hx hb dL_law_1453 (by decide) ?_
        refine lv_iinc (v := (x5 + 5)) (lv' := [(5, .int (x5 + 5)), (7, .int v6), (6, .int v2), (0, .ref b), (1, .ref (ad 0)), (2, .ref (am 0)), (3, .ref qo), (4, .ref qd)]) hx hb dL_law_1933 hl (k := 7) rfl rfl (by decide) rfl (fun ls hl => ?_)
        refine lv_goto (tgt := 28) hx hb dL_law_1936 (by decide) ?_
        refine W.widen (k := kc + 5) (n := ks + 80) (by omega) (by omega) ?_
        exact K S3 M7 o4 dv (x5 + 5) _ _ ls hP hD hS (lv_sub hl [3, 4, 5, 6, 7, 0] rfl) h
      · have h := o_neg hc h
        refine lv_iconst (v := 0) hx hb dL_law_1451 (by decide) ?_
        exact absurd (Option.some.inj h) (by decide)
  · have h := o_neg hc h
    refine lv_iconst (v := 0) hx hb dL_law_1434 (by decide) ?_
    exact absurd (Option.some.inj h) (by decide)
set_option maxHeartbeats 4000000 in
set_option maxRecDepth 100000 in
theorem law_c22 {p : Program} {l : Launch} {e : Env} {s : State} {m : MethodId} {below : List Frame} {meth : Method} {c : Code} (hst : l.stackTraces = false) {b L : Nat} {xs : Nat → Int32} (C0 : lw_At p s m meth c b L xs) {D : va_G} {cy : Nat → ClassId} {ad am : Nat → Nat} {qo qd : Nat} (hK : va_K D vwCl (gT cy ++ []) s) (hE : gX (lA s) s) {rec : PS → PS → (Nat → Int64) → (Nat → UInt64) → Int32 → Option Int32} {kc ks : Nat} (hkc : kc + 5 ≤ 601024) (hks : ks + 80 ≤ 7293034) (K : lw_K p l e s m below meth c b D cy ad am qo qd rec (kc + 5) (ks + 80)) (S M : PS) (ov : Nat → Int64) (dv : Nat → UInt64) (x5 : Int32) (H : Heap) (locs : List Loc) (ls : Array Slot) (hP : va_P D vwCl (wL cy ad am qo qd S M ov dv) H) (hD : va_D (lA s) (wL cy ad am qo qd S M ov dv)) (hS : va_S (lA s) s.heap H locs) (hl : lv_has ls 9 [(0, .ref b), (1, .ref (ad 0)), (2, .ref (am 0)), (3, .ref qo), (4, .ref qd), (5, .int x5)]) (h : q_law_c22 xs L rec S M ov dv x5 = some 1) : W p l e room_1 s m #[Value.ref b] below meth c H locs kc ks (lw_Z below #[Value.ref b] s) (F0 m 1456 ls []) := by
  obtain ⟨hx, hb, hr, hml, hown, hts0, hX, hbl, hlocks, hgv⟩ := C0
  have hts : ∀ w ∈ wsL_law, w.before #[Value.ref b] s = true := fun w h => hts0 w (wsL_law_in w h)
  have hA : ∀ q : Nat, s.heap.size ≤ q → lA s q := fun _ h => h
  have hbA : ¬ lA s b := Nat.not_le.mpr hbl
  refine W.widen (k := kc + 0) (n := ks + 0) (Nat.le_refl _) (Nat.le_refl _) ?_
  unfold q_law_c22 at h
  refine lv_aload_n hx hb dL_law_1456 rfl (lv_at hl 1 rfl) ?_
  refine lv_aload_n hx hb dL_law_1457 rfl (lv_at hl 0 rfl) ?_
  refine lv_iload hx hb dL_law_1458 (lv_at hl 5 rfl) ?_
  refine lv_iconst (v := 1) hx hb dL_law_1460 (by decide) ?_
  refine lv_iadd hx hb dL_law_1461 ?_
  obtain ⟨v1, ev1, h⟩ := o_bind h
  refine g_sld hx hb hX hbl hbA hS ev1 dL_law_1462 ?_
  refine lv_aload_n hx hb dL_law_1463 rfl (lv_at hl 3 rfl) ?_
  obtain ⟨⟨S3, o4, v2⟩, ev2, h⟩ := o_bind h
  refine g_cL (As := [.ref (ad 0), .int v1, .ref qo]) (rest := []) ⟨hx, hb, hml, hown, hts⟩ (m_L_siteCount l hst D cy [] ad qo (dD cy qd dv :: mW cy am M []) _ S ov v1 S3 o4 v2 ev2) (vx_cwSW 3 hts gL_law_L_siteCount rfl rfl rfl (by decide +kernel) ⟨(Nat.le_of_ble_eq_true rfl), (Nat.le_of_ble_eq_true rfl)⟩) hP hK hD hS hA hE rfl hl.1 rfl (Nat.le_of_ble_eq_true rfl) dL_law_1464 ⟨(by show kc + 0 + 2 ≤ 601024; omega), (by show ks + 0 + 12 ≤ 7293034; omega)⟩ (fun H locs hP hD hS => ?_)
  have hP : va_P D vwCl (wL cy ad am qo qd S3 M o4 dv) H := hP
  have hD : va_D (lA s) (wL cy ad am qo qd S3 M o4 dv) := hD
  refine W.widen (k := kc + 2) (n := ks + 12) (by omega) (by omega) ?_
  refine lv_istore (lv' := [(6, .int v2), (0, .ref b), (1, .ref (ad 0)), (2, .ref (am 0)), (3, .ref qo), (4, .ref qd), (5, .int x5)]) hx hb dL_law_1467 hl (by decide) rfl (fun ls hl => ?_)
  refine lv_aload_n hx hb dL_law_1469 rfl (lv_at hl 3 rfl) ?_
  refine lv_aload_n hx hb dL_law_1470 rfl (lv_at hl 1 rfl) ?_
  refine lv_iload hx hb dL_law_1471 (lv_at hl 6 rfl) ?_
  refine lv_iconst (v := 1) hx hb dL_law_1473 (by decide) ?_
  refine lv_iadd hx hb dL_law_1474 ?_
  obtain ⟨v5, ev5, h⟩ := o_bind h
  refine g_sld hx hb hX hbl hbA hS ev5 dL_law_1475 ?_
  have hP := wL_toCP hP
  have hD := wL_toCD hD
  obtain ⟨⟨M7, v6⟩, ev6, h⟩ := o_bind h
  refine g_cVi (As := [.int v5]) (rest := []) ⟨hx, hb, hml, hown, hts⟩ (m_X6_siteCount l hst D cy [] am (oC cy qo o4 :: dD cy qd dv :: xW cy ad S3 []) _ M v5 M7 v6 ev6) (cwV 1 hts gL_law_X6_siteCount rfl rfl rfl (by decide +kernel) ⟨(Nat.le_of_ble_eq_true rfl), (Nat.le_of_ble_eq_true rfl)⟩) (va_recv hK hP (ci := 6) (q0 := 0) rfl rfl) hP hK hD hS hA hE rfl hl.1 rfl (Nat.le_of_ble_eq_true rfl) dL_law_1476 ⟨(by show kc + 2 + 0 ≤ 601024; omega), (by show ks + 12 + 0 ≤ 7293034; omega)⟩ (fun H locs hP hD hS => ?_)
  have hP := wL_ofCP hP
  have hD := wL_ofCD hD
  have hP : va_P D vwCl (wL cy ad am qo qd S3 M7 o4 dv) H := hP
  have hD : va_D (lA s) (wL cy ad am qo qd S3 M7 o4 dv) := hD
  refine W.widen (k := kc + 2) (n := ks + 12) (by omega) (by omega) ?_
  refine lv_istore (lv' := [(7, .int v6), (6, .int v2), (0, .ref b), (1, .ref (ad 0)), (2, .ref (am 0)), (3, .ref qo), (4, .ref qd), (5, .int x5)]) hx hb dL_law_1479 hl (by decide) rfl (fun ls hl => ?_)
  refine lv_aload_n hx hb dL_law_1481 rfl (lv_at hl 4 rfl) ?_
  have hP := wL_toCP hP
  have hD := wL_toCD hD
  obtain ⟨v8, ev8, h⟩ := o_bind h
  refine g_cVi (As := []) (rest := []) ⟨hx, hb, hml, hown, hts⟩ (m_X6_thrown l hst D cy [] am (oC cy qo o4 :: dD cy qd dv :: xW cy ad S3 []) _ M7  v8 ev8) (cwV 0 hts gL_law_X6_thrown rfl rfl rfl (by decide +kernel) ⟨(Nat.le_of_ble_eq_true rfl), (Nat.le_of_ble_eq_true rfl)⟩) (va_recv hK hP (ci := 6) (q0 := 0) rfl rfl) hP hK hD hS hA hE rfl hl.1 rfl (Nat.le_of_ble_eq_true rfl) dL_law_1482 ⟨(by show kc + 2 + 0 ≤ 601024; omega), (by show ks + 12 + 0 ≤ 7293034; omega)⟩ (fun H locs hP hD hS => ?_)
  have hP := wL_ofCP hP
  have hD := wL_ofCD hD
  have hP : va_P D vwCl (wL cy ad am qo qd S3 M7 o4 dv) H := hP
  have hD : va_D (lA s) (wL cy ad am qo qd S3 M7 o4 dv) := hD
  refine W.widen (k := kc + 2) (n := ks + 12) (by omega) (by omega) ?_
  refine lv_iload hx hb dL_law_1485 (lv_at hl 1 rfl) ?_
  refine lv_icmp_eq (tgt := 1492) hx hb dL_law_1487 (by decide) (fun hc => ?_) (fun hc => ?_)
  · have h := o_pos hc h
    refine lv_iload hx hb dL_law_1492 (lv_at hl 1 rfl) ?_
    refine lv_if_ne (tgt := 1509) hx hb dL_law_1494 (by decide) (fun hc => ?_) (fun hc => ?_)
    · have h := o_neg hc h
      refine lv_goto (tgt := 1933) hx hb dL_law_1509 (by decide) ?_
      refine lv_iinc (v := (x5 + 5)) (lv' := [(5, .int (x5 + 5)), (7, .int v6), (6, .int v2), (0, .ref b), (1, .ref (ad 0)), (2, .ref (am 0)), (3, .ref qo), (4, .ref qd)]) hx hb dL_law_1933 hl (k := 7) rfl rfl (by decide) rfl (fun ls hl => ?_)
      refine lv_goto (tgt := 28) hx hb dL_law_1936 (by decide) ?_
      refine W.widen (k := kc + 5) (n := ks + 80) (by omega) (by omega) ?_
      exact K S3 M7 o4 dv (x5 + 5) _ _ ls hP hD hS (lv_sub hl [3, 4, 5, 6, 7, 0] rfl) h
    · have h := o_pos hc h
      refine lv_aload_n hx hb dL_law_1497 rfl (lv_at hl 5 rfl) ?_
      refine lv_iconst (v := 0) hx hb dL_law_1498 (by decide) ?_
      obtain ⟨v9, ev9, h⟩ := o_bind h
      refine g_lald hx hb hK hP 25 33 rfl rfl ev9 dL_law_1499 ?_
      refine lv_iload hx hb dL_law_1500 (lv_at hl 0 rfl) ?_
      refine lv_i2l (v := ((v6 : Int32).toInt64)) hx hb dL_law_1502 rfl ?_
      refine W.lcmp hx hb dL_law_1503 ?_
      refine lv_if_eq (tgt := 1509) hx hb dL_law_1504 (by decide) (fun hc => ?_) (fun hc => ?_)
      · have h := o_pos hc h
        refine lv_goto (tgt := 1933) hx hb dL_law_1509 (by decide) ?_
        refine lv_iinc (v := (x5 + 5)) (lv' := [(5, .int (x5 + 5)), (7, .int v6), (6, .int v2), (0, .ref b), (1, .ref (ad 0)), (2, .ref (am 0)), (3, .ref qo), (4, .ref qd)]) hx hb dL_law_1933 hl (k := 7) rfl rfl (by decide) rfl (fun ls hl => ?_)
        refine lv_goto (tgt := 28) hx hb dL_law_1936 (by decide) ?_
        refine W.widen (k := kc + 5) (n := ks + 80) (by omega) (by omega) ?_
        exact K S3 M7 o4 dv (x5 + 5) _ _ ls hP hD hS (lv_sub hl [3, 4, 5, 6, 7, 0] rfl) h
      · have h := o_neg hc h
        refine lv_iconst (v := 0) hx hb dL_law_1507 (by decide) ?_
        exact absurd (Option.some.inj h) (by decide)
  · have h := o_neg hc h
    refine lv_iconst (v := 0) hx hb dL_law_1490 (by decide) ?_
    exact absurd (Option.some.inj h) (by decide)
set_option maxHeartbeats 4000000 in
set_option maxRecDepth 100000 in
theorem law_c23 {p : Program} {l : Launch} {e : Env} {s : State} {m : MethodId} {below : List Frame} {meth : Method} {c : Code} (hst : l.stackTraces = false) {b L : Nat} {xs : Nat → Int32} (C0 : lw_At p s m meth c b L xs) {D : va_G} {cy : Nat → ClassId} {ad am : Nat → Nat} {qo qd : Nat} (hK : va_K D vwCl (gT cy ++ []) s) (hE : gX (lA s) s) {rec : PS → PS → (Nat → Int64) → (Nat → UInt64) → Int32 → Option Int32} {kc ks : Nat} (hkc : kc + 5 ≤ 601024) (hks : ks + 80 ≤ 7293034) (K : lw_K p l e s m below meth c b D cy ad am qo qd rec (kc + 5) (ks + 80)) (S M : PS) (ov : Nat → Int64) (dv : Nat → UInt64) (x5 : Int32) (H : Heap) (locs : List Loc) (ls : Array Slot) (hP : va_P D vwCl (wL cy ad am qo qd S M ov dv) H) (hD : va_D (lA s) (wL cy ad am qo qd S M ov dv)) (hS : va_S (lA s) s.heap H locs) (hl : lv_has ls 9 [(0, .ref b), (1, .ref (ad 0)), (2, .ref (am 0)), (3, .ref qo), (4, .ref qd), (5, .int x5)]) (h : q_law_c23 xs L rec S M ov dv x5 = some 1) : W p l e room_1 s m #[Value.ref b] below meth c H locs kc ks (lw_Z below #[Value.ref b] s) (F0 m 1512 ls []) := by
  obtain ⟨hx, hb, hr, hml, hown, hts0, hX, hbl, hlocks, hgv⟩ := C0
  have hts : ∀ w ∈ wsL_law, w.before #[Value.ref b] s = true := fun w h => hts0 w (wsL_law_in w h)
  have hA : ∀ q : Nat, s.heap.size ≤ q → lA s q := fun _ h => h
  have hbA : ¬ lA s b := Nat.not_le.mpr hbl
  refine W.widen (k := kc + 0) (n := ks + 0) (Nat.le_refl _) (Nat.le_refl _) ?_
  unfold q_law_c23 at h
  refine lv_aload_n hx hb dL_law_1512 rfl (lv_at hl 1 rfl) ?_
  refine lv_aload_n hx hb dL_law_1513 rfl (lv_at hl 0 rfl) ?_
  refine lv_iload hx hb dL_law_1514 (lv_at hl 5 rfl) ?_
  refine lv_iconst (v := 1) hx hb dL_law_1516 (by decide) ?_
  refine lv_iadd hx hb dL_law_1517 ?_
  obtain ⟨v1, ev1, h⟩ := o_bind h
  refine g_sld hx hb hX hbl hbA hS ev1 dL_law_1518 ?_
  refine lv_aload_n hx hb dL_law_1519 rfl (lv_at hl 0 rfl) ?_
  refine lv_iload hx hb dL_law_1520 (lv_at hl 5 rfl) ?_
  refine lv_iconst (v := 2) hx hb dL_law_1522 (by decide) ?_
  refine lv_iadd hx hb dL_law_1523 ?_
  obtain ⟨v2, ev2, h⟩ := o_bind h
  refine g_sld hx hb hX hbl hbA hS ev2 dL_law_1524 ?_
  refine lv_aload_n hx hb dL_law_1525 rfl (lv_at hl 3 rfl) ?_
  obtain ⟨⟨S4, o5, v3⟩, ev3, h⟩ := o_bind h
  refine g_cL (As := [.ref (ad 0), .int v1, .int v2, .ref qo]) (rest := []) ⟨hx, hb, hml, hown, hts⟩ (m_L_verdict l hst D cy [] ad qo (dD cy qd dv :: mW cy am M []) _ S ov v1 v2 S4 o5 v3 ev3) (vx_cwSW 4 hts gL_law_L_verdict rfl rfl rfl (by decide +kernel) ⟨(Nat.le_of_ble_eq_true rfl), (Nat.le_of_ble_eq_true rfl)⟩) hP hK hD hS hA hE rfl hl.1 rfl (Nat.le_of_ble_eq_true rfl) dL_law_1526 ⟨(by show kc + 0 + 3 ≤ 601024; omega), (by show ks + 0 + 18 ≤ 7293034; omega)⟩ (fun H locs hP hD hS => ?_)
  have hP : va_P D vwCl (wL cy ad am qo qd S4 M o5 dv) H := hP
  have hD : va_D (lA s) (wL cy ad am qo qd S4 M o5 dv) := hD
  refine W.widen (k := kc + 3) (n := ks + 18) (by omega) (by omega) ?_
  refine lv_istore (lv' := [(6, .int v3), (0, .ref b), (1, .ref (ad 0)), (2, .ref (am 0)), (3, .ref qo), (4, .ref qd), (5, .int x5)]) hx hb dL_law_1529 hl (by decide) rfl (fun ls hl => ?_)
  refine lv_aload_n hx hb dL_law_1531 rfl (lv_at hl 3 rfl) ?_
  refine lv_aload_n hx hb dL_law_1532 rfl (lv_at hl 1 rfl) ?_
  refine lv_iload hx hb dL_law_1533 (lv_at hl 6 rfl) ?_
  refine lv_iconst (v := 1) hx hb dL_law_1535 (by decide) ?_
  refine lv_iadd hx hb dL_law_1536 ?_
  obtain ⟨v6, ev6, h⟩ := o_bind h
  refine g_sld hx hb hX hbl hbA hS ev6 dL_law_1537 ?_
  refine lv_aload_n hx hb dL_law_1538 rfl (lv_at hl 1 rfl) ?_
  refine lv_iload hx hb dL_law_1539 (lv_at hl 6 rfl) ?_
  refine lv_iconst (v := 2) hx hb dL_law_1541 (by decide) ?_
  refine lv_iadd hx hb dL_law_1542 ?_
  obtain ⟨v7, ev7, h⟩ := o_bind h
  refine g_sld hx hb hX hbl hbA hS ev7 dL_law_1543 ?_
  have hP := wL_toCP hP
  have hD := wL_toCD hD
  obtain ⟨⟨M9, v8⟩, ev8, h⟩ := o_bind h
  refine g_cVi (As := [.int v6, .int v7]) (rest := []) ⟨hx, hb, hml, hown, hts⟩ (m_X6_verdict l hst D cy [] am (oC cy qo o5 :: dD cy qd dv :: xW cy ad S4 []) _ M v6 v7 M9 v8 ev8) (cwV 2 hts gL_law_X6_verdict rfl rfl rfl (by decide +kernel) ⟨(Nat.le_of_ble_eq_true rfl), (Nat.le_of_ble_eq_true rfl)⟩) (va_recv hK hP (ci := 6) (q0 := 0) rfl rfl) hP hK hD hS hA hE rfl hl.1 rfl (Nat.le_of_ble_eq_true rfl) dL_law_1544 ⟨(by show kc + 3 + 0 ≤ 601024; omega), (by show ks + 18 + 0 ≤ 7293034; omega)⟩ (fun H locs hP hD hS => ?_)
  have hP := wL_ofCP hP
  have hD := wL_ofCD hD
  have hP : va_P D vwCl (wL cy ad am qo qd S4 M9 o5 dv) H := hP
  have hD : va_D (lA s) (wL cy ad am qo qd S4 M9 o5 dv) := hD
  refine W.widen (k := kc + 3) (n := ks + 18) (by omega) (by omega) ?_
  refine lv_istore (lv' := [(7, .int v8), (6, .int v3), (0, .ref b), (1, .ref (ad 0)), (2, .ref (am 0)), (3, .ref qo), (4, .ref qd), (5, .int x5)]) hx hb dL_law_1547 hl (by decide) rfl (fun ls hl => ?_)
  refine lv_aload_n hx hb dL_law_1549 rfl (lv_at hl 4 rfl) ?_
  have hP := wL_toCP hP
  have hD := wL_toCD hD
  obtain ⟨v10, ev10, h⟩ := o_bind h
  refine g_cVi (As := []) (rest := []) ⟨hx, hb, hml, hown, hts⟩ (m_X6_thrown l hst D cy [] am (oC cy qo o5 :: dD cy qd dv :: xW cy ad S4 []) _ M9  v10 ev10) (cwV 0 hts gL_law_X6_thrown rfl rfl rfl (by decide +kernel) ⟨(Nat.le_of_ble_eq_true rfl), (Nat.le_of_ble_eq_true rfl)⟩) (va_recv hK hP (ci := 6) (q0 := 0) rfl rfl) hP hK hD hS hA hE rfl hl.1 rfl (Nat.le_of_ble_eq_true rfl) dL_law_1550 ⟨(by show kc + 3 + 0 ≤ 601024; omega), (by show ks + 18 + 0 ≤ 7293034; omega)⟩ (fun H locs hP hD hS => ?_)
  have hP := wL_ofCP hP
  have hD := wL_ofCD hD
  have hP : va_P D vwCl (wL cy ad am qo qd S4 M9 o5 dv) H := hP
  have hD : va_D (lA s) (wL cy ad am qo qd S4 M9 o5 dv) := hD
  refine W.widen (k := kc + 3) (n := ks + 18) (by omega) (by omega) ?_
  refine lv_iload hx hb dL_law_1553 (lv_at hl 1 rfl) ?_
  refine lv_icmp_eq (tgt := 1560) hx hb dL_law_1555 (by decide) (fun hc => ?_) (fun hc => ?_)
  · have h := o_pos hc h
    refine lv_iload hx hb dL_law_1560 (lv_at hl 1 rfl) ?_
    refine lv_if_ne (tgt := 1577) hx hb dL_law_1562 (by decide) (fun hc => ?_) (fun hc => ?_)
    · have h := o_neg hc h
      refine lv_goto (tgt := 1933) hx hb dL_law_1577 (by decide) ?_
      refine lv_iinc (v := (x5 + 5)) (lv' := [(5, .int (x5 + 5)), (7, .int v8), (6, .int v3), (0, .ref b), (1, .ref (ad 0)), (2, .ref (am 0)), (3, .ref qo), (4, .ref qd)]) hx hb dL_law_1933 hl (k := 7) rfl rfl (by decide) rfl (fun ls hl => ?_)
      refine lv_goto (tgt := 28) hx hb dL_law_1936 (by decide) ?_
      refine W.widen (k := kc + 5) (n := ks + 80) (by omega) (by omega) ?_
      exact K S4 M9 o5 dv (x5 + 5) _ _ ls hP hD hS (lv_sub hl [3, 4, 5, 6, 7, 0] rfl) h
    · have h := o_pos hc h
      refine lv_aload_n hx hb dL_law_1565 rfl (lv_at hl 5 rfl) ?_
      refine lv_iconst (v := 0) hx hb dL_law_1566 (by decide) ?_
      obtain ⟨v11, ev11, h⟩ := o_bind h
      refine g_lald hx hb hK hP 25 33 rfl rfl ev11 dL_law_1567 ?_
      refine lv_iload hx hb dL_law_1568 (lv_at hl 0 rfl) ?_
      refine lv_i2l (v := ((v8 : Int32).toInt64)) hx hb dL_law_1570 rfl ?_
      refine W.lcmp hx hb dL_law_1571 ?_
      refine lv_if_eq (tgt := 1577) hx hb dL_law_1572 (by decide) (fun hc => ?_) (fun hc => ?_)
      · have h := o_pos hc h
        refine lv_goto (tgt := 1933) hx hb dL_law_1577 (by decide) ?_
        refine lv_iinc (v := (x5 + 5)) (lv' := [(5, .int (x5 + 5)), (7, .int v8), (6, .int v3), (0, .ref b), (1, .ref (ad 0)), (2, .ref (am 0)), (3, .ref qo), (4, .ref qd)]) hx hb dL_law_1933 hl (k := 7) rfl rfl (by decide) rfl (fun ls hl => ?_)
        refine lv_goto (tgt := 28) hx hb dL_law_1936 (by decide) ?_
        refine W.widen (k := kc + 5) (n := ks + 80) (by omega) (by omega) ?_
        exact K S4 M9 o5 dv (x5 + 5) _ _ ls hP hD hS (lv_sub hl [3, 4, 5, 6, 7, 0] rfl) h
      · have h := o_neg hc h
        refine lv_iconst (v := 0) hx hb dL_law_1575 (by decide) ?_
        exact absurd (Option.some.inj h) (by decide)
  · have h := o_neg hc h
    refine lv_iconst (v := 0) hx hb dL_law_1558 (by decide) ?_
    exact absurd (Option.some.inj h) (by decide)
set_option maxHeartbeats 4000000 in
set_option maxRecDepth 100000 in
theorem law_c24 {p : Program} {l : Launch} {e : Env} {s : State} {m : MethodId} {below : List Frame} {meth : Method} {c : Code} (hst : l.stackTraces = false) {b L : Nat} {xs : Nat → Int32} (C0 : lw_At p s m meth c b L xs) {D : va_G} {cy : Nat → ClassId} {ad am : Nat → Nat} {qo qd : Nat} (hK : va_K D vwCl (gT cy ++ []) s) (hE : gX (lA s) s) {rec : PS → PS → (Nat → Int64) → (Nat → UInt64) → Int32 → Option Int32} {kc ks : Nat} (hkc : kc + 5 ≤ 601024) (hks : ks + 80 ≤ 7293034) (K : lw_K p l e s m below meth c b D cy ad am qo qd rec (kc + 5) (ks + 80)) (S M : PS) (ov : Nat → Int64) (dv : Nat → UInt64) (x5 : Int32) (H : Heap) (locs : List Loc) (ls : Array Slot) (hP : va_P D vwCl (wL cy ad am qo qd S M ov dv) H) (hD : va_D (lA s) (wL cy ad am qo qd S M ov dv)) (hS : va_S (lA s) s.heap H locs) (hl : lv_has ls 9 [(0, .ref b), (1, .ref (ad 0)), (2, .ref (am 0)), (3, .ref qo), (4, .ref qd), (5, .int x5)]) (h : q_law_c24 xs L rec S M ov dv x5 = some 1) : W p l e room_1 s m #[Value.ref b] below meth c H locs kc ks (lw_Z below #[Value.ref b] s) (F0 m 1580 ls []) := by
  obtain ⟨hx, hb, hr, hml, hown, hts0, hX, hbl, hlocks, hgv⟩ := C0
  have hts : ∀ w ∈ wsL_law, w.before #[Value.ref b] s = true := fun w h => hts0 w (wsL_law_in w h)
  have hA : ∀ q : Nat, s.heap.size ≤ q → lA s q := fun _ h => h
  have hbA : ¬ lA s b := Nat.not_le.mpr hbl
  refine W.widen (k := kc + 0) (n := ks + 0) (Nat.le_refl _) (Nat.le_refl _) ?_
  unfold q_law_c24 at h
  refine lv_aload_n hx hb dL_law_1580 rfl (lv_at hl 1 rfl) ?_
  refine lv_aload_n hx hb dL_law_1581 rfl (lv_at hl 0 rfl) ?_
  refine lv_iload hx hb dL_law_1582 (lv_at hl 5 rfl) ?_
  refine lv_iconst (v := 1) hx hb dL_law_1584 (by decide) ?_
  refine lv_iadd hx hb dL_law_1585 ?_
  obtain ⟨v1, ev1, h⟩ := o_bind h
  refine g_sld hx hb hX hbl hbA hS ev1 dL_law_1586 ?_
  refine lv_aload_n hx hb dL_law_1587 rfl (lv_at hl 0 rfl) ?_
  refine lv_iload hx hb dL_law_1588 (lv_at hl 5 rfl) ?_
  refine lv_iconst (v := 2) hx hb dL_law_1590 (by decide) ?_
  refine lv_iadd hx hb dL_law_1591 ?_
  obtain ⟨v2, ev2, h⟩ := o_bind h
  refine g_sld hx hb hX hbl hbA hS ev2 dL_law_1592 ?_
  refine lv_aload_n hx hb dL_law_1593 rfl (lv_at hl 3 rfl) ?_
  obtain ⟨⟨S4, o5, v3⟩, ev3, h⟩ := o_bind h
  refine g_cL (As := [.ref (ad 0), .int v1, .int v2, .ref qo]) (rest := []) ⟨hx, hb, hml, hown, hts⟩ (m_L_weight l hst D cy [] ad qo (dD cy qd dv :: mW cy am M []) _ S ov v1 v2 S4 o5 v3 ev3) (vx_cwSW 4 hts gL_law_L_weight rfl rfl rfl (by decide +kernel) ⟨(Nat.le_of_ble_eq_true rfl), (Nat.le_of_ble_eq_true rfl)⟩) hP hK hD hS hA hE rfl hl.1 rfl (Nat.le_of_ble_eq_true rfl) dL_law_1594 ⟨(by show kc + 0 + 3 ≤ 601024; omega), (by show ks + 0 + 18 ≤ 7293034; omega)⟩ (fun H locs hP hD hS => ?_)
  have hP : va_P D vwCl (wL cy ad am qo qd S4 M o5 dv) H := hP
  have hD : va_D (lA s) (wL cy ad am qo qd S4 M o5 dv) := hD
  refine W.widen (k := kc + 3) (n := ks + 18) (by omega) (by omega) ?_
  refine lv_istore (lv' := [(6, .int v3), (0, .ref b), (1, .ref (ad 0)), (2, .ref (am 0)), (3, .ref qo), (4, .ref qd), (5, .int x5)]) hx hb dL_law_1597 hl (by decide) rfl (fun ls hl => ?_)
  refine lv_aload_n hx hb dL_law_1599 rfl (lv_at hl 3 rfl) ?_
  refine lv_aload_n hx hb dL_law_1600 rfl (lv_at hl 1 rfl) ?_
  refine lv_iload hx hb dL_law_1601 (lv_at hl 6 rfl) ?_
  refine lv_iconst (v := 1) hx hb dL_law_1603 (by decide) ?_
  refine lv_iadd hx hb dL_law_1604 ?_
  obtain ⟨v6, ev6, h⟩ := o_bind h
  refine g_sld hx hb hX hbl hbA hS ev6 dL_law_1605 ?_
  refine lv_aload_n hx hb dL_law_1606 rfl (lv_at hl 1 rfl) ?_
  refine lv_iload hx hb dL_law_1607 (lv_at hl 6 rfl) ?_
  refine lv_iconst (v := 2) hx hb dL_law_1609 (by decide) ?_
  refine lv_iadd hx hb dL_law_1610 ?_
  obtain ⟨v7, ev7, h⟩ := o_bind h
  refine g_sld hx hb hX hbl hbA hS ev7 dL_law_1611 ?_
  have hP := wL_toCP hP
  have hD := wL_toCD hD
  obtain ⟨⟨M9, v8⟩, ev8, h⟩ := o_bind h
  refine g_cVi (As := [.int v6, .int v7]) (rest := []) ⟨hx, hb, hml, hown, hts⟩ (m_X6_weight l hst D cy [] am (oC cy qo o5 :: dD cy qd dv :: xW cy ad S4 []) _ M v6 v7 M9 v8 ev8) (cwV 2 hts gL_law_X6_weight rfl rfl rfl (by decide +kernel) ⟨(Nat.le_of_ble_eq_true rfl), (Nat.le_of_ble_eq_true rfl)⟩) (va_recv hK hP (ci := 6) (q0 := 0) rfl rfl) hP hK hD hS hA hE rfl hl.1 rfl (Nat.le_of_ble_eq_true rfl) dL_law_1612 ⟨(by show kc + 3 + 0 ≤ 601024; omega), (by show ks + 18 + 0 ≤ 7293034; omega)⟩ (fun H locs hP hD hS => ?_)
  have hP := wL_ofCP hP
  have hD := wL_ofCD hD
  have hP : va_P D vwCl (wL cy ad am qo qd S4 M9 o5 dv) H := hP
  have hD : va_D (lA s) (wL cy ad am qo qd S4 M9 o5 dv) := hD
  refine W.widen (k := kc + 3) (n := ks + 18) (by omega) (by omega) ?_
  refine lv_istore (lv' := [(7, .int v8), (6, .int v3), (0, .ref b), (1, .ref (ad 0)), (2, .ref (am 0)), (3, .ref qo), (4, .ref qd), (5, .int x5)]) hx hb dL_law_1615 hl (by decide) rfl (fun ls hl => ?_)
  refine lv_aload_n hx hb dL_law_1617 rfl (lv_at hl 4 rfl) ?_
  have hP := wL_toCP hP
  have hD := wL_toCD hD
  obtain ⟨v10, ev10, h⟩ := o_bind h
  refine g_cVi (As := []) (rest := []) ⟨hx, hb, hml, hown, hts⟩ (m_X6_thrown l hst D cy [] am (oC cy qo o5 :: dD cy qd dv :: xW cy ad S4 []) _ M9  v10 ev10) (cwV 0 hts gL_law_X6_thrown rfl rfl rfl (by decide +kernel) ⟨(Nat.le_of_ble_eq_true rfl), (Nat.le_of_ble_eq_true rfl)⟩) (va_recv hK hP (ci := 6) (q0 := 0) rfl rfl) hP hK hD hS hA hE rfl hl.1 rfl (Nat.le_of_ble_eq_true rfl) dL_law_1618 ⟨(by show kc + 3 + 0 ≤ 601024; omega), (by show ks + 18 + 0 ≤ 7293034; omega)⟩ (fun H locs hP hD hS => ?_)
  have hP := wL_ofCP hP
  have hD := wL_ofCD hD
  have hP : va_P D vwCl (wL cy ad am qo qd S4 M9 o5 dv) H := hP
  have hD : va_D (lA s) (wL cy ad am qo qd S4 M9 o5 dv) := hD
  refine W.widen (k := kc + 3) (n := ks + 18) (by omega) (by omega) ?_
  refine lv_iload hx hb dL_law_1621 (lv_at hl 1 rfl) ?_
  refine lv_icmp_eq (tgt := 1628) hx hb dL_law_1623 (by decide) (fun hc => ?_) (fun hc => ?_)
  · have h := o_pos hc h
    refine lv_iload hx hb dL_law_1628 (lv_at hl 1 rfl) ?_
    refine lv_if_ne (tgt := 1645) hx hb dL_law_1630 (by decide) (fun hc => ?_) (fun hc => ?_)
    · have h := o_neg hc h
      refine lv_goto (tgt := 1933) hx hb dL_law_1645 (by decide) ?_
      refine lv_iinc (v := (x5 + 5)) (lv' := [(5, .int (x5 + 5)), (7, .int v8), (6, .int v3), (0, .ref b), (1, .ref (ad 0)), (2, .ref (am 0)), (3, .ref qo), (4, .ref qd)]) hx hb dL_law_1933 hl (k := 7) rfl rfl (by decide) rfl (fun ls hl => ?_)
      refine lv_goto (tgt := 28) hx hb dL_law_1936 (by decide) ?_
      refine W.widen (k := kc + 5) (n := ks + 80) (by omega) (by omega) ?_
      exact K S4 M9 o5 dv (x5 + 5) _ _ ls hP hD hS (lv_sub hl [3, 4, 5, 6, 7, 0] rfl) h
    · have h := o_pos hc h
      refine lv_aload_n hx hb dL_law_1633 rfl (lv_at hl 5 rfl) ?_
      refine lv_iconst (v := 0) hx hb dL_law_1634 (by decide) ?_
      obtain ⟨v11, ev11, h⟩ := o_bind h
      refine g_lald hx hb hK hP 25 33 rfl rfl ev11 dL_law_1635 ?_
      refine lv_iload hx hb dL_law_1636 (lv_at hl 0 rfl) ?_
      refine lv_i2l (v := ((v8 : Int32).toInt64)) hx hb dL_law_1638 rfl ?_
      refine W.lcmp hx hb dL_law_1639 ?_
      refine lv_if_eq (tgt := 1645) hx hb dL_law_1640 (by decide) (fun hc => ?_) (fun hc => ?_)
      · have h := o_pos hc h
        refine lv_goto (tgt := 1933) hx hb dL_law_1645 (by decide) ?_
        refine lv_iinc (v := (x5 + 5)) (lv' := [(5, .int (x5 + 5)), (7, .int v8), (6, .int v3), (0, .ref b), (1, .ref (ad 0)), (2, .ref (am 0)), (3, .ref qo), (4, .ref qd)]) hx hb dL_law_1933 hl (k := 7) rfl rfl (by decide) rfl (fun ls hl => ?_)
        refine lv_goto (tgt := 28) hx hb dL_law_1936 (by decide) ?_
        refine W.widen (k := kc + 5) (n := ks + 80) (by omega) (by omega) ?_
        exact K S4 M9 o5 dv (x5 + 5) _ _ ls hP hD hS (lv_sub hl [3, 4, 5, 6, 7, 0] rfl) h
      · have h := o_neg hc h
        refine lv_iconst (v := 0) hx hb dL_law_1643 (by decide) ?_
        exact absurd (Option.some.inj h) (by decide)
  · have h := o_neg hc h
    refine lv_iconst (v := 0) hx hb dL_law_1626 (by decide) ?_
    exact absurd (Option.some.inj h) (by decide)
set_option maxHeartbeats 4000000 in
set_option maxRecDepth 100000 in
theorem law_c25 {p : Program} {l : Launch} {e : Env} {s : State} {m : MethodId} {below : List Frame} {meth : Method} {c : Code} (hst : l.stackTraces = false) {b L : Nat} {xs : Nat → Int32} (C0 : lw_At p s m meth c b L xs) {D : va_G} {cy : Nat → ClassId} {ad am : Nat → Nat} {qo qd : Nat} (hK : va_K D vwCl (gT cy ++ []) s) (hE : gX (lA s) s) {rec : PS → PS → (Nat → Int64) → (Nat → UInt64) → Int32 → Option Int32} {kc ks : Nat} (hkc : kc + 5 ≤ 601024) (hks : ks + 80 ≤ 7293034) (K : lw_K p l e s m below meth c b D cy ad am qo qd rec (kc + 5) (ks + 80)) (S M : PS) (ov : Nat → Int64) (dv : Nat → UInt64) (x5 : Int32) (H : Heap) (locs : List Loc) (ls : Array Slot) (hP : va_P D vwCl (wL cy ad am qo qd S M ov dv) H) (hD : va_D (lA s) (wL cy ad am qo qd S M ov dv)) (hS : va_S (lA s) s.heap H locs) (hl : lv_has ls 9 [(0, .ref b), (1, .ref (ad 0)), (2, .ref (am 0)), (3, .ref qo), (4, .ref qd), (5, .int x5)]) (h : q_law_c25 xs L rec S M ov dv x5 = some 1) : W p l e room_1 s m #[Value.ref b] below meth c H locs kc ks (lw_Z below #[Value.ref b] s) (F0 m 1648 ls []) := by
  obtain ⟨hx, hb, hr, hml, hown, hts0, hX, hbl, hlocks, hgv⟩ := C0
  have hts : ∀ w ∈ wsL_law, w.before #[Value.ref b] s = true := fun w h => hts0 w (wsL_law_in w h)
  have hA : ∀ q : Nat, s.heap.size ≤ q → lA s q := fun _ h => h
  have hbA : ¬ lA s b := Nat.not_le.mpr hbl
  refine W.widen (k := kc + 0) (n := ks + 0) (Nat.le_refl _) (Nat.le_refl _) ?_
  unfold q_law_c25 at h
  refine lv_aload_n hx hb dL_law_1648 rfl (lv_at hl 1 rfl) ?_
  refine lv_aload_n hx hb dL_law_1649 rfl (lv_at hl 0 rfl) ?_
  refine lv_iload hx hb dL_law_1650 (lv_at hl 5 rfl) ?_
  refine lv_iconst (v := 1) hx hb dL_law_1652 (by decide) ?_
  refine lv_iadd hx hb dL_law_1653 ?_
  obtain ⟨v1, ev1, h⟩ := o_bind h
  refine g_sld hx hb hX hbl hbA hS ev1 dL_law_1654 ?_
  refine lv_aload_n hx hb dL_law_1655 rfl (lv_at hl 3 rfl) ?_
  obtain ⟨⟨S3, o4, v2⟩, ev2, h⟩ := o_bind h
  refine g_cL (As := [.ref (ad 0), .int v1, .ref qo]) (rest := []) ⟨hx, hb, hml, hown, hts⟩ (m_L_weightOf l hst D cy [] ad qo (dD cy qd dv :: mW cy am M []) _ S ov v1 S3 o4 v2 ev2) (vx_cwSW 3 hts gL_law_L_weightOf rfl rfl rfl (by decide +kernel) ⟨(Nat.le_of_ble_eq_true rfl), (Nat.le_of_ble_eq_true rfl)⟩) hP hK hD hS hA hE rfl hl.1 rfl (Nat.le_of_ble_eq_true rfl) dL_law_1656 ⟨(by show kc + 0 + 2 ≤ 601024; omega), (by show ks + 0 + 12 ≤ 7293034; omega)⟩ (fun H locs hP hD hS => ?_)
  have hP : va_P D vwCl (wL cy ad am qo qd S3 M o4 dv) H := hP
  have hD : va_D (lA s) (wL cy ad am qo qd S3 M o4 dv) := hD
  refine W.widen (k := kc + 2) (n := ks + 12) (by omega) (by omega) ?_
  refine lv_istore (lv' := [(6, .int v2), (0, .ref b), (1, .ref (ad 0)), (2, .ref (am 0)), (3, .ref qo), (4, .ref qd), (5, .int x5)]) hx hb dL_law_1659 hl (by decide) rfl (fun ls hl => ?_)
  refine lv_aload_n hx hb dL_law_1661 rfl (lv_at hl 3 rfl) ?_
  refine lv_aload_n hx hb dL_law_1662 rfl (lv_at hl 1 rfl) ?_
  refine lv_iload hx hb dL_law_1663 (lv_at hl 6 rfl) ?_
  refine lv_iconst (v := 1) hx hb dL_law_1665 (by decide) ?_
  refine lv_iadd hx hb dL_law_1666 ?_
  obtain ⟨v5, ev5, h⟩ := o_bind h
  refine g_sld hx hb hX hbl hbA hS ev5 dL_law_1667 ?_
  have hP := wL_toCP hP
  have hD := wL_toCD hD
  obtain ⟨⟨M7, v6⟩, ev6, h⟩ := o_bind h
  refine g_cVl (As := [.int v5]) (rest := []) ⟨hx, hb, hml, hown, hts⟩ (m_X6_weightOf l hst D cy [] am (oC cy qo o4 :: dD cy qd dv :: xW cy ad S3 []) _ M v5 M7 v6 ev6) (cwV 1 hts gL_law_X6_weightOf rfl rfl rfl (by decide +kernel) ⟨(Nat.le_of_ble_eq_true rfl), (Nat.le_of_ble_eq_true rfl)⟩) (va_recv hK hP (ci := 6) (q0 := 0) rfl rfl) hP hK hD hS hA hE rfl hl.1 rfl (Nat.le_of_ble_eq_true rfl) dL_law_1668 ⟨(by show kc + 2 + 0 ≤ 601024; omega), (by show ks + 12 + 0 ≤ 7293034; omega)⟩ (fun H locs hP hD hS => ?_)
  have hP := wL_ofCP hP
  have hD := wL_ofCD hD
  have hP : va_P D vwCl (wL cy ad am qo qd S3 M7 o4 dv) H := hP
  have hD : va_D (lA s) (wL cy ad am qo qd S3 M7 o4 dv) := hD
  refine W.widen (k := kc + 2) (n := ks + 12) (by omega) (by omega) ?_
  refine lv_lstore (lv' := [(7, .long v6), (6, .int v2), (0, .ref b), (1, .ref (ad 0)), (2, .ref (am 0)), (3, .ref qo), (4, .ref qd), (5, .int x5)]) hx hb dL_law_1671 hl (by decide) rfl (fun ls hl => ?_)
  refine lv_aload_n hx hb dL_law_1673 rfl (lv_at hl 4 rfl) ?_
  have hP := wL_toCP hP
  have hD := wL_toCD hD
  obtain ⟨v8, ev8, h⟩ := o_bind h
  refine g_cVi (As := []) (rest := []) ⟨hx, hb, hml, hown, hts⟩ (m_X6_thrown l hst D cy [] am (oC cy qo o4 :: dD cy qd dv :: xW cy ad S3 []) _ M7  v8 ev8) (cwV 0 hts gL_law_X6_thrown rfl rfl rfl (by decide +kernel) ⟨(Nat.le_of_ble_eq_true rfl), (Nat.le_of_ble_eq_true rfl)⟩) (va_recv hK hP (ci := 6) (q0 := 0) rfl rfl) hP hK hD hS hA hE rfl hl.1 rfl (Nat.le_of_ble_eq_true rfl) dL_law_1674 ⟨(by show kc + 2 + 0 ≤ 601024; omega), (by show ks + 12 + 0 ≤ 7293034; omega)⟩ (fun H locs hP hD hS => ?_)
  have hP := wL_ofCP hP
  have hD := wL_ofCD hD
  have hP : va_P D vwCl (wL cy ad am qo qd S3 M7 o4 dv) H := hP
  have hD : va_D (lA s) (wL cy ad am qo qd S3 M7 o4 dv) := hD
  refine W.widen (k := kc + 2) (n := ks + 12) (by omega) (by omega) ?_
  refine lv_iload hx hb dL_law_1677 (lv_at hl 1 rfl) ?_
  refine lv_icmp_eq (tgt := 1684) hx hb dL_law_1679 (by decide) (fun hc => ?_) (fun hc => ?_)
  · have h := o_pos hc h
    refine lv_iload hx hb dL_law_1684 (lv_at hl 1 rfl) ?_
    refine lv_if_ne (tgt := 1700) hx hb dL_law_1686 (by decide) (fun hc => ?_) (fun hc => ?_)
    · have h := o_neg hc h
      refine lv_goto (tgt := 1933) hx hb dL_law_1700 (by decide) ?_
      refine lv_iinc (v := (x5 + 5)) (lv' := [(5, .int (x5 + 5)), (7, .long v6), (6, .int v2), (0, .ref b), (1, .ref (ad 0)), (2, .ref (am 0)), (3, .ref qo), (4, .ref qd)]) hx hb dL_law_1933 hl (k := 7) rfl rfl (by decide) rfl (fun ls hl => ?_)
      refine lv_goto (tgt := 28) hx hb dL_law_1936 (by decide) ?_
      refine W.widen (k := kc + 5) (n := ks + 80) (by omega) (by omega) ?_
      exact K S3 M7 o4 dv (x5 + 5) _ _ ls hP hD hS (lv_sub hl [3, 4, 5, 6, 7, 0] rfl) h
    · have h := o_pos hc h
      refine lv_aload_n hx hb dL_law_1689 rfl (lv_at hl 5 rfl) ?_
      refine lv_iconst (v := 0) hx hb dL_law_1690 (by decide) ?_
      obtain ⟨v9, ev9, h⟩ := o_bind h
      refine g_lald hx hb hK hP 25 33 rfl rfl ev9 dL_law_1691 ?_
      refine lv_lload hx hb dL_law_1692 (lv_at hl 0 rfl) ?_
      refine W.lcmp hx hb dL_law_1694 ?_
      refine lv_if_eq (tgt := 1700) hx hb dL_law_1695 (by decide) (fun hc => ?_) (fun hc => ?_)
      · have h := o_pos hc h
        refine lv_goto (tgt := 1933) hx hb dL_law_1700 (by decide) ?_
        refine lv_iinc (v := (x5 + 5)) (lv' := [(5, .int (x5 + 5)), (7, .long v6), (6, .int v2), (0, .ref b), (1, .ref (ad 0)), (2, .ref (am 0)), (3, .ref qo), (4, .ref qd)]) hx hb dL_law_1933 hl (k := 7) rfl rfl (by decide) rfl (fun ls hl => ?_)
        refine lv_goto (tgt := 28) hx hb dL_law_1936 (by decide) ?_
        refine W.widen (k := kc + 5) (n := ks + 80) (by omega) (by omega) ?_
        exact K S3 M7 o4 dv (x5 + 5) _ _ ls hP hD hS (lv_sub hl [3, 4, 5, 6, 7, 0] rfl) h
      · have h := o_neg hc h
        refine lv_iconst (v := 0) hx hb dL_law_1698 (by decide) ?_
        exact absurd (Option.some.inj h) (by decide)
  · have h := o_neg hc h
    refine lv_iconst (v := 0) hx hb dL_law_1682 (by decide) ?_
    exact absurd (Option.some.inj h) (by decide)
set_option maxHeartbeats 4000000 in
set_option maxRecDepth 100000 in
theorem law_c26 {p : Program} {l : Launch} {e : Env} {s : State} {m : MethodId} {below : List Frame} {meth : Method} {c : Code} (hst : l.stackTraces = false) {b L : Nat} {xs : Nat → Int32} (C0 : lw_At p s m meth c b L xs) {D : va_G} {cy : Nat → ClassId} {ad am : Nat → Nat} {qo qd : Nat} (hK : va_K D vwCl (gT cy ++ []) s) (hE : gX (lA s) s) {rec : PS → PS → (Nat → Int64) → (Nat → UInt64) → Int32 → Option Int32} {kc ks : Nat} (hkc : kc + 5 ≤ 601024) (hks : ks + 80 ≤ 7293034) (K : lw_K p l e s m below meth c b D cy ad am qo qd rec (kc + 5) (ks + 80)) (S M : PS) (ov : Nat → Int64) (dv : Nat → UInt64) (x5 : Int32) (H : Heap) (locs : List Loc) (ls : Array Slot) (hP : va_P D vwCl (wL cy ad am qo qd S M ov dv) H) (hD : va_D (lA s) (wL cy ad am qo qd S M ov dv)) (hS : va_S (lA s) s.heap H locs) (hl : lv_has ls 9 [(0, .ref b), (1, .ref (ad 0)), (2, .ref (am 0)), (3, .ref qo), (4, .ref qd), (5, .int x5)]) (h : q_law_c26 xs L rec S M ov dv x5 = some 1) : W p l e room_1 s m #[Value.ref b] below meth c H locs kc ks (lw_Z below #[Value.ref b] s) (F0 m 1703 ls []) := by
  obtain ⟨hx, hb, hr, hml, hown, hts0, hX, hbl, hlocks, hgv⟩ := C0
  have hts : ∀ w ∈ wsL_law, w.before #[Value.ref b] s = true := fun w h => hts0 w (wsL_law_in w h)
  have hA : ∀ q : Nat, s.heap.size ≤ q → lA s q := fun _ h => h
  have hbA : ¬ lA s b := Nat.not_le.mpr hbl
  refine W.widen (k := kc + 0) (n := ks + 0) (Nat.le_refl _) (Nat.le_refl _) ?_
  unfold q_law_c26 at h
  refine lv_aload_n hx hb dL_law_1703 rfl (lv_at hl 1 rfl) ?_
  refine lv_aload hx hb dL_law_1704 (lv_at hl 4 rfl) ?_
  obtain ⟨⟨S2, o3, v1⟩, ev1, h⟩ := o_bind h
  have hP := wL_toBP hP
  have hD := wL_toBD hD
  refine g_cL (As := [.ref (ad 0), .ref qd]) (rest := []) ⟨hx, hb, hml, hown, hts⟩ (m_L_share l hst D cy [] ad qd (oC cy qo ov :: mW cy am M []) _ S dv  S2 o3 v1 ev1) (vx_cwSW 2 hts gL_law_L_share rfl rfl rfl (by decide +kernel) ⟨(Nat.le_of_ble_eq_true rfl), (Nat.le_of_ble_eq_true rfl)⟩) hP hK hD hS hA hE rfl hl.1 rfl (Nat.le_of_ble_eq_true rfl) dL_law_1706 ⟨(by show kc + 0 + 1 ≤ 601024; omega), (by show ks + 0 + 6 ≤ 7293034; omega)⟩ (fun H locs hP hD hS => ?_)
  have hP := wL_ofBP hP
  have hD := wL_ofBD hD
  have hP : va_P D vwCl (wL cy ad am qo qd S2 M ov o3) H := hP
  have hD : va_D (lA s) (wL cy ad am qo qd S2 M ov o3) := hD
  refine W.widen (k := kc + 1) (n := ks + 6) (by omega) (by omega) ?_
  refine lv_istore (lv' := [(6, .int v1), (0, .ref b), (1, .ref (ad 0)), (2, .ref (am 0)), (3, .ref qo), (4, .ref qd), (5, .int x5)]) hx hb dL_law_1709 hl (by decide) rfl (fun ls hl => ?_)
  refine lv_aload_n hx hb dL_law_1711 rfl (lv_at hl 3 rfl) ?_
  have hP := wL_toCP hP
  have hD := wL_toCD hD
  obtain ⟨⟨M5, v4⟩, ev4, h⟩ := o_bind h
  refine g_cVd (As := []) (rest := []) ⟨hx, hb, hml, hown, hts⟩ (m_X6_share l hst D cy [] am (oC cy qo ov :: dD cy qd o3 :: xW cy ad S2 []) _ M  M5 v4 ev4) (cwV 0 hts gL_law_X6_share rfl rfl rfl (by decide +kernel) ⟨(Nat.le_of_ble_eq_true rfl), (Nat.le_of_ble_eq_true rfl)⟩) (va_recv hK hP (ci := 6) (q0 := 0) rfl rfl) hP hK hD hS hA hE rfl hl.1 rfl (Nat.le_of_ble_eq_true rfl) dL_law_1712 ⟨(by show kc + 1 + 0 ≤ 601024; omega), (by show ks + 6 + 0 ≤ 7293034; omega)⟩ (fun H locs hP hD hS => ?_)
  have hP := wL_ofCP hP
  have hD := wL_ofCD hD
  have hP : va_P D vwCl (wL cy ad am qo qd S2 M5 ov o3) H := hP
  have hD : va_D (lA s) (wL cy ad am qo qd S2 M5 ov o3) := hD
  refine W.widen (k := kc + 1) (n := ks + 6) (by omega) (by omega) ?_
  refine lv_dstore (lv' := [(7, .double v4), (6, .int v1), (0, .ref b), (1, .ref (ad 0)), (2, .ref (am 0)), (3, .ref qo), (4, .ref qd), (5, .int x5)]) hx hb dL_law_1715 hl (by decide) rfl (fun ls hl => ?_)
  refine lv_aload_n hx hb dL_law_1717 rfl (lv_at hl 4 rfl) ?_
  have hP := wL_toCP hP
  have hD := wL_toCD hD
  obtain ⟨v6, ev6, h⟩ := o_bind h
  refine g_cVi (As := []) (rest := []) ⟨hx, hb, hml, hown, hts⟩ (m_X6_thrown l hst D cy [] am (oC cy qo ov :: dD cy qd o3 :: xW cy ad S2 []) _ M5  v6 ev6) (cwV 0 hts gL_law_X6_thrown rfl rfl rfl (by decide +kernel) ⟨(Nat.le_of_ble_eq_true rfl), (Nat.le_of_ble_eq_true rfl)⟩) (va_recv hK hP (ci := 6) (q0 := 0) rfl rfl) hP hK hD hS hA hE rfl hl.1 rfl (Nat.le_of_ble_eq_true rfl) dL_law_1718 ⟨(by show kc + 1 + 0 ≤ 601024; omega), (by show ks + 6 + 0 ≤ 7293034; omega)⟩ (fun H locs hP hD hS => ?_)
  have hP := wL_ofCP hP
  have hD := wL_ofCD hD
  have hP : va_P D vwCl (wL cy ad am qo qd S2 M5 ov o3) H := hP
  have hD : va_D (lA s) (wL cy ad am qo qd S2 M5 ov o3) := hD
  refine W.widen (k := kc + 1) (n := ks + 6) (by omega) (by omega) ?_
  refine lv_iload hx hb dL_law_1721 (lv_at hl 1 rfl) ?_
  refine lv_icmp_eq (tgt := 1728) hx hb dL_law_1723 (by decide) (fun hc => ?_) (fun hc => ?_)
  · have h := o_pos hc h
    refine lv_iload hx hb dL_law_1728 (lv_at hl 1 rfl) ?_
    refine lv_if_ne (tgt := 1765) hx hb dL_law_1730 (by decide) (fun hc => ?_) (fun hc => ?_)
    · have h := o_neg hc h
      refine lv_goto (tgt := 1933) hx hb dL_law_1765 (by decide) ?_
      refine lv_iinc (v := (x5 + 5)) (lv' := [(5, .int (x5 + 5)), (7, .double v4), (6, .int v1), (0, .ref b), (1, .ref (ad 0)), (2, .ref (am 0)), (3, .ref qo), (4, .ref qd)]) hx hb dL_law_1933 hl (k := 7) rfl rfl (by decide) rfl (fun ls hl => ?_)
      refine lv_goto (tgt := 28) hx hb dL_law_1936 (by decide) ?_
      refine W.widen (k := kc + 5) (n := ks + 80) (by omega) (by omega) ?_
      exact K S2 M5 ov o3 (x5 + 5) _ _ ls hP hD hS (lv_sub hl [3, 4, 5, 6, 7, 0] rfl) h
    · have h := o_pos hc h
      refine lv_aload hx hb dL_law_1733 (lv_at hl 6 rfl) ?_
      refine lv_iconst (v := 0) hx hb dL_law_1735 (by decide) ?_
      obtain ⟨v7, ev7, h⟩ := o_bind h
      refine g_dald hx hb hK hP 26 34 rfl rfl ev7 dL_law_1736 ?_
      refine lv_dload hx hb dL_law_1737 (lv_at hl 0 rfl) ?_
      refine lv_dcmp hx hb dL_law_1739 ?_
      refine lv_if_eq (tgt := 1765) hx hb dL_law_1740 (by decide) (fun hc => ?_) (fun hc => ?_)
      · have h := o_pos hc h
        refine lv_goto (tgt := 1933) hx hb dL_law_1765 (by decide) ?_
        refine lv_iinc (v := (x5 + 5)) (lv' := [(5, .int (x5 + 5)), (7, .double v4), (6, .int v1), (0, .ref b), (1, .ref (ad 0)), (2, .ref (am 0)), (3, .ref qo), (4, .ref qd)]) hx hb dL_law_1933 hl (k := 7) rfl rfl (by decide) rfl (fun ls hl => ?_)
        refine lv_goto (tgt := 28) hx hb dL_law_1936 (by decide) ?_
        refine W.widen (k := kc + 5) (n := ks + 80) (by omega) (by omega) ?_
        exact K S2 M5 ov o3 (x5 + 5) _ _ ls hP hD hS (lv_sub hl [3, 4, 5, 6, 7, 0] rfl) h
      · have h := o_neg hc h
        refine lv_aload hx hb dL_law_1743 (lv_at hl 6 rfl) ?_
        refine lv_iconst (v := 0) hx hb dL_law_1745 (by decide) ?_
        obtain ⟨v8, ev8, h⟩ := o_bind h
        refine g_dald hx hb hK hP 26 34 rfl rfl ev8 dL_law_1746 ?_
        refine lv_aload hx hb dL_law_1747 (lv_at hl 6 rfl) ?_
        refine lv_iconst (v := 0) hx hb dL_law_1749 (by decide) ?_
        obtain ⟨v9, ev9, h⟩ := o_bind h
        refine g_dald hx hb hK hP 26 34 rfl rfl ev9 dL_law_1750 ?_
        refine lv_dcmp hx hb dL_law_1751 ?_
        refine lv_if_eq (tgt := 1763) hx hb dL_law_1752 (by decide) (fun hc => ?_) (fun hc => ?_)
        · have h := o_pos hc h
          refine lv_iconst (v := 0) hx hb dL_law_1763 (by decide) ?_
          exact absurd (Option.some.inj h) (by decide)
        · have h := o_neg hc h
          refine lv_dload hx hb dL_law_1755 (lv_at hl 0 rfl) ?_
          refine lv_dload hx hb dL_law_1757 (lv_at hl 0 rfl) ?_
          refine lv_dcmp hx hb dL_law_1759 ?_
          refine lv_if_ne (tgt := 1765) hx hb dL_law_1760 (by decide) (fun hc => ?_) (fun hc => ?_)
          · have h := o_neg hc h
            refine lv_goto (tgt := 1933) hx hb dL_law_1765 (by decide) ?_
            refine lv_iinc (v := (x5 + 5)) (lv' := [(5, .int (x5 + 5)), (7, .double v4), (6, .int v1), (0, .ref b), (1, .ref (ad 0)), (2, .ref (am 0)), (3, .ref qo), (4, .ref qd)]) hx hb dL_law_1933 hl (k := 7) rfl rfl (by decide) rfl (fun ls hl => ?_)
            refine lv_goto (tgt := 28) hx hb dL_law_1936 (by decide) ?_
            refine W.widen (k := kc + 5) (n := ks + 80) (by omega) (by omega) ?_
            exact K S2 M5 ov o3 (x5 + 5) _ _ ls hP hD hS (lv_sub hl [3, 4, 5, 6, 7, 0] rfl) h
          · have h := o_pos hc h
            refine lv_iconst (v := 0) hx hb dL_law_1763 (by decide) ?_
            exact absurd (Option.some.inj h) (by decide)
  · have h := o_neg hc h
    refine lv_iconst (v := 0) hx hb dL_law_1726 (by decide) ?_
    exact absurd (Option.some.inj h) (by decide)
set_option maxHeartbeats 4000000 in
set_option maxRecDepth 100000 in
theorem law_c27 {p : Program} {l : Launch} {e : Env} {s : State} {m : MethodId} {below : List Frame} {meth : Method} {c : Code} (hst : l.stackTraces = false) {b L : Nat} {xs : Nat → Int32} (C0 : lw_At p s m meth c b L xs) {D : va_G} {cy : Nat → ClassId} {ad am : Nat → Nat} {qo qd : Nat} (hK : va_K D vwCl (gT cy ++ []) s) (hE : gX (lA s) s) {rec : PS → PS → (Nat → Int64) → (Nat → UInt64) → Int32 → Option Int32} {kc ks : Nat} (hkc : kc + 5 ≤ 601024) (hks : ks + 80 ≤ 7293034) (K : lw_K p l e s m below meth c b D cy ad am qo qd rec (kc + 5) (ks + 80)) (S M : PS) (ov : Nat → Int64) (dv : Nat → UInt64) (x5 : Int32) (H : Heap) (locs : List Loc) (ls : Array Slot) (hP : va_P D vwCl (wL cy ad am qo qd S M ov dv) H) (hD : va_D (lA s) (wL cy ad am qo qd S M ov dv)) (hS : va_S (lA s) s.heap H locs) (hl : lv_has ls 9 [(0, .ref b), (1, .ref (ad 0)), (2, .ref (am 0)), (3, .ref qo), (4, .ref qd), (5, .int x5)]) (h : q_law_c27 xs L rec S M ov dv x5 = some 1) : W p l e room_1 s m #[Value.ref b] below meth c H locs kc ks (lw_Z below #[Value.ref b] s) (F0 m 1768 ls []) := by
  obtain ⟨hx, hb, hr, hml, hown, hts0, hX, hbl, hlocks, hgv⟩ := C0
  have hts : ∀ w ∈ wsL_law, w.before #[Value.ref b] s = true := fun w h => hts0 w (wsL_law_in w h)
  have hA : ∀ q : Nat, s.heap.size ≤ q → lA s q := fun _ h => h
  have hbA : ¬ lA s b := Nat.not_le.mpr hbl
  refine W.widen (k := kc + 0) (n := ks + 0) (Nat.le_refl _) (Nat.le_refl _) ?_
  unfold q_law_c27 at h
  refine lv_aload_n hx hb dL_law_1768 rfl (lv_at hl 1 rfl) ?_
  refine lv_aload_n hx hb dL_law_1769 rfl (lv_at hl 0 rfl) ?_
  refine lv_iload hx hb dL_law_1770 (lv_at hl 5 rfl) ?_
  refine lv_iconst (v := 1) hx hb dL_law_1772 (by decide) ?_
  refine lv_iadd hx hb dL_law_1773 ?_
  obtain ⟨v1, ev1, h⟩ := o_bind h
  refine g_sld hx hb hX hbl hbA hS ev1 dL_law_1774 ?_
  refine lv_aload_n hx hb dL_law_1775 rfl (lv_at hl 3 rfl) ?_
  obtain ⟨⟨S3, o4, v2⟩, ev2, h⟩ := o_bind h
  refine g_cL (As := [.ref (ad 0), .int v1, .ref qo]) (rest := []) ⟨hx, hb, hml, hown, hts⟩ (m_L_holds l hst D cy [] ad qo (dD cy qd dv :: mW cy am M []) _ S ov v1 S3 o4 v2 ev2) (vx_cwSW 3 hts gL_law_L_holds rfl rfl rfl (by decide +kernel) ⟨(Nat.le_of_ble_eq_true rfl), (Nat.le_of_ble_eq_true rfl)⟩) hP hK hD hS hA hE rfl hl.1 rfl (Nat.le_of_ble_eq_true rfl) dL_law_1776 ⟨(by show kc + 0 + 2 ≤ 601024; omega), (by show ks + 0 + 12 ≤ 7293034; omega)⟩ (fun H locs hP hD hS => ?_)
  have hP : va_P D vwCl (wL cy ad am qo qd S3 M o4 dv) H := hP
  have hD : va_D (lA s) (wL cy ad am qo qd S3 M o4 dv) := hD
  refine W.widen (k := kc + 2) (n := ks + 12) (by omega) (by omega) ?_
  refine lv_istore (lv' := [(6, .int v2), (0, .ref b), (1, .ref (ad 0)), (2, .ref (am 0)), (3, .ref qo), (4, .ref qd), (5, .int x5)]) hx hb dL_law_1779 hl (by decide) rfl (fun ls hl => ?_)
  refine lv_aload_n hx hb dL_law_1781 rfl (lv_at hl 3 rfl) ?_
  refine lv_aload_n hx hb dL_law_1782 rfl (lv_at hl 1 rfl) ?_
  refine lv_iload hx hb dL_law_1783 (lv_at hl 6 rfl) ?_
  refine lv_iconst (v := 1) hx hb dL_law_1785 (by decide) ?_
  refine lv_iadd hx hb dL_law_1786 ?_
  obtain ⟨v5, ev5, h⟩ := o_bind h
  refine g_sld hx hb hX hbl hbA hS ev5 dL_law_1787 ?_
  have hP := wL_toCP hP
  have hD := wL_toCD hD
  obtain ⟨⟨M7, v6⟩, ev6, h⟩ := o_bind h
  refine g_cVi (As := [.int v5]) (rest := []) ⟨hx, hb, hml, hown, hts⟩ (m_X6_holds l hst D cy [] am (oC cy qo o4 :: dD cy qd dv :: xW cy ad S3 []) _ M v5 M7 v6 ev6) (cwV 1 hts gL_law_X6_holds rfl rfl rfl (by decide +kernel) ⟨(Nat.le_of_ble_eq_true rfl), (Nat.le_of_ble_eq_true rfl)⟩) (va_recv hK hP (ci := 6) (q0 := 0) rfl rfl) hP hK hD hS hA hE rfl hl.1 rfl (Nat.le_of_ble_eq_true rfl) dL_law_1788 ⟨(by show kc + 2 + 0 ≤ 601024; omega), (by show ks + 12 + 0 ≤ 7293034; omega)⟩ (fun H locs hP hD hS => ?_)
  have hP := wL_ofCP hP
  have hD := wL_ofCD hD
  have hP : va_P D vwCl (wL cy ad am qo qd S3 M7 o4 dv) H := hP
  have hD : va_D (lA s) (wL cy ad am qo qd S3 M7 o4 dv) := hD
  refine W.widen (k := kc + 2) (n := ks + 12) (by omega) (by omega) ?_
  refine lv_istore (lv' := [(7, .int v6), (6, .int v2), (0, .ref b), (1, .ref (ad 0)), (2, .ref (am 0)), (3, .ref qo), (4, .ref qd), (5, .int x5)]) hx hb dL_law_1791 hl (by decide) rfl (fun ls hl => ?_)
  refine lv_aload_n hx hb dL_law_1793 rfl (lv_at hl 4 rfl) ?_
  have hP := wL_toCP hP
  have hD := wL_toCD hD
  obtain ⟨v8, ev8, h⟩ := o_bind h
  refine g_cVi (As := []) (rest := []) ⟨hx, hb, hml, hown, hts⟩ (m_X6_thrown l hst D cy [] am (oC cy qo o4 :: dD cy qd dv :: xW cy ad S3 []) _ M7  v8 ev8) (cwV 0 hts gL_law_X6_thrown rfl rfl rfl (by decide +kernel) ⟨(Nat.le_of_ble_eq_true rfl), (Nat.le_of_ble_eq_true rfl)⟩) (va_recv hK hP (ci := 6) (q0 := 0) rfl rfl) hP hK hD hS hA hE rfl hl.1 rfl (Nat.le_of_ble_eq_true rfl) dL_law_1794 ⟨(by show kc + 2 + 0 ≤ 601024; omega), (by show ks + 12 + 0 ≤ 7293034; omega)⟩ (fun H locs hP hD hS => ?_)
  have hP := wL_ofCP hP
  have hD := wL_ofCD hD
  have hP : va_P D vwCl (wL cy ad am qo qd S3 M7 o4 dv) H := hP
  have hD : va_D (lA s) (wL cy ad am qo qd S3 M7 o4 dv) := hD
  refine W.widen (k := kc + 2) (n := ks + 12) (by omega) (by omega) ?_
  refine lv_iload hx hb dL_law_1797 (lv_at hl 1 rfl) ?_
  refine lv_icmp_eq (tgt := 1804) hx hb dL_law_1799 (by decide) (fun hc => ?_) (fun hc => ?_)
  · have h := o_pos hc h
    refine lv_iload hx hb dL_law_1804 (lv_at hl 1 rfl) ?_
    refine lv_if_ne (tgt := 1828) hx hb dL_law_1806 (by decide) (fun hc => ?_) (fun hc => ?_)
    · have h := o_neg hc h
      refine lv_goto (tgt := 1933) hx hb dL_law_1828 (by decide) ?_
      refine lv_iinc (v := (x5 + 5)) (lv' := [(5, .int (x5 + 5)), (7, .int v6), (6, .int v2), (0, .ref b), (1, .ref (ad 0)), (2, .ref (am 0)), (3, .ref qo), (4, .ref qd)]) hx hb dL_law_1933 hl (k := 7) rfl rfl (by decide) rfl (fun ls hl => ?_)
      refine lv_goto (tgt := 28) hx hb dL_law_1936 (by decide) ?_
      refine W.widen (k := kc + 5) (n := ks + 80) (by omega) (by omega) ?_
      exact K S3 M7 o4 dv (x5 + 5) _ _ ls hP hD hS (lv_sub hl [3, 4, 5, 6, 7, 0] rfl) h
    · have h := o_pos hc h
      refine lv_aload_n hx hb dL_law_1809 rfl (lv_at hl 5 rfl) ?_
      refine lv_iconst (v := 0) hx hb dL_law_1810 (by decide) ?_
      obtain ⟨v9, ev9, h⟩ := o_bind h
      refine g_lald hx hb hK hP 25 33 rfl rfl ev9 dL_law_1811 ?_
      refine lv_iload hx hb dL_law_1812 (lv_at hl 0 rfl) ?_
      refine lv_if_eq (tgt := 1821) hx hb dL_law_1814 (by decide) (fun hc => ?_) (fun hc => ?_)
      · have h := o_pos hc h
        refine lv_lconst (v := 0) hx hb dL_law_1821 (by decide) ?_
        refine W.lcmp hx hb dL_law_1822 ?_
        refine lv_if_eq (tgt := 1828) hx hb dL_law_1823 (by decide) (fun hc => ?_) (fun hc => ?_)
        · have h := o_pos hc h
          refine lv_goto (tgt := 1933) hx hb dL_law_1828 (by decide) ?_
          refine lv_iinc (v := (x5 + 5)) (lv' := [(5, .int (x5 + 5)), (7, .int v6), (6, .int v2), (0, .ref b), (1, .ref (ad 0)), (2, .ref (am 0)), (3, .ref qo), (4, .ref qd)]) hx hb dL_law_1933 hl (k := 7) rfl rfl (by decide) rfl (fun ls hl => ?_)
          refine lv_goto (tgt := 28) hx hb dL_law_1936 (by decide) ?_
          refine W.widen (k := kc + 5) (n := ks + 80) (by omega) (by omega) ?_
          exact K S3 M7 o4 dv (x5 + 5) _ _ ls hP hD hS (lv_sub hl [3, 4, 5, 6, 7, 0] rfl) h
        · have h := o_neg hc h
          refine lv_iconst (v := 0) hx hb dL_law_1826 (by decide) ?_
          exact absurd (Option.some.inj h) (by decide)
      · have h := o_neg hc h
        refine lv_lconst (v := 1) hx hb dL_law_1817 (by decide) ?_
        refine lv_goto (tgt := 1822) hx hb dL_law_1818 (by decide) ?_
        refine W.lcmp hx hb dL_law_1822 ?_
        refine lv_if_eq (tgt := 1828) hx hb dL_law_1823 (by decide) (fun hc => ?_) (fun hc => ?_)
        · have h := o_pos hc h
          refine lv_goto (tgt := 1933) hx hb dL_law_1828 (by decide) ?_
          refine lv_iinc (v := (x5 + 5)) (lv' := [(5, .int (x5 + 5)), (7, .int v6), (6, .int v2), (0, .ref b), (1, .ref (ad 0)), (2, .ref (am 0)), (3, .ref qo), (4, .ref qd)]) hx hb dL_law_1933 hl (k := 7) rfl rfl (by decide) rfl (fun ls hl => ?_)
          refine lv_goto (tgt := 28) hx hb dL_law_1936 (by decide) ?_
          refine W.widen (k := kc + 5) (n := ks + 80) (by omega) (by omega) ?_
          exact K S3 M7 o4 dv (x5 + 5) _ _ ls hP hD hS (lv_sub hl [3, 4, 5, 6, 7, 0] rfl) h
        · have h := o_neg hc h
          refine lv_iconst (v := 0) hx hb dL_law_1826 (by decide) ?_
          exact absurd (Option.some.inj h) (by decide)
  · have h := o_neg hc h
    refine lv_iconst (v := 0) hx hb dL_law_1802 (by decide) ?_
    exact absurd (Option.some.inj h) (by decide)
set_option maxHeartbeats 4000000 in
set_option maxRecDepth 100000 in
theorem law_c28 {p : Program} {l : Launch} {e : Env} {s : State} {m : MethodId} {below : List Frame} {meth : Method} {c : Code} (hst : l.stackTraces = false) {b L : Nat} {xs : Nat → Int32} (C0 : lw_At p s m meth c b L xs) {D : va_G} {cy : Nat → ClassId} {ad am : Nat → Nat} {qo qd : Nat} (hK : va_K D vwCl (gT cy ++ []) s) (hE : gX (lA s) s) {rec : PS → PS → (Nat → Int64) → (Nat → UInt64) → Int32 → Option Int32} {kc ks : Nat} (hkc : kc + 5 ≤ 601024) (hks : ks + 80 ≤ 7293034) (K : lw_K p l e s m below meth c b D cy ad am qo qd rec (kc + 5) (ks + 80)) (S M : PS) (ov : Nat → Int64) (dv : Nat → UInt64) (x5 : Int32) (H : Heap) (locs : List Loc) (ls : Array Slot) (hP : va_P D vwCl (wL cy ad am qo qd S M ov dv) H) (hD : va_D (lA s) (wL cy ad am qo qd S M ov dv)) (hS : va_S (lA s) s.heap H locs) (hl : lv_has ls 9 [(0, .ref b), (1, .ref (ad 0)), (2, .ref (am 0)), (3, .ref qo), (4, .ref qd), (5, .int x5)]) (h : q_law_c28 xs L rec S M ov dv x5 = some 1) : W p l e room_1 s m #[Value.ref b] below meth c H locs kc ks (lw_Z below #[Value.ref b] s) (F0 m 1831 ls []) := by
  obtain ⟨hx, hb, hr, hml, hown, hts0, hX, hbl, hlocks, hgv⟩ := C0
  have hts : ∀ w ∈ wsL_law, w.before #[Value.ref b] s = true := fun w h => hts0 w (wsL_law_in w h)
  have hA : ∀ q : Nat, s.heap.size ≤ q → lA s q := fun _ h => h
  have hbA : ¬ lA s b := Nat.not_le.mpr hbl
  refine W.widen (k := kc + 0) (n := ks + 0) (Nat.le_refl _) (Nat.le_refl _) ?_
  unfold q_law_c28 at h
  refine lv_aload_n hx hb dL_law_1831 rfl (lv_at hl 1 rfl) ?_
  refine lv_aload_n hx hb dL_law_1832 rfl (lv_at hl 3 rfl) ?_
  obtain ⟨⟨S2, o3, v1⟩, ev1, h⟩ := o_bind h
  refine g_cL (As := [.ref (ad 0), .ref qo]) (rest := []) ⟨hx, hb, hml, hown, hts⟩ (m_L_firstBroken l hst D cy [] ad qo (dD cy qd dv :: mW cy am M []) _ S ov  S2 o3 v1 ev1) (vx_cwSW 2 hts gL_law_L_firstBroken rfl rfl rfl (by decide +kernel) ⟨(Nat.le_of_ble_eq_true rfl), (Nat.le_of_ble_eq_true rfl)⟩) hP hK hD hS hA hE rfl hl.1 rfl (Nat.le_of_ble_eq_true rfl) dL_law_1833 ⟨(by show kc + 0 + 1 ≤ 601024; omega), (by show ks + 0 + 6 ≤ 7293034; omega)⟩ (fun H locs hP hD hS => ?_)
  have hP : va_P D vwCl (wL cy ad am qo qd S2 M o3 dv) H := hP
  have hD : va_D (lA s) (wL cy ad am qo qd S2 M o3 dv) := hD
  refine W.widen (k := kc + 1) (n := ks + 6) (by omega) (by omega) ?_
  refine lv_istore (lv' := [(6, .int v1), (0, .ref b), (1, .ref (ad 0)), (2, .ref (am 0)), (3, .ref qo), (4, .ref qd), (5, .int x5)]) hx hb dL_law_1836 hl (by decide) rfl (fun ls hl => ?_)
  refine lv_aload_n hx hb dL_law_1838 rfl (lv_at hl 3 rfl) ?_
  have hP := wL_toCP hP
  have hD := wL_toCD hD
  obtain ⟨⟨M5, v4⟩, ev4, h⟩ := o_bind h
  refine g_cVi (As := []) (rest := []) ⟨hx, hb, hml, hown, hts⟩ (m_X6_firstBroken l hst D cy [] am (oC cy qo o3 :: dD cy qd dv :: xW cy ad S2 []) _ M  M5 v4 ev4) (cwV 0 hts gL_law_X6_firstBroken rfl rfl rfl (by decide +kernel) ⟨(Nat.le_of_ble_eq_true rfl), (Nat.le_of_ble_eq_true rfl)⟩) (va_recv hK hP (ci := 6) (q0 := 0) rfl rfl) hP hK hD hS hA hE rfl hl.1 rfl (Nat.le_of_ble_eq_true rfl) dL_law_1839 ⟨(by show kc + 1 + 0 ≤ 601024; omega), (by show ks + 6 + 0 ≤ 7293034; omega)⟩ (fun H locs hP hD hS => ?_)
  have hP := wL_ofCP hP
  have hD := wL_ofCD hD
  have hP : va_P D vwCl (wL cy ad am qo qd S2 M5 o3 dv) H := hP
  have hD : va_D (lA s) (wL cy ad am qo qd S2 M5 o3 dv) := hD
  refine W.widen (k := kc + 1) (n := ks + 6) (by omega) (by omega) ?_
  refine lv_istore (lv' := [(7, .int v4), (6, .int v1), (0, .ref b), (1, .ref (ad 0)), (2, .ref (am 0)), (3, .ref qo), (4, .ref qd), (5, .int x5)]) hx hb dL_law_1842 hl (by decide) rfl (fun ls hl => ?_)
  refine lv_aload_n hx hb dL_law_1844 rfl (lv_at hl 4 rfl) ?_
  have hP := wL_toCP hP
  have hD := wL_toCD hD
  obtain ⟨v6, ev6, h⟩ := o_bind h
  refine g_cVi (As := []) (rest := []) ⟨hx, hb, hml, hown, hts⟩ (m_X6_thrown l hst D cy [] am (oC cy qo o3 :: dD cy qd dv :: xW cy ad S2 []) _ M5  v6 ev6) (cwV 0 hts gL_law_X6_thrown rfl rfl rfl (by decide +kernel) ⟨(Nat.le_of_ble_eq_true rfl), (Nat.le_of_ble_eq_true rfl)⟩) (va_recv hK hP (ci := 6) (q0 := 0) rfl rfl) hP hK hD hS hA hE rfl hl.1 rfl (Nat.le_of_ble_eq_true rfl) dL_law_1845 ⟨(by show kc + 1 + 0 ≤ 601024; omega), (by show ks + 6 + 0 ≤ 7293034; omega)⟩ (fun H locs hP hD hS => ?_)
  have hP := wL_ofCP hP
  have hD := wL_ofCD hD
  have hP : va_P D vwCl (wL cy ad am qo qd S2 M5 o3 dv) H := hP
  have hD : va_D (lA s) (wL cy ad am qo qd S2 M5 o3 dv) := hD
  refine W.widen (k := kc + 1) (n := ks + 6) (by omega) (by omega) ?_
  refine lv_iload hx hb dL_law_1848 (lv_at hl 1 rfl) ?_
  refine lv_icmp_eq (tgt := 1855) hx hb dL_law_1850 (by decide) (fun hc => ?_) (fun hc => ?_)
  · have h := o_pos hc h
    refine lv_iload hx hb dL_law_1855 (lv_at hl 1 rfl) ?_
    refine lv_if_ne (tgt := 1872) hx hb dL_law_1857 (by decide) (fun hc => ?_) (fun hc => ?_)
    · have h := o_neg hc h
      refine lv_goto (tgt := 1933) hx hb dL_law_1872 (by decide) ?_
      refine lv_iinc (v := (x5 + 5)) (lv' := [(5, .int (x5 + 5)), (7, .int v4), (6, .int v1), (0, .ref b), (1, .ref (ad 0)), (2, .ref (am 0)), (3, .ref qo), (4, .ref qd)]) hx hb dL_law_1933 hl (k := 7) rfl rfl (by decide) rfl (fun ls hl => ?_)
      refine lv_goto (tgt := 28) hx hb dL_law_1936 (by decide) ?_
      refine W.widen (k := kc + 5) (n := ks + 80) (by omega) (by omega) ?_
      exact K S2 M5 o3 dv (x5 + 5) _ _ ls hP hD hS (lv_sub hl [3, 4, 5, 6, 7, 0] rfl) h
    · have h := o_pos hc h
      refine lv_aload_n hx hb dL_law_1860 rfl (lv_at hl 5 rfl) ?_
      refine lv_iconst (v := 0) hx hb dL_law_1861 (by decide) ?_
      obtain ⟨v7, ev7, h⟩ := o_bind h
      refine g_lald hx hb hK hP 25 33 rfl rfl ev7 dL_law_1862 ?_
      refine lv_iload hx hb dL_law_1863 (lv_at hl 0 rfl) ?_
      refine lv_i2l (v := ((v4 : Int32).toInt64)) hx hb dL_law_1865 rfl ?_
      refine W.lcmp hx hb dL_law_1866 ?_
      refine lv_if_eq (tgt := 1872) hx hb dL_law_1867 (by decide) (fun hc => ?_) (fun hc => ?_)
      · have h := o_pos hc h
        refine lv_goto (tgt := 1933) hx hb dL_law_1872 (by decide) ?_
        refine lv_iinc (v := (x5 + 5)) (lv' := [(5, .int (x5 + 5)), (7, .int v4), (6, .int v1), (0, .ref b), (1, .ref (ad 0)), (2, .ref (am 0)), (3, .ref qo), (4, .ref qd)]) hx hb dL_law_1933 hl (k := 7) rfl rfl (by decide) rfl (fun ls hl => ?_)
        refine lv_goto (tgt := 28) hx hb dL_law_1936 (by decide) ?_
        refine W.widen (k := kc + 5) (n := ks + 80) (by omega) (by omega) ?_
        exact K S2 M5 o3 dv (x5 + 5) _ _ ls hP hD hS (lv_sub hl [3, 4, 5, 6, 7, 0] rfl) h
      · have h := o_neg hc h
        refine lv_iconst (v := 0) hx hb dL_law_1870 (by decide) ?_
        exact absurd (Option.some.inj h) (by decide)
  · have h := o_neg hc h
    refine lv_iconst (v := 0) hx hb dL_law_1853 (by decide) ?_
    exact absurd (Option.some.inj h) (by decide)
set_option maxHeartbeats 4000000 in
set_option maxRecDepth 100000 in
theorem law_c29 {p : Program} {l : Launch} {e : Env} {s : State} {m : MethodId} {below : List Frame} {meth : Method} {c : Code} (hst : l.stackTraces = false) {b L : Nat} {xs : Nat → Int32} (C0 : lw_At p s m meth c b L xs) {D : va_G} {cy : Nat → ClassId} {ad am : Nat → Nat} {qo qd : Nat} (hK : va_K D vwCl (gT cy ++ []) s) (hE : gX (lA s) s) {rec : PS → PS → (Nat → Int64) → (Nat → UInt64) → Int32 → Option Int32} {kc ks : Nat} (hkc : kc + 5 ≤ 601024) (hks : ks + 80 ≤ 7293034) (K : lw_K p l e s m below meth c b D cy ad am qo qd rec (kc + 5) (ks + 80)) (S M : PS) (ov : Nat → Int64) (dv : Nat → UInt64) (x5 : Int32) (H : Heap) (locs : List Loc) (ls : Array Slot) (hP : va_P D vwCl (wL cy ad am qo qd S M ov dv) H) (hD : va_D (lA s) (wL cy ad am qo qd S M ov dv)) (hS : va_S (lA s) s.heap H locs) (hl : lv_has ls 9 [(0, .ref b), (1, .ref (ad 0)), (2, .ref (am 0)), (3, .ref qo), (4, .ref qd), (5, .int x5)]) (h : q_law_c29 xs L rec S M ov dv x5 = some 1) : W p l e room_1 s m #[Value.ref b] below meth c H locs kc ks (lw_Z below #[Value.ref b] s) (F0 m 1875 ls []) := by
  obtain ⟨hx, hb, hr, hml, hown, hts0, hX, hbl, hlocks, hgv⟩ := C0
  have hts : ∀ w ∈ wsL_law, w.before #[Value.ref b] s = true := fun w h => hts0 w (wsL_law_in w h)
  have hA : ∀ q : Nat, s.heap.size ≤ q → lA s q := fun _ h => h
  have hbA : ¬ lA s b := Nat.not_le.mpr hbl
  refine W.widen (k := kc + 0) (n := ks + 0) (Nat.le_refl _) (Nat.le_refl _) ?_
  unfold q_law_c29 at h
  refine lv_aload_n hx hb dL_law_1875 rfl (lv_at hl 1 rfl) ?_
  refine lv_aload_n hx hb dL_law_1876 rfl (lv_at hl 3 rfl) ?_
  obtain ⟨⟨S2, o3, v1⟩, ev1, h⟩ := o_bind h
  refine g_cL (As := [.ref (ad 0), .ref qo]) (rest := []) ⟨hx, hb, hml, hown, hts⟩ (m_L_prune l hst D cy [] ad qo (dD cy qd dv :: mW cy am M []) _ S ov  S2 o3 v1 ev1) (vx_cwSW 2 hts gL_law_L_prune rfl rfl rfl (by decide +kernel) ⟨(Nat.le_of_ble_eq_true rfl), (Nat.le_of_ble_eq_true rfl)⟩) hP hK hD hS hA hE rfl hl.1 rfl (Nat.le_of_ble_eq_true rfl) dL_law_1877 ⟨(by show kc + 0 + 1 ≤ 601024; omega), (by show ks + 0 + 6 ≤ 7293034; omega)⟩ (fun H locs hP hD hS => ?_)
  have hP : va_P D vwCl (wL cy ad am qo qd S2 M o3 dv) H := hP
  have hD : va_D (lA s) (wL cy ad am qo qd S2 M o3 dv) := hD
  refine W.widen (k := kc + 1) (n := ks + 6) (by omega) (by omega) ?_
  refine lv_istore (lv' := [(6, .int v1), (0, .ref b), (1, .ref (ad 0)), (2, .ref (am 0)), (3, .ref qo), (4, .ref qd), (5, .int x5)]) hx hb dL_law_1880 hl (by decide) rfl (fun ls hl => ?_)
  refine lv_aload_n hx hb dL_law_1882 rfl (lv_at hl 3 rfl) ?_
  have hP := wL_toCP hP
  have hD := wL_toCD hD
  obtain ⟨⟨M5, v4⟩, ev4, h⟩ := o_bind h
  refine g_cVi (As := []) (rest := []) ⟨hx, hb, hml, hown, hts⟩ (m_X6_prune l hst D cy [] am (oC cy qo o3 :: dD cy qd dv :: xW cy ad S2 []) _ M  M5 v4 ev4) (cwV 0 hts gL_law_X6_prune rfl rfl rfl (by decide +kernel) ⟨(Nat.le_of_ble_eq_true rfl), (Nat.le_of_ble_eq_true rfl)⟩) (va_recv hK hP (ci := 6) (q0 := 0) rfl rfl) hP hK hD hS hA hE rfl hl.1 rfl (Nat.le_of_ble_eq_true rfl) dL_law_1883 ⟨(by show kc + 1 + 1 ≤ 601024; omega), (by show ks + 6 + 50 ≤ 7293034; omega)⟩ (fun H locs hP hD hS => ?_)
  have hP := wL_ofCP hP
  have hD := wL_ofCD hD
  have hP : va_P D vwCl (wL cy ad am qo qd S2 M5 o3 dv) H := hP
  have hD : va_D (lA s) (wL cy ad am qo qd S2 M5 o3 dv) := hD
  refine W.widen (k := kc + 2) (n := ks + 56) (by omega) (by omega) ?_
  refine lv_istore (lv' := [(7, .int v4), (6, .int v1), (0, .ref b), (1, .ref (ad 0)), (2, .ref (am 0)), (3, .ref qo), (4, .ref qd), (5, .int x5)]) hx hb dL_law_1886 hl (by decide) rfl (fun ls hl => ?_)
  refine lv_aload_n hx hb dL_law_1888 rfl (lv_at hl 4 rfl) ?_
  have hP := wL_toCP hP
  have hD := wL_toCD hD
  obtain ⟨v6, ev6, h⟩ := o_bind h
  refine g_cVi (As := []) (rest := []) ⟨hx, hb, hml, hown, hts⟩ (m_X6_thrown l hst D cy [] am (oC cy qo o3 :: dD cy qd dv :: xW cy ad S2 []) _ M5  v6 ev6) (cwV 0 hts gL_law_X6_thrown rfl rfl rfl (by decide +kernel) ⟨(Nat.le_of_ble_eq_true rfl), (Nat.le_of_ble_eq_true rfl)⟩) (va_recv hK hP (ci := 6) (q0 := 0) rfl rfl) hP hK hD hS hA hE rfl hl.1 rfl (Nat.le_of_ble_eq_true rfl) dL_law_1889 ⟨(by show kc + 2 + 0 ≤ 601024; omega), (by show ks + 56 + 0 ≤ 7293034; omega)⟩ (fun H locs hP hD hS => ?_)
  have hP := wL_ofCP hP
  have hD := wL_ofCD hD
  have hP : va_P D vwCl (wL cy ad am qo qd S2 M5 o3 dv) H := hP
  have hD : va_D (lA s) (wL cy ad am qo qd S2 M5 o3 dv) := hD
  refine W.widen (k := kc + 2) (n := ks + 56) (by omega) (by omega) ?_
  refine lv_iload hx hb dL_law_1892 (lv_at hl 1 rfl) ?_
  refine lv_icmp_eq (tgt := 1899) hx hb dL_law_1894 (by decide) (fun hc => ?_) (fun hc => ?_)
  · have h := o_pos hc h
    refine lv_iload hx hb dL_law_1899 (lv_at hl 1 rfl) ?_
    refine lv_if_ne (tgt := 1916) hx hb dL_law_1901 (by decide) (fun hc => ?_) (fun hc => ?_)
    · have h := o_neg hc h
      refine lv_goto (tgt := 1933) hx hb dL_law_1916 (by decide) ?_
      refine lv_iinc (v := (x5 + 5)) (lv' := [(5, .int (x5 + 5)), (7, .int v4), (6, .int v1), (0, .ref b), (1, .ref (ad 0)), (2, .ref (am 0)), (3, .ref qo), (4, .ref qd)]) hx hb dL_law_1933 hl (k := 7) rfl rfl (by decide) rfl (fun ls hl => ?_)
      refine lv_goto (tgt := 28) hx hb dL_law_1936 (by decide) ?_
      refine W.widen (k := kc + 5) (n := ks + 80) (by omega) (by omega) ?_
      exact K S2 M5 o3 dv (x5 + 5) _ _ ls hP hD hS (lv_sub hl [3, 4, 5, 6, 7, 0] rfl) h
    · have h := o_pos hc h
      refine lv_aload_n hx hb dL_law_1904 rfl (lv_at hl 5 rfl) ?_
      refine lv_iconst (v := 0) hx hb dL_law_1905 (by decide) ?_
      obtain ⟨v7, ev7, h⟩ := o_bind h
      refine g_lald hx hb hK hP 25 33 rfl rfl ev7 dL_law_1906 ?_
      refine lv_iload hx hb dL_law_1907 (lv_at hl 0 rfl) ?_
      refine lv_i2l (v := ((v4 : Int32).toInt64)) hx hb dL_law_1909 rfl ?_
      refine W.lcmp hx hb dL_law_1910 ?_
      refine lv_if_eq (tgt := 1916) hx hb dL_law_1911 (by decide) (fun hc => ?_) (fun hc => ?_)
      · have h := o_pos hc h
        refine lv_goto (tgt := 1933) hx hb dL_law_1916 (by decide) ?_
        refine lv_iinc (v := (x5 + 5)) (lv' := [(5, .int (x5 + 5)), (7, .int v4), (6, .int v1), (0, .ref b), (1, .ref (ad 0)), (2, .ref (am 0)), (3, .ref qo), (4, .ref qd)]) hx hb dL_law_1933 hl (k := 7) rfl rfl (by decide) rfl (fun ls hl => ?_)
        refine lv_goto (tgt := 28) hx hb dL_law_1936 (by decide) ?_
        refine W.widen (k := kc + 5) (n := ks + 80) (by omega) (by omega) ?_
        exact K S2 M5 o3 dv (x5 + 5) _ _ ls hP hD hS (lv_sub hl [3, 4, 5, 6, 7, 0] rfl) h
      · have h := o_neg hc h
        refine lv_iconst (v := 0) hx hb dL_law_1914 (by decide) ?_
        exact absurd (Option.some.inj h) (by decide)
  · have h := o_neg hc h
    refine lv_iconst (v := 0) hx hb dL_law_1897 (by decide) ?_
    exact absurd (Option.some.inj h) (by decide)
set_option maxHeartbeats 4000000 in
set_option maxRecDepth 100000 in
theorem law_c30 {p : Program} {l : Launch} {e : Env} {s : State} {m : MethodId} {below : List Frame} {meth : Method} {c : Code} (hst : l.stackTraces = false) {b L : Nat} {xs : Nat → Int32} (C0 : lw_At p s m meth c b L xs) {D : va_G} {cy : Nat → ClassId} {ad am : Nat → Nat} {qo qd : Nat} (hK : va_K D vwCl (gT cy ++ []) s) (hE : gX (lA s) s) {rec : PS → PS → (Nat → Int64) → (Nat → UInt64) → Int32 → Option Int32} {kc ks : Nat} (hkc : kc + 5 ≤ 601024) (hks : ks + 80 ≤ 7293034) (K : lw_K p l e s m below meth c b D cy ad am qo qd rec (kc + 5) (ks + 80)) (S M : PS) (ov : Nat → Int64) (dv : Nat → UInt64) (x5 : Int32) (H : Heap) (locs : List Loc) (ls : Array Slot) (hP : va_P D vwCl (wL cy ad am qo qd S M ov dv) H) (hD : va_D (lA s) (wL cy ad am qo qd S M ov dv)) (hS : va_S (lA s) s.heap H locs) (hl : lv_has ls 9 [(0, .ref b), (1, .ref (ad 0)), (2, .ref (am 0)), (3, .ref qo), (4, .ref qd), (5, .int x5)]) (h : q_law_c30 xs L rec S M ov dv x5 = some 1) : W p l e room_1 s m #[Value.ref b] below meth c H locs kc ks (lw_Z below #[Value.ref b] s) (F0 m 1919 ls []) := by
  obtain ⟨hx, hb, hr, hml, hown, hts0, hX, hbl, hlocks, hgv⟩ := C0
  have hts : ∀ w ∈ wsL_law, w.before #[Value.ref b] s = true := fun w h => hts0 w (wsL_law_in w h)
  have hA : ∀ q : Nat, s.heap.size ≤ q → lA s q := fun _ h => h
  have hbA : ¬ lA s b := Nat.not_le.mpr hbl
  refine W.widen (k := kc + 0) (n := ks + 0) (Nat.le_refl _) (Nat.le_refl _) ?_
  unfold q_law_c30 at h
  refine lv_aload_n hx hb dL_law_1919 rfl (lv_at hl 1 rfl) ?_
  obtain ⟨v1, ev1, h⟩ := o_bind h
  refine g_cVl (As := []) (rest := []) ⟨hx, hb, hml, hown, hts⟩ (m_X5_digest l hst D cy [] ad (oC cy qo ov :: dD cy qd dv :: mW cy am M []) _ S  v1 ev1) (cwV 0 hts gL_law_X5_digest rfl rfl rfl (by decide +kernel) ⟨(Nat.le_of_ble_eq_true rfl), (Nat.le_of_ble_eq_true rfl)⟩) (va_recv hK hP (ci := 5) (q0 := 0) rfl rfl) hP hK hD hS hA hE rfl hl.1 rfl (Nat.le_of_ble_eq_true rfl) dL_law_1920 ⟨(by show kc + 0 + 0 ≤ 601024; omega), (by show ks + 0 + 0 ≤ 7293034; omega)⟩ (fun H locs hP hD hS => ?_)
  have hP : va_P D vwCl (wL cy ad am qo qd S M ov dv) H := hP
  have hD : va_D (lA s) (wL cy ad am qo qd S M ov dv) := hD
  refine W.widen (k := kc + 0) (n := ks + 0) (by omega) (by omega) ?_
  refine lv_aload_n hx hb dL_law_1923 rfl (lv_at hl 2 rfl) ?_
  have hP := wL_toCP hP
  have hD := wL_toCD hD
  obtain ⟨⟨M3, v2⟩, ev2, h⟩ := o_bind h
  refine g_cVl (As := []) (rest := [.long v1]) ⟨hx, hb, hml, hown, hts⟩ (m_X6_digest l hst D cy [] am (oC cy qo ov :: dD cy qd dv :: xW cy ad S []) _ M  M3 v2 ev2) (cwV 0 hts gL_law_X6_digest rfl rfl rfl (by decide +kernel) ⟨(Nat.le_of_ble_eq_true rfl), (Nat.le_of_ble_eq_true rfl)⟩) (va_recv hK hP (ci := 6) (q0 := 0) rfl rfl) hP hK hD hS hA hE rfl hl.1 rfl (Nat.le_of_ble_eq_true rfl) dL_law_1924 ⟨(by show kc + 0 + 0 ≤ 601024; omega), (by show ks + 0 + 0 ≤ 7293034; omega)⟩ (fun H locs hP hD hS => ?_)
  have hP := wL_ofCP hP
  have hD := wL_ofCD hD
  have hP : va_P D vwCl (wL cy ad am qo qd S M3 ov dv) H := hP
  have hD : va_D (lA s) (wL cy ad am qo qd S M3 ov dv) := hD
  refine W.widen (k := kc + 0) (n := ks + 0) (by omega) (by omega) ?_
  refine W.lcmp hx hb dL_law_1927 ?_
  refine lv_if_eq (tgt := 1933) hx hb dL_law_1928 (by decide) (fun hc => ?_) (fun hc => ?_)
  · have h := o_pos hc h
    refine lv_iinc (v := (x5 + 5)) (lv' := [(5, .int (x5 + 5)), (0, .ref b), (1, .ref (ad 0)), (2, .ref (am 0)), (3, .ref qo), (4, .ref qd)]) hx hb dL_law_1933 hl (k := 5) rfl rfl (by decide) rfl (fun ls hl => ?_)
    refine lv_goto (tgt := 28) hx hb dL_law_1936 (by decide) ?_
    refine W.widen (k := kc + 5) (n := ks + 80) (by omega) (by omega) ?_
    exact K S M3 ov dv (x5 + 5) _ _ ls hP hD hS (lv_sub hl [1, 2, 3, 4, 5, 0] rfl) h
  · have h := o_neg hc h
    refine lv_iconst (v := 0) hx hb dL_law_1931 (by decide) ?_
    exact absurd (Option.some.inj h) (by decide)
