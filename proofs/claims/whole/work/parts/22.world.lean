/-- the classes of the arrays -/
def gT (cy : Nat → ClassId) : List (ClassId × FieldType) := [(cy 0, .int), (cy 1, .boolean), (cy 2, .int), (cy 3, .int), (cy 4, .int), (cy 5, .int), (cy 6, .int), (cy 7, .int), (cy 8, .int), (cy 9, .int), (cy 10, .int), (cy 11, .int), (cy 12, .int), (cy 13, .int), (cy 14, .int), (cy 15, .int), (cy 16, .int), (cy 17, .int), (cy 18, .int), (cy 19, .int), (cy 20, .boolean), (cy 21, .int), (cy 22, .int), (cy 23, .int), (cy 24, .int), (cy 25, .int), (cy 26, .int), (cy 27, .int), (cy 28, .int), (cy 29, .int), (cy 30, .int), (cy 31, .int), (cy 32, .int), (cy 33, .long), (cy 34, .double)]
/-- the cells of the class: six objects, nineteen rows -/
def xW (cy : Nat → ClassId) (ad : Nat → Nat) (S : PS) (R : va_W) : va_W :=
  (ad 0, .inr (5, [.ref (ad 1), .ref (ad 2), .ref (ad 3), .ref (ad 4)])) ::
  (ad 1, .inr (0, [.int (S.1 0), .ref (ad 6), .ref (ad 7), .ref (ad 8)])) ::
  (ad 2, .inr (2, [.int (S.1 1), .ref (ad 9), .ref (ad 10), .ref (ad 11), .ref (ad 1), .ref (ad 12), .ref (ad 13), .ref (ad 14)])) ::
  (ad 3, .inr (1, [.int (S.1 2), .int (S.1 3), .int (S.1 4)])) ::
  (ad 4, .inr (3, [.int (S.1 5), .int (S.1 6), .ref (ad 15), .ref (ad 16), .ref (ad 17), .ref (ad 18), .ref (ad 19), .ref (ad 20), .ref (ad 21), .ref (ad 2), .ref (ad 3), .ref (ad 5), .ref (ad 22)])) ::
  (ad 5, .inr (4, [.int (S.1 7), .ref (ad 23), .ref (ad 24)])) ::
  (ad 6, .inl (cy 0, 16, .inl (S.2 0))) ::
  (ad 7, .inl (cy 1, 16, .inl (S.2 1))) ::
  (ad 8, .inl (cy 2, 16, .inl (S.2 2))) ::
  (ad 9, .inl (cy 3, 30, .inl (S.2 3))) ::
  (ad 10, .inl (cy 4, 30, .inl (S.2 4))) ::
  (ad 11, .inl (cy 5, 240, .inl (S.2 5))) ::
  (ad 12, .inl (cy 6, 240, .inl (S.2 6))) ::
  (ad 13, .inl (cy 7, 240, .inl (S.2 7))) ::
  (ad 14, .inl (cy 8, 128, .inl (S.2 8))) ::
  (ad 15, .inl (cy 9, 50, .inl (S.2 9))) ::
  (ad 16, .inl (cy 10, 50, .inl (S.2 10))) ::
  (ad 17, .inl (cy 11, 50, .inl (S.2 11))) ::
  (ad 18, .inl (cy 12, 50, .inl (S.2 12))) ::
  (ad 19, .inl (cy 13, 400, .inl (S.2 13))) ::
  (ad 20, .inl (cy 14, 400, .inl (S.2 14))) ::
  (ad 21, .inl (cy 15, 400, .inl (S.2 15))) ::
  (ad 22, .inl (cy 16, 50, .inl (S.2 16))) ::
  (ad 23, .inl (cy 17, 400, .inl (S.2 17))) ::
  (ad 24, .inl (cy 18, 400, .inl (S.2 18))) :: R
/-- the cells of the reference: one object, fourteen rows -/
def mW (cy : Nat → ClassId) (ad : Nat → Nat) (S : PS) (R : va_W) : va_W :=
  (ad 0, .inr (6, [.int (S.1 0), .int (S.1 1), .ref (ad 1), .ref (ad 2), .int (S.1 2), .ref (ad 3), .ref (ad 4), .ref (ad 5), .ref (ad 6), .ref (ad 7), .int (S.1 3), .int (S.1 4), .int (S.1 5), .int (S.1 6), .int (S.1 7), .ref (ad 8), .ref (ad 9), .ref (ad 10), .ref (ad 11), .ref (ad 12), .ref (ad 13), .ref (ad 14)])) ::
  (ad 1, .inl (cy 19, 16, .inl (S.2 0))) ::
  (ad 2, .inl (cy 20, 16, .inl (S.2 1))) ::
  (ad 3, .inl (cy 21, 30, .inl (S.2 2))) ::
  (ad 4, .inl (cy 22, 30, .inl (S.2 3))) ::
  (ad 5, .inl (cy 23, 30, .inl (S.2 4))) ::
  (ad 6, .inl (cy 24, 30, .inl (S.2 5))) ::
  (ad 7, .inl (cy 25, 720, .inl (S.2 6))) ::
  (ad 8, .inl (cy 26, 50, .inl (S.2 7))) ::
  (ad 9, .inl (cy 27, 50, .inl (S.2 8))) ::
  (ad 10, .inl (cy 28, 50, .inl (S.2 9))) ::
  (ad 11, .inl (cy 29, 50, .inl (S.2 10))) ::
  (ad 12, .inl (cy 30, 50, .inl (S.2 11))) ::
  (ad 13, .inl (cy 31, 400, .inl (S.2 12))) ::
  (ad 14, .inl (cy 32, 400, .inl (S.2 13))) :: R
theorem xW_app (cy : Nat → ClassId) (ad : Nat → Nat) (S : PS) (R : va_W) : xW cy ad S R = xW cy ad S [] ++ R := rfl
theorem mW_app (cy : Nat → ClassId) (ad : Nat → Nat) (S : PS) (R : va_W) : mW cy ad S R = mW cy ad S [] ++ R := rfl
theorem vaP_iff {D : va_G} {cl : List vw_C} {ws : va_W} {H : Heap} : va_P D cl ws H ↔ ∀ q ∈ ws, va_at D cl q H := by
  constructor
  · intro h q hq
    obtain ⟨k, hk⟩ := List.getElem?_of_mem hq
    exact h k q hk
  · intro h k q hk
    exact h q (List.mem_of_getElem? hk)
theorem vaD_iff {A : Nat → Prop} {ws : va_W} : va_D A ws ↔ (ws.map Prod.fst).Nodup ∧ ∀ q ∈ ws, A q.1 := by
  constructor
  · intro h
    refine ⟨?_, fun q hq => ?_⟩
    · refine List.pairwise_iff_getElem.mpr (fun i j hi hj hij heq => ?_)
      have hj' : j < ws.length := by simpa using hj
      have hi' : i < ws.length := by simpa using hi
      have e1 : ws[i]? = some ws[i] := List.getElem?_eq_getElem hi'
      have e2 : ws[j]? = some ws[j] := List.getElem?_eq_getElem hj'
      rw [List.getElem_map, List.getElem_map] at heq
      have h3 := h.1 i j _ _ e1 e2 heq
      omega
    · obtain ⟨k, hk⟩ := List.getElem?_of_mem hq
      exact h.2 k q hk
  · intro h
    have hn := List.pairwise_iff_getElem.mp h.1
    have key : ∀ (i j : Nat) (p q : Nat × va_E), ws[i]? = some p → ws[j]? = some q → p.1 = q.1 → ¬ i < j := by
      intro i j p q hi hj hpq hij
      obtain ⟨hi1, hi2⟩ := List.getElem?_eq_some_iff.mp hi
      obtain ⟨hj1, hj2⟩ := List.getElem?_eq_some_iff.mp hj
      refine hn i j (by simpa using hi1) (by simpa using hj1) hij ?_
      rw [List.getElem_map, List.getElem_map, hi2, hj2]
      exact hpq
    refine ⟨fun i j p q hi hj hpq => ?_, fun k q hk => h.2 q (List.mem_of_getElem? hk)⟩
    rcases Nat.lt_trichotomy i j with h1 | h1 | h1
    · exact absurd h1 (key i j p q hi hj hpq)
    · exact h1
    · exact absurd h1 (key j i q p hj hi hpq.symm)
theorem vaK_iff {D : va_G} {cl : List vw_C} {tys : List (ClassId × FieldType)} {U : State} : va_K D cl tys U ↔ (∀ (c : Nat) (q : vw_C), cl[c]? = some q → u_Kn U q.1 q.2.1 q.2.2 (D.1 c) (D.2 c)) ∧ ∀ q ∈ tys, ArrOfT U q.1 q.2 ∧ va_RA U q.1 q.2 := by
  constructor
  · intro h
    refine ⟨h.1, fun q hq => ?_⟩
    obtain ⟨k, hk⟩ := List.getElem?_of_mem hq
    exact h.2 k q hk
  · intro h
    exact ⟨h.1, fun k q hk => h.2 q (List.mem_of_getElem? hk)⟩
section GWD
variable {p : Program} {l : Launch} {e : Env} {R : Room} {s : State} {m : MethodId} {args : Array Value} {below : List Frame} {meth : Method} {c : Code} {H : Heap} {locs : List Loc} {cells slots : Nat} {Q : State → Prop}
variable {cc : ByteArray} {pc : Nat} {ls : Array Slot} {rest : List Value} {D : va_G} {A : Nat → Prop} {tx : List (ClassId × FieldType)} {cy : Nat → ClassId} {ad : Nat → Nat} {S S1 : PS} {Rw : va_W} {H0 : Heap} {Ts : List Cond} {own ref : String} {index : Nat}
theorem xld0 (hexec : p.tables.exec = Jvm.exec) (hb : c.code = cc) (hK : va_K D vwCl (gT cy ++ tx) s) (hP : va_P D vwCl (xW cy ad S Rw) H) {i v : Int32} (hr : rd (S.2 0) 16 i = some v) (hdg : decode cc pc = .ok (.iaload, 1))
    (kk : W p l e R s m args below meth c H locs cells slots Q (F0 m (pc + 1) ls (.int v :: rest))) : W p l e R s m args below meth c H locs cells slots Q (F0 m pc ls (.int i :: .ref (ad 6) :: rest)) := by
  obtain ⟨h1, rfl⟩ := rd_spec hr
  exact va_iald hexec hb hK hP 6 0 rfl rfl h1 hdg kk
theorem xst0 (hexec : p.tables.exec = Jvm.exec) (hb : c.code = cc) (hK : va_K D vwCl (gT cy ++ tx) s) (hP : va_P D vwCl (xW cy ad S Rw) H) (hD : va_D A (xW cy ad S Rw)) (hS : va_S A H0 H locs) {i x : Int32} (hr : wA S 0 16 i x = some S1) (hdg : decode cc pc = .ok (.iastore, 1))
    (kk : ∀ (H1 : Heap) (locs1 : List Loc), va_P D vwCl (xW cy ad S1 Rw) H1 → va_D A (xW cy ad S1 Rw) → va_S A H0 H1 locs1 → W p l e R s m args below meth c H1 locs1 cells slots Q (F0 m (pc + 1) ls rest)) : W p l e R s m args below meth c H locs cells slots Q (F0 m pc ls (.int x :: .int i :: .ref (ad 6) :: rest)) := by
  obtain ⟨h1, rfl⟩ := wA_spec hr
  exact va_iast hexec hb hK hP hD hS 6 0 rfl rfl h1 hdg (fun H1 locs1 h2 h3 h4 => kk H1 locs1 h2 h3 h4)
theorem xld1 (hexec : p.tables.exec = Jvm.exec) (hb : c.code = cc) (hK : va_K D vwCl (gT cy ++ tx) s) (hP : va_P D vwCl (xW cy ad S Rw) H) {i v : Int32} (hr : rd (S.2 1) 16 i = some v) (hdg : decode cc pc = .ok (.baload, 1))
    (kk : W p l e R s m args below meth c H locs cells slots Q (F0 m (pc + 1) ls (.int v :: rest))) : W p l e R s m args below meth c H locs cells slots Q (F0 m pc ls (.int i :: .ref (ad 7) :: rest)) := by
  obtain ⟨h1, rfl⟩ := rd_spec hr
  exact va_zald hexec hb hK hP 7 1 rfl rfl h1 hdg kk
theorem xst1 (hexec : p.tables.exec = Jvm.exec) (hb : c.code = cc) (hK : va_K D vwCl (gT cy ++ tx) s) (hP : va_P D vwCl (xW cy ad S Rw) H) (hD : va_D A (xW cy ad S Rw)) (hS : va_S A H0 H locs) {i x : Int32} (hr : wZ S 1 16 i x = some S1) (hdg : decode cc pc = .ok (.bastore, 1))
    (kk : ∀ (H1 : Heap) (locs1 : List Loc), va_P D vwCl (xW cy ad S1 Rw) H1 → va_D A (xW cy ad S1 Rw) → va_S A H0 H1 locs1 → W p l e R s m args below meth c H1 locs1 cells slots Q (F0 m (pc + 1) ls rest)) : W p l e R s m args below meth c H locs cells slots Q (F0 m pc ls (.int x :: .int i :: .ref (ad 7) :: rest)) := by
  obtain ⟨h1, rfl⟩ := wZ_spec hr
  exact va_zast hexec hb hK hP hD hS 7 1 rfl rfl h1 hdg (fun H1 locs1 h2 h3 h4 => kk H1 locs1 h2 h3 h4)
theorem xld2 (hexec : p.tables.exec = Jvm.exec) (hb : c.code = cc) (hK : va_K D vwCl (gT cy ++ tx) s) (hP : va_P D vwCl (xW cy ad S Rw) H) {i v : Int32} (hr : rd (S.2 2) 16 i = some v) (hdg : decode cc pc = .ok (.iaload, 1))
    (kk : W p l e R s m args below meth c H locs cells slots Q (F0 m (pc + 1) ls (.int v :: rest))) : W p l e R s m args below meth c H locs cells slots Q (F0 m pc ls (.int i :: .ref (ad 8) :: rest)) := by
  obtain ⟨h1, rfl⟩ := rd_spec hr
  exact va_iald hexec hb hK hP 8 2 rfl rfl h1 hdg kk
theorem xst2 (hexec : p.tables.exec = Jvm.exec) (hb : c.code = cc) (hK : va_K D vwCl (gT cy ++ tx) s) (hP : va_P D vwCl (xW cy ad S Rw) H) (hD : va_D A (xW cy ad S Rw)) (hS : va_S A H0 H locs) {i x : Int32} (hr : wA S 2 16 i x = some S1) (hdg : decode cc pc = .ok (.iastore, 1))
    (kk : ∀ (H1 : Heap) (locs1 : List Loc), va_P D vwCl (xW cy ad S1 Rw) H1 → va_D A (xW cy ad S1 Rw) → va_S A H0 H1 locs1 → W p l e R s m args below meth c H1 locs1 cells slots Q (F0 m (pc + 1) ls rest)) : W p l e R s m args below meth c H locs cells slots Q (F0 m pc ls (.int x :: .int i :: .ref (ad 8) :: rest)) := by
  obtain ⟨h1, rfl⟩ := wA_spec hr
  exact va_iast hexec hb hK hP hD hS 8 2 rfl rfl h1 hdg (fun H1 locs1 h2 h3 h4 => kk H1 locs1 h2 h3 h4)
theorem xld3 (hexec : p.tables.exec = Jvm.exec) (hb : c.code = cc) (hK : va_K D vwCl (gT cy ++ tx) s) (hP : va_P D vwCl (xW cy ad S Rw) H) {i v : Int32} (hr : rd (S.2 3) 30 i = some v) (hdg : decode cc pc = .ok (.iaload, 1))
    (kk : W p l e R s m args below meth c H locs cells slots Q (F0 m (pc + 1) ls (.int v :: rest))) : W p l e R s m args below meth c H locs cells slots Q (F0 m pc ls (.int i :: .ref (ad 9) :: rest)) := by
  obtain ⟨h1, rfl⟩ := rd_spec hr
  exact va_iald hexec hb hK hP 9 3 rfl rfl h1 hdg kk
theorem xst3 (hexec : p.tables.exec = Jvm.exec) (hb : c.code = cc) (hK : va_K D vwCl (gT cy ++ tx) s) (hP : va_P D vwCl (xW cy ad S Rw) H) (hD : va_D A (xW cy ad S Rw)) (hS : va_S A H0 H locs) {i x : Int32} (hr : wA S 3 30 i x = some S1) (hdg : decode cc pc = .ok (.iastore, 1))
    (kk : ∀ (H1 : Heap) (locs1 : List Loc), va_P D vwCl (xW cy ad S1 Rw) H1 → va_D A (xW cy ad S1 Rw) → va_S A H0 H1 locs1 → W p l e R s m args below meth c H1 locs1 cells slots Q (F0 m (pc + 1) ls rest)) : W p l e R s m args below meth c H locs cells slots Q (F0 m pc ls (.int x :: .int i :: .ref (ad 9) :: rest)) := by
  obtain ⟨h1, rfl⟩ := wA_spec hr
  exact va_iast hexec hb hK hP hD hS 9 3 rfl rfl h1 hdg (fun H1 locs1 h2 h3 h4 => kk H1 locs1 h2 h3 h4)
theorem xld4 (hexec : p.tables.exec = Jvm.exec) (hb : c.code = cc) (hK : va_K D vwCl (gT cy ++ tx) s) (hP : va_P D vwCl (xW cy ad S Rw) H) {i v : Int32} (hr : rd (S.2 4) 30 i = some v) (hdg : decode cc pc = .ok (.iaload, 1))
    (kk : W p l e R s m args below meth c H locs cells slots Q (F0 m (pc + 1) ls (.int v :: rest))) : W p l e R s m args below meth c H locs cells slots Q (F0 m pc ls (.int i :: .ref (ad 10) :: rest)) := by
  obtain ⟨h1, rfl⟩ := rd_spec hr
  exact va_iald hexec hb hK hP 10 4 rfl rfl h1 hdg kk
theorem xst4 (hexec : p.tables.exec = Jvm.exec) (hb : c.code = cc) (hK : va_K D vwCl (gT cy ++ tx) s) (hP : va_P D vwCl (xW cy ad S Rw) H) (hD : va_D A (xW cy ad S Rw)) (hS : va_S A H0 H locs) {i x : Int32} (hr : wA S 4 30 i x = some S1) (hdg : decode cc pc = .ok (.iastore, 1))
    (kk : ∀ (H1 : Heap) (locs1 : List Loc), va_P D vwCl (xW cy ad S1 Rw) H1 → va_D A (xW cy ad S1 Rw) → va_S A H0 H1 locs1 → W p l e R s m args below meth c H1 locs1 cells slots Q (F0 m (pc + 1) ls rest)) : W p l e R s m args below meth c H locs cells slots Q (F0 m pc ls (.int x :: .int i :: .ref (ad 10) :: rest)) := by
  obtain ⟨h1, rfl⟩ := wA_spec hr
  exact va_iast hexec hb hK hP hD hS 10 4 rfl rfl h1 hdg (fun H1 locs1 h2 h3 h4 => kk H1 locs1 h2 h3 h4)
theorem xld5 (hexec : p.tables.exec = Jvm.exec) (hb : c.code = cc) (hK : va_K D vwCl (gT cy ++ tx) s) (hP : va_P D vwCl (xW cy ad S Rw) H) {i v : Int32} (hr : rd (S.2 5) 240 i = some v) (hdg : decode cc pc = .ok (.iaload, 1))
    (kk : W p l e R s m args below meth c H locs cells slots Q (F0 m (pc + 1) ls (.int v :: rest))) : W p l e R s m args below meth c H locs cells slots Q (F0 m pc ls (.int i :: .ref (ad 11) :: rest)) := by
  obtain ⟨h1, rfl⟩ := rd_spec hr
  exact va_iald hexec hb hK hP 11 5 rfl rfl h1 hdg kk
theorem xst5 (hexec : p.tables.exec = Jvm.exec) (hb : c.code = cc) (hK : va_K D vwCl (gT cy ++ tx) s) (hP : va_P D vwCl (xW cy ad S Rw) H) (hD : va_D A (xW cy ad S Rw)) (hS : va_S A H0 H locs) {i x : Int32} (hr : wA S 5 240 i x = some S1) (hdg : decode cc pc = .ok (.iastore, 1))
    (kk : ∀ (H1 : Heap) (locs1 : List Loc), va_P D vwCl (xW cy ad S1 Rw) H1 → va_D A (xW cy ad S1 Rw) → va_S A H0 H1 locs1 → W p l e R s m args below meth c H1 locs1 cells slots Q (F0 m (pc + 1) ls rest)) : W p l e R s m args below meth c H locs cells slots Q (F0 m pc ls (.int x :: .int i :: .ref (ad 11) :: rest)) := by
  obtain ⟨h1, rfl⟩ := wA_spec hr
  exact va_iast hexec hb hK hP hD hS 11 5 rfl rfl h1 hdg (fun H1 locs1 h2 h3 h4 => kk H1 locs1 h2 h3 h4)
theorem xld6 (hexec : p.tables.exec = Jvm.exec) (hb : c.code = cc) (hK : va_K D vwCl (gT cy ++ tx) s) (hP : va_P D vwCl (xW cy ad S Rw) H) {i v : Int32} (hr : rd (S.2 6) 240 i = some v) (hdg : decode cc pc = .ok (.iaload, 1))
    (kk : W p l e R s m args below meth c H locs cells slots Q (F0 m (pc + 1) ls (.int v :: rest))) : W p l e R s m args below meth c H locs cells slots Q (F0 m pc ls (.int i :: .ref (ad 12) :: rest)) := by
  obtain ⟨h1, rfl⟩ := rd_spec hr
  exact va_iald hexec hb hK hP 12 6 rfl rfl h1 hdg kk
theorem xst6 (hexec : p.tables.exec = Jvm.exec) (hb : c.code = cc) (hK : va_K D vwCl (gT cy ++ tx) s) (hP : va_P D vwCl (xW cy ad S Rw) H) (hD : va_D A (xW cy ad S Rw)) (hS : va_S A H0 H locs) {i x : Int32} (hr : wA S 6 240 i x = some S1) (hdg : decode cc pc = .ok (.iastore, 1))
    (kk : ∀ (H1 : Heap) (locs1 : List Loc), va_P D vwCl (xW cy ad S1 Rw) H1 → va_D A (xW cy ad S1 Rw) → va_S A H0 H1 locs1 → W p l e R s m args below meth c H1 locs1 cells slots Q (F0 m (pc + 1) ls rest)) : W p l e R s m args below meth c H locs cells slots Q (F0 m pc ls (.int x :: .int i :: .ref (ad 12) :: rest)) := by
  obtain ⟨h1, rfl⟩ := wA_spec hr
  exact va_iast hexec hb hK hP hD hS 12 6 rfl rfl h1 hdg (fun H1 locs1 h2 h3 h4 => kk H1 locs1 h2 h3 h4)
theorem xld7 (hexec : p.tables.exec = Jvm.exec) (hb : c.code = cc) (hK : va_K D vwCl (gT cy ++ tx) s) (hP : va_P D vwCl (xW cy ad S Rw) H) {i v : Int32} (hr : rd (S.2 7) 240 i = some v) (hdg : decode cc pc = .ok (.iaload, 1))
    (kk : W p l e R s m args below meth c H locs cells slots Q (F0 m (pc + 1) ls (.int v :: rest))) : W p l e R s m args below meth c H locs cells slots Q (F0 m pc ls (.int i :: .ref (ad 13) :: rest)) := by
  obtain ⟨h1, rfl⟩ := rd_spec hr
  exact va_iald hexec hb hK hP 13 7 rfl rfl h1 hdg kk
theorem xst7 (hexec : p.tables.exec = Jvm.exec) (hb : c.code = cc) (hK : va_K D vwCl (gT cy ++ tx) s) (hP : va_P D vwCl (xW cy ad S Rw) H) (hD : va_D A (xW cy ad S Rw)) (hS : va_S A H0 H locs) {i x : Int32} (hr : wA S 7 240 i x = some S1) (hdg : decode cc pc = .ok (.iastore, 1))
    (kk : ∀ (H1 : Heap) (locs1 : List Loc), va_P D vwCl (xW cy ad S1 Rw) H1 → va_D A (xW cy ad S1 Rw) → va_S A H0 H1 locs1 → W p l e R s m args below meth c H1 locs1 cells slots Q (F0 m (pc + 1) ls rest)) : W p l e R s m args below meth c H locs cells slots Q (F0 m pc ls (.int x :: .int i :: .ref (ad 13) :: rest)) := by
  obtain ⟨h1, rfl⟩ := wA_spec hr
  exact va_iast hexec hb hK hP hD hS 13 7 rfl rfl h1 hdg (fun H1 locs1 h2 h3 h4 => kk H1 locs1 h2 h3 h4)
theorem xld8 (hexec : p.tables.exec = Jvm.exec) (hb : c.code = cc) (hK : va_K D vwCl (gT cy ++ tx) s) (hP : va_P D vwCl (xW cy ad S Rw) H) {i v : Int32} (hr : rd (S.2 8) 128 i = some v) (hdg : decode cc pc = .ok (.iaload, 1))
    (kk : W p l e R s m args below meth c H locs cells slots Q (F0 m (pc + 1) ls (.int v :: rest))) : W p l e R s m args below meth c H locs cells slots Q (F0 m pc ls (.int i :: .ref (ad 14) :: rest)) := by
  obtain ⟨h1, rfl⟩ := rd_spec hr
  exact va_iald hexec hb hK hP 14 8 rfl rfl h1 hdg kk
theorem xst8 (hexec : p.tables.exec = Jvm.exec) (hb : c.code = cc) (hK : va_K D vwCl (gT cy ++ tx) s) (hP : va_P D vwCl (xW cy ad S Rw) H) (hD : va_D A (xW cy ad S Rw)) (hS : va_S A H0 H locs) {i x : Int32} (hr : wA S 8 128 i x = some S1) (hdg : decode cc pc = .ok (.iastore, 1))
    (kk : ∀ (H1 : Heap) (locs1 : List Loc), va_P D vwCl (xW cy ad S1 Rw) H1 → va_D A (xW cy ad S1 Rw) → va_S A H0 H1 locs1 → W p l e R s m args below meth c H1 locs1 cells slots Q (F0 m (pc + 1) ls rest)) : W p l e R s m args below meth c H locs cells slots Q (F0 m pc ls (.int x :: .int i :: .ref (ad 14) :: rest)) := by
  obtain ⟨h1, rfl⟩ := wA_spec hr
  exact va_iast hexec hb hK hP hD hS 14 8 rfl rfl h1 hdg (fun H1 locs1 h2 h3 h4 => kk H1 locs1 h2 h3 h4)
theorem xld9 (hexec : p.tables.exec = Jvm.exec) (hb : c.code = cc) (hK : va_K D vwCl (gT cy ++ tx) s) (hP : va_P D vwCl (xW cy ad S Rw) H) {i v : Int32} (hr : rd (S.2 9) 50 i = some v) (hdg : decode cc pc = .ok (.iaload, 1))
    (kk : W p l e R s m args below meth c H locs cells slots Q (F0 m (pc + 1) ls (.int v :: rest))) : W p l e R s m args below meth c H locs cells slots Q (F0 m pc ls (.int i :: .ref (ad 15) :: rest)) := by
  obtain ⟨h1, rfl⟩ := rd_spec hr
  exact va_iald hexec hb hK hP 15 9 rfl rfl h1 hdg kk
theorem xst9 (hexec : p.tables.exec = Jvm.exec) (hb : c.code = cc) (hK : va_K D vwCl (gT cy ++ tx) s) (hP : va_P D vwCl (xW cy ad S Rw) H) (hD : va_D A (xW cy ad S Rw)) (hS : va_S A H0 H locs) {i x : Int32} (hr : wA S 9 50 i x = some S1) (hdg : decode cc pc = .ok (.iastore, 1))
    (kk : ∀ (H1 : Heap) (locs1 : List Loc), va_P D vwCl (xW cy ad S1 Rw) H1 → va_D A (xW cy ad S1 Rw) → va_S A H0 H1 locs1 → W p l e R s m args below meth c H1 locs1 cells slots Q (F0 m (pc + 1) ls rest)) : W p l e R s m args below meth c H locs cells slots Q (F0 m pc ls (.int x :: .int i :: .ref (ad 15) :: rest)) := by
  obtain ⟨h1, rfl⟩ := wA_spec hr
  exact va_iast hexec hb hK hP hD hS 15 9 rfl rfl h1 hdg (fun H1 locs1 h2 h3 h4 => kk H1 locs1 h2 h3 h4)
theorem xld10 (hexec : p.tables.exec = Jvm.exec) (hb : c.code = cc) (hK : va_K D vwCl (gT cy ++ tx) s) (hP : va_P D vwCl (xW cy ad S Rw) H) {i v : Int32} (hr : rd (S.2 10) 50 i = some v) (hdg : decode cc pc = .ok (.iaload, 1))
    (kk : W p l e R s m args below meth c H locs cells slots Q (F0 m (pc + 1) ls (.int v :: rest))) : W p l e R s m args below meth c H locs cells slots Q (F0 m pc ls (.int i :: .ref (ad 16) :: rest)) := by
  obtain ⟨h1, rfl⟩ := rd_spec hr
  exact va_iald hexec hb hK hP 16 10 rfl rfl h1 hdg kk
theorem xst10 (hexec : p.tables.exec = Jvm.exec) (hb : c.code = cc) (hK : va_K D vwCl (gT cy ++ tx) s) (hP : va_P D vwCl (xW cy ad S Rw) H) (hD : va_D A (xW cy ad S Rw)) (hS : va_S A H0 H locs) {i x : Int32} (hr : wA S 10 50 i x = some S1) (hdg : decode cc pc = .ok (.iastore, 1))
    (kk : ∀ (H1 : Heap) (locs1 : List Loc), va_P D vwCl (xW cy ad S1 Rw) H1 → va_D A (xW cy ad S1 Rw) → va_S A H0 H1 locs1 → W p l e R s m args below meth c H1 locs1 cells slots Q (F0 m (pc + 1) ls rest)) : W p l e R s m args below meth c H locs cells slots Q (F0 m pc ls (.int x :: .int i :: .ref (ad 16) :: rest)) := by
  obtain ⟨h1, rfl⟩ := wA_spec hr
  exact va_iast hexec hb hK hP hD hS 16 10 rfl rfl h1 hdg (fun H1 locs1 h2 h3 h4 => kk H1 locs1 h2 h3 h4)
theorem xld11 (hexec : p.tables.exec = Jvm.exec) (hb : c.code = cc) (hK : va_K D vwCl (gT cy ++ tx) s) (hP : va_P D vwCl (xW cy ad S Rw) H) {i v : Int32} (hr : rd (S.2 11) 50 i = some v) (hdg : decode cc pc = .ok (.iaload, 1))
    (kk : W p l e R s m args below meth c H locs cells slots Q (F0 m (pc + 1) ls (.int v :: rest))) : W p l e R s m args below meth c H locs cells slots Q (F0 m pc ls (.int i :: .ref (ad 17) :: rest)) := by
  obtain ⟨h1, rfl⟩ := rd_spec hr
  exact va_iald hexec hb hK hP 17 11 rfl rfl h1 hdg kk
theorem xst11 (hexec : p.tables.exec = Jvm.exec) (hb : c.code = cc) (hK : va_K D vwCl (gT cy ++ tx) s) (hP : va_P D vwCl (xW cy ad S Rw) H) (hD : va_D A (xW cy ad S Rw)) (hS : va_S A H0 H locs) {i x : Int32} (hr : wA S 11 50 i x = some S1) (hdg : decode cc pc = .ok (.iastore, 1))
    (kk : ∀ (H1 : Heap) (locs1 : List Loc), va_P D vwCl (xW cy ad S1 Rw) H1 → va_D A (xW cy ad S1 Rw) → va_S A H0 H1 locs1 → W p l e R s m args below meth c H1 locs1 cells slots Q (F0 m (pc + 1) ls rest)) : W p l e R s m args below meth c H locs cells slots Q (F0 m pc ls (.int x :: .int i :: .ref (ad 17) :: rest)) := by
  obtain ⟨h1, rfl⟩ := wA_spec hr
  exact va_iast hexec hb hK hP hD hS 17 11 rfl rfl h1 hdg (fun H1 locs1 h2 h3 h4 => kk H1 locs1 h2 h3 h4)
theorem xld12 (hexec : p.tables.exec = Jvm.exec) (hb : c.code = cc) (hK : va_K D vwCl (gT cy ++ tx) s) (hP : va_P D vwCl (xW cy ad S Rw) H) {i v : Int32} (hr : rd (S.2 12) 50 i = some v) (hdg : decode cc pc = .ok (.iaload, 1))
    (kk : W p l e R s m args below meth c H locs cells slots Q (F0 m (pc + 1) ls (.int v :: rest))) : W p l e R s m args below meth c H locs cells slots Q (F0 m pc ls (.int i :: .ref (ad 18) :: rest)) := by
  obtain ⟨h1, rfl⟩ := rd_spec hr
  exact va_iald hexec hb hK hP 18 12 rfl rfl h1 hdg kk
theorem xst12 (hexec : p.tables.exec = Jvm.exec) (hb : c.code = cc) (hK : va_K D vwCl (gT cy ++ tx) s) (hP : va_P D vwCl (xW cy ad S Rw) H) (hD : va_D A (xW cy ad S Rw)) (hS : va_S A H0 H locs) {i x : Int32} (hr : wA S 12 50 i x = some S1) (hdg : decode cc pc = .ok (.iastore, 1))
    (kk : ∀ (H1 : Heap) (locs1 : List Loc), va_P D vwCl (xW cy ad S1 Rw) H1 → va_D A (xW cy ad S1 Rw) → va_S A H0 H1 locs1 → W p l e R s m args below meth c H1 locs1 cells slots Q (F0 m (pc + 1) ls rest)) : W p l e R s m args below meth c H locs cells slots Q (F0 m pc ls (.int x :: .int i :: .ref (ad 18) :: rest)) := by
  obtain ⟨h1, rfl⟩ := wA_spec hr
  exact va_iast hexec hb hK hP hD hS 18 12 rfl rfl h1 hdg (fun H1 locs1 h2 h3 h4 => kk H1 locs1 h2 h3 h4)
theorem xld13 (hexec : p.tables.exec = Jvm.exec) (hb : c.code = cc) (hK : va_K D vwCl (gT cy ++ tx) s) (hP : va_P D vwCl (xW cy ad S Rw) H) {i v : Int32} (hr : rd (S.2 13) 400 i = some v) (hdg : decode cc pc = .ok (.iaload, 1))
    (kk : W p l e R s m args below meth c H locs cells slots Q (F0 m (pc + 1) ls (.int v :: rest))) : W p l e R s m args below meth c H locs cells slots Q (F0 m pc ls (.int i :: .ref (ad 19) :: rest)) := by
  obtain ⟨h1, rfl⟩ := rd_spec hr
  exact va_iald hexec hb hK hP 19 13 rfl rfl h1 hdg kk
theorem xst13 (hexec : p.tables.exec = Jvm.exec) (hb : c.code = cc) (hK : va_K D vwCl (gT cy ++ tx) s) (hP : va_P D vwCl (xW cy ad S Rw) H) (hD : va_D A (xW cy ad S Rw)) (hS : va_S A H0 H locs) {i x : Int32} (hr : wA S 13 400 i x = some S1) (hdg : decode cc pc = .ok (.iastore, 1))
    (kk : ∀ (H1 : Heap) (locs1 : List Loc), va_P D vwCl (xW cy ad S1 Rw) H1 → va_D A (xW cy ad S1 Rw) → va_S A H0 H1 locs1 → W p l e R s m args below meth c H1 locs1 cells slots Q (F0 m (pc + 1) ls rest)) : W p l e R s m args below meth c H locs cells slots Q (F0 m pc ls (.int x :: .int i :: .ref (ad 19) :: rest)) := by
  obtain ⟨h1, rfl⟩ := wA_spec hr
  exact va_iast hexec hb hK hP hD hS 19 13 rfl rfl h1 hdg (fun H1 locs1 h2 h3 h4 => kk H1 locs1 h2 h3 h4)
theorem xld14 (hexec : p.tables.exec = Jvm.exec) (hb : c.code = cc) (hK : va_K D vwCl (gT cy ++ tx) s) (hP : va_P D vwCl (xW cy ad S Rw) H) {i v : Int32} (hr : rd (S.2 14) 400 i = some v) (hdg : decode cc pc = .ok (.iaload, 1))
    (kk : W p l e R s m args below meth c H locs cells slots Q (F0 m (pc + 1) ls (.int v :: rest))) : W p l e R s m args below meth c H locs cells slots Q (F0 m pc ls (.int i :: .ref (ad 20) :: rest)) := by
  obtain ⟨h1, rfl⟩ := rd_spec hr
  exact va_iald hexec hb hK hP 20 14 rfl rfl h1 hdg kk
theorem xst14 (hexec : p.tables.exec = Jvm.exec) (hb : c.code = cc) (hK : va_K D vwCl (gT cy ++ tx) s) (hP : va_P D vwCl (xW cy ad S Rw) H) (hD : va_D A (xW cy ad S Rw)) (hS : va_S A H0 H locs) {i x : Int32} (hr : wA S 14 400 i x = some S1) (hdg : decode cc pc = .ok (.iastore, 1))
    (kk : ∀ (H1 : Heap) (locs1 : List Loc), va_P D vwCl (xW cy ad S1 Rw) H1 → va_D A (xW cy ad S1 Rw) → va_S A H0 H1 locs1 → W p l e R s m args below meth c H1 locs1 cells slots Q (F0 m (pc + 1) ls rest)) : W p l e R s m args below meth c H locs cells slots Q (F0 m pc ls (.int x :: .int i :: .ref (ad 20) :: rest)) := by
  obtain ⟨h1, rfl⟩ := wA_spec hr
  exact va_iast hexec hb hK hP hD hS 20 14 rfl rfl h1 hdg (fun H1 locs1 h2 h3 h4 => kk H1 locs1 h2 h3 h4)
theorem xld15 (hexec : p.tables.exec = Jvm.exec) (hb : c.code = cc) (hK : va_K D vwCl (gT cy ++ tx) s) (hP : va_P D vwCl (xW cy ad S Rw) H) {i v : Int32} (hr : rd (S.2 15) 400 i = some v) (hdg : decode cc pc = .ok (.iaload, 1))
    (kk : W p l e R s m args below meth c H locs cells slots Q (F0 m (pc + 1) ls (.int v :: rest))) : W p l e R s m args below meth c H locs cells slots Q (F0 m pc ls (.int i :: .ref (ad 21) :: rest)) := by
  obtain ⟨h1, rfl⟩ := rd_spec hr
  exact va_iald hexec hb hK hP 21 15 rfl rfl h1 hdg kk
theorem xst15 (hexec : p.tables.exec = Jvm.exec) (hb : c.code = cc) (hK : va_K D vwCl (gT cy ++ tx) s) (hP : va_P D vwCl (xW cy ad S Rw) H) (hD : va_D A (xW cy ad S Rw)) (hS : va_S A H0 H locs) {i x : Int32} (hr : wA S 15 400 i x = some S1) (hdg : decode cc pc = .ok (.iastore, 1))
    (kk : ∀ (H1 : Heap) (locs1 : List Loc), va_P D vwCl (xW cy ad S1 Rw) H1 → va_D A (xW cy ad S1 Rw) → va_S A H0 H1 locs1 → W p l e R s m args below meth c H1 locs1 cells slots Q (F0 m (pc + 1) ls rest)) : W p l e R s m args below meth c H locs cells slots Q (F0 m pc ls (.int x :: .int i :: .ref (ad 21) :: rest)) := by
  obtain ⟨h1, rfl⟩ := wA_spec hr
  exact va_iast hexec hb hK hP hD hS 21 15 rfl rfl h1 hdg (fun H1 locs1 h2 h3 h4 => kk H1 locs1 h2 h3 h4)
theorem xld16 (hexec : p.tables.exec = Jvm.exec) (hb : c.code = cc) (hK : va_K D vwCl (gT cy ++ tx) s) (hP : va_P D vwCl (xW cy ad S Rw) H) {i v : Int32} (hr : rd (S.2 16) 50 i = some v) (hdg : decode cc pc = .ok (.iaload, 1))
    (kk : W p l e R s m args below meth c H locs cells slots Q (F0 m (pc + 1) ls (.int v :: rest))) : W p l e R s m args below meth c H locs cells slots Q (F0 m pc ls (.int i :: .ref (ad 22) :: rest)) := by
  obtain ⟨h1, rfl⟩ := rd_spec hr
  exact va_iald hexec hb hK hP 22 16 rfl rfl h1 hdg kk
theorem xst16 (hexec : p.tables.exec = Jvm.exec) (hb : c.code = cc) (hK : va_K D vwCl (gT cy ++ tx) s) (hP : va_P D vwCl (xW cy ad S Rw) H) (hD : va_D A (xW cy ad S Rw)) (hS : va_S A H0 H locs) {i x : Int32} (hr : wA S 16 50 i x = some S1) (hdg : decode cc pc = .ok (.iastore, 1))
    (kk : ∀ (H1 : Heap) (locs1 : List Loc), va_P D vwCl (xW cy ad S1 Rw) H1 → va_D A (xW cy ad S1 Rw) → va_S A H0 H1 locs1 → W p l e R s m args below meth c H1 locs1 cells slots Q (F0 m (pc + 1) ls rest)) : W p l e R s m args below meth c H locs cells slots Q (F0 m pc ls (.int x :: .int i :: .ref (ad 22) :: rest)) := by
  obtain ⟨h1, rfl⟩ := wA_spec hr
  exact va_iast hexec hb hK hP hD hS 22 16 rfl rfl h1 hdg (fun H1 locs1 h2 h3 h4 => kk H1 locs1 h2 h3 h4)
theorem xld17 (hexec : p.tables.exec = Jvm.exec) (hb : c.code = cc) (hK : va_K D vwCl (gT cy ++ tx) s) (hP : va_P D vwCl (xW cy ad S Rw) H) {i v : Int32} (hr : rd (S.2 17) 400 i = some v) (hdg : decode cc pc = .ok (.iaload, 1))
    (kk : W p l e R s m args below meth c H locs cells slots Q (F0 m (pc + 1) ls (.int v :: rest))) : W p l e R s m args below meth c H locs cells slots Q (F0 m pc ls (.int i :: .ref (ad 23) :: rest)) := by
  obtain ⟨h1, rfl⟩ := rd_spec hr
  exact va_iald hexec hb hK hP 23 17 rfl rfl h1 hdg kk
theorem xst17 (hexec : p.tables.exec = Jvm.exec) (hb : c.code = cc) (hK : va_K D vwCl (gT cy ++ tx) s) (hP : va_P D vwCl (xW cy ad S Rw) H) (hD : va_D A (xW cy ad S Rw)) (hS : va_S A H0 H locs) {i x : Int32} (hr : wA S 17 400 i x = some S1) (hdg : decode cc pc = .ok (.iastore, 1))
    (kk : ∀ (H1 : Heap) (locs1 : List Loc), va_P D vwCl (xW cy ad S1 Rw) H1 → va_D A (xW cy ad S1 Rw) → va_S A H0 H1 locs1 → W p l e R s m args below meth c H1 locs1 cells slots Q (F0 m (pc + 1) ls rest)) : W p l e R s m args below meth c H locs cells slots Q (F0 m pc ls (.int x :: .int i :: .ref (ad 23) :: rest)) := by
  obtain ⟨h1, rfl⟩ := wA_spec hr
  exact va_iast hexec hb hK hP hD hS 23 17 rfl rfl h1 hdg (fun H1 locs1 h2 h3 h4 => kk H1 locs1 h2 h3 h4)
theorem xld18 (hexec : p.tables.exec = Jvm.exec) (hb : c.code = cc) (hK : va_K D vwCl (gT cy ++ tx) s) (hP : va_P D vwCl (xW cy ad S Rw) H) {i v : Int32} (hr : rd (S.2 18) 400 i = some v) (hdg : decode cc pc = .ok (.iaload, 1))
    (kk : W p l e R s m args below meth c H locs cells slots Q (F0 m (pc + 1) ls (.int v :: rest))) : W p l e R s m args below meth c H locs cells slots Q (F0 m pc ls (.int i :: .ref (ad 24) :: rest)) := by
  obtain ⟨h1, rfl⟩ := rd_spec hr
  exact va_iald hexec hb hK hP 24 18 rfl rfl h1 hdg kk
theorem xst18 (hexec : p.tables.exec = Jvm.exec) (hb : c.code = cc) (hK : va_K D vwCl (gT cy ++ tx) s) (hP : va_P D vwCl (xW cy ad S Rw) H) (hD : va_D A (xW cy ad S Rw)) (hS : va_S A H0 H locs) {i x : Int32} (hr : wA S 18 400 i x = some S1) (hdg : decode cc pc = .ok (.iastore, 1))
    (kk : ∀ (H1 : Heap) (locs1 : List Loc), va_P D vwCl (xW cy ad S1 Rw) H1 → va_D A (xW cy ad S1 Rw) → va_S A H0 H1 locs1 → W p l e R s m args below meth c H1 locs1 cells slots Q (F0 m (pc + 1) ls rest)) : W p l e R s m args below meth c H locs cells slots Q (F0 m pc ls (.int x :: .int i :: .ref (ad 24) :: rest)) := by
  obtain ⟨h1, rfl⟩ := wA_spec hr
  exact va_iast hexec hb hK hP hD hS 24 18 rfl rfl h1 hdg (fun H1 locs1 h2 h3 h4 => kk H1 locs1 h2 h3 h4)
theorem xgX5_0 (hexec : p.tables.exec = Jvm.exec) (hb : c.code = cc) (hts : ∀ w ∈ Ts, w.before args s = true) (hin : ∀ w ∈ u_ws RX5 TX5 4, w ∈ Ts) (hown : s.vm.findClass own = some m.cls) (hK : va_K D vwCl (gT cy ++ tx) s) (hP : va_P D vwCl (xW cy ad S Rw) H) (hlink : (Cond.fieldLink own index (TX5 0).1 (TX5 0).2.1 (TX5 0).2.2.1).before args s = true) (hdg : decode cc pc = .ok (.getfield index, 3))
    (kk : W p l e R s m args below meth c H locs cells slots Q (F0 m (pc + 3) ls (.ref (ad 1) :: rest))) : W p l e R s m args below meth c H locs cells slots Q (F0 m pc ls (.ref (ad 0) :: rest)) :=
  va_get (ci := 5) hexec hb hts hin hown hK hP 0 rfl rfl 0 (by decide) hlink (fun _ h => h) rfl hdg kk
theorem xgX5_1 (hexec : p.tables.exec = Jvm.exec) (hb : c.code = cc) (hts : ∀ w ∈ Ts, w.before args s = true) (hin : ∀ w ∈ u_ws RX5 TX5 4, w ∈ Ts) (hown : s.vm.findClass own = some m.cls) (hK : va_K D vwCl (gT cy ++ tx) s) (hP : va_P D vwCl (xW cy ad S Rw) H) (hlink : (Cond.fieldLink own index (TX5 1).1 (TX5 1).2.1 (TX5 1).2.2.1).before args s = true) (hdg : decode cc pc = .ok (.getfield index, 3))
    (kk : W p l e R s m args below meth c H locs cells slots Q (F0 m (pc + 3) ls (.ref (ad 2) :: rest))) : W p l e R s m args below meth c H locs cells slots Q (F0 m pc ls (.ref (ad 0) :: rest)) :=
  va_get (ci := 5) hexec hb hts hin hown hK hP 0 rfl rfl 1 (by decide) hlink (fun _ h => h) rfl hdg kk
theorem xgX5_2 (hexec : p.tables.exec = Jvm.exec) (hb : c.code = cc) (hts : ∀ w ∈ Ts, w.before args s = true) (hin : ∀ w ∈ u_ws RX5 TX5 4, w ∈ Ts) (hown : s.vm.findClass own = some m.cls) (hK : va_K D vwCl (gT cy ++ tx) s) (hP : va_P D vwCl (xW cy ad S Rw) H) (hlink : (Cond.fieldLink own index (TX5 2).1 (TX5 2).2.1 (TX5 2).2.2.1).before args s = true) (hdg : decode cc pc = .ok (.getfield index, 3))
    (kk : W p l e R s m args below meth c H locs cells slots Q (F0 m (pc + 3) ls (.ref (ad 3) :: rest))) : W p l e R s m args below meth c H locs cells slots Q (F0 m pc ls (.ref (ad 0) :: rest)) :=
  va_get (ci := 5) hexec hb hts hin hown hK hP 0 rfl rfl 2 (by decide) hlink (fun _ h => h) rfl hdg kk
theorem xgX5_3 (hexec : p.tables.exec = Jvm.exec) (hb : c.code = cc) (hts : ∀ w ∈ Ts, w.before args s = true) (hin : ∀ w ∈ u_ws RX5 TX5 4, w ∈ Ts) (hown : s.vm.findClass own = some m.cls) (hK : va_K D vwCl (gT cy ++ tx) s) (hP : va_P D vwCl (xW cy ad S Rw) H) (hlink : (Cond.fieldLink own index (TX5 3).1 (TX5 3).2.1 (TX5 3).2.2.1).before args s = true) (hdg : decode cc pc = .ok (.getfield index, 3))
    (kk : W p l e R s m args below meth c H locs cells slots Q (F0 m (pc + 3) ls (.ref (ad 4) :: rest))) : W p l e R s m args below meth c H locs cells slots Q (F0 m pc ls (.ref (ad 0) :: rest)) :=
  va_get (ci := 5) hexec hb hts hin hown hK hP 0 rfl rfl 3 (by decide) hlink (fun _ h => h) rfl hdg kk
theorem xgX0_0 (hexec : p.tables.exec = Jvm.exec) (hb : c.code = cc) (hts : ∀ w ∈ Ts, w.before args s = true) (hin : ∀ w ∈ u_ws RX0 TX0 4, w ∈ Ts) (hown : s.vm.findClass own = some m.cls) (hK : va_K D vwCl (gT cy ++ tx) s) (hP : va_P D vwCl (xW cy ad S Rw) H) (hlink : (Cond.fieldLink own index (TX0 0).1 (TX0 0).2.1 (TX0 0).2.2.1).before args s = true) (hdg : decode cc pc = .ok (.getfield index, 3))
    (kk : W p l e R s m args below meth c H locs cells slots Q (F0 m (pc + 3) ls (.int (S.1 0) :: rest))) : W p l e R s m args below meth c H locs cells slots Q (F0 m pc ls (.ref (ad 1) :: rest)) :=
  va_get (ci := 0) hexec hb hts hin hown hK hP 1 rfl rfl 0 (by decide) hlink (fun _ h => h) rfl hdg kk
theorem xpX0_0 (hexec : p.tables.exec = Jvm.exec) (hb : c.code = cc) (hts : ∀ w ∈ Ts, w.before args s = true) (hin : ∀ w ∈ u_ws RX0 TX0 4, w ∈ Ts) (hown : s.vm.findClass own = some m.cls) (hK : va_K D vwCl (gT cy ++ tx) s) (hP : va_P D vwCl (xW cy ad S Rw) H) (hD : va_D A (xW cy ad S Rw)) (hS : va_S A H0 H locs) (hlink : (Cond.fieldLink own index (TX0 0).1 (TX0 0).2.1 (TX0 0).2.2.1).before args s = true) {x : Int32} (hr : wN S 0 x = some S1) (hdg : decode cc pc = .ok (.putfield index, 3))
    (kk : ∀ (H1 : Heap) (locs1 : List Loc), va_P D vwCl (xW cy ad S1 Rw) H1 → va_D A (xW cy ad S1 Rw) → va_S A H0 H1 locs1 → W p l e R s m args below meth c H1 locs1 cells slots Q (F0 m (pc + 3) ls rest)) : W p l e R s m args below meth c H locs cells slots Q (F0 m pc ls (.int x :: .ref (ad 1) :: rest)) := by
  cases Option.some.inj hr
  exact va_put (ci := 0) (v := .int x) (ty := .int) hexec hb hts hin tyX0 tyX0_ok nmX0 hown hK hP hD hS 1 rfl rfl 0 (by decide) hlink (fun _ h => h) rfl (by decide +kernel) rfl rfl (Nat.le_of_ble_eq_true rfl) hdg (fun H1 locs1 h2 h3 h4 => kk H1 locs1 h2 h3 h4)
theorem xgX0_1 (hexec : p.tables.exec = Jvm.exec) (hb : c.code = cc) (hts : ∀ w ∈ Ts, w.before args s = true) (hin : ∀ w ∈ u_ws RX0 TX0 4, w ∈ Ts) (hown : s.vm.findClass own = some m.cls) (hK : va_K D vwCl (gT cy ++ tx) s) (hP : va_P D vwCl (xW cy ad S Rw) H) (hlink : (Cond.fieldLink own index (TX0 1).1 (TX0 1).2.1 (TX0 1).2.2.1).before args s = true) (hdg : decode cc pc = .ok (.getfield index, 3))
    (kk : W p l e R s m args below meth c H locs cells slots Q (F0 m (pc + 3) ls (.ref (ad 6) :: rest))) : W p l e R s m args below meth c H locs cells slots Q (F0 m pc ls (.ref (ad 1) :: rest)) :=
  va_get (ci := 0) hexec hb hts hin hown hK hP 1 rfl rfl 1 (by decide) hlink (fun _ h => h) rfl hdg kk
theorem xgX0_2 (hexec : p.tables.exec = Jvm.exec) (hb : c.code = cc) (hts : ∀ w ∈ Ts, w.before args s = true) (hin : ∀ w ∈ u_ws RX0 TX0 4, w ∈ Ts) (hown : s.vm.findClass own = some m.cls) (hK : va_K D vwCl (gT cy ++ tx) s) (hP : va_P D vwCl (xW cy ad S Rw) H) (hlink : (Cond.fieldLink own index (TX0 2).1 (TX0 2).2.1 (TX0 2).2.2.1).before args s = true) (hdg : decode cc pc = .ok (.getfield index, 3))
    (kk : W p l e R s m args below meth c H locs cells slots Q (F0 m (pc + 3) ls (.ref (ad 7) :: rest))) : W p l e R s m args below meth c H locs cells slots Q (F0 m pc ls (.ref (ad 1) :: rest)) :=
  va_get (ci := 0) hexec hb hts hin hown hK hP 1 rfl rfl 2 (by decide) hlink (fun _ h => h) rfl hdg kk
theorem xgX0_3 (hexec : p.tables.exec = Jvm.exec) (hb : c.code = cc) (hts : ∀ w ∈ Ts, w.before args s = true) (hin : ∀ w ∈ u_ws RX0 TX0 4, w ∈ Ts) (hown : s.vm.findClass own = some m.cls) (hK : va_K D vwCl (gT cy ++ tx) s) (hP : va_P D vwCl (xW cy ad S Rw) H) (hlink : (Cond.fieldLink own index (TX0 3).1 (TX0 3).2.1 (TX0 3).2.2.1).before args s = true) (hdg : decode cc pc = .ok (.getfield index, 3))
    (kk : W p l e R s m args below meth c H locs cells slots Q (F0 m (pc + 3) ls (.ref (ad 8) :: rest))) : W p l e R s m args below meth c H locs cells slots Q (F0 m pc ls (.ref (ad 1) :: rest)) :=
  va_get (ci := 0) hexec hb hts hin hown hK hP 1 rfl rfl 3 (by decide) hlink (fun _ h => h) rfl hdg kk
theorem xgX2_0 (hexec : p.tables.exec = Jvm.exec) (hb : c.code = cc) (hts : ∀ w ∈ Ts, w.before args s = true) (hin : ∀ w ∈ u_ws RX2 TX2 8, w ∈ Ts) (hown : s.vm.findClass own = some m.cls) (hK : va_K D vwCl (gT cy ++ tx) s) (hP : va_P D vwCl (xW cy ad S Rw) H) (hlink : (Cond.fieldLink own index (TX2 0).1 (TX2 0).2.1 (TX2 0).2.2.1).before args s = true) (hdg : decode cc pc = .ok (.getfield index, 3))
    (kk : W p l e R s m args below meth c H locs cells slots Q (F0 m (pc + 3) ls (.int (S.1 1) :: rest))) : W p l e R s m args below meth c H locs cells slots Q (F0 m pc ls (.ref (ad 2) :: rest)) :=
  va_get (ci := 2) hexec hb hts hin hown hK hP 2 rfl rfl 0 (by decide) hlink (fun _ h => h) rfl hdg kk
theorem xpX2_0 (hexec : p.tables.exec = Jvm.exec) (hb : c.code = cc) (hts : ∀ w ∈ Ts, w.before args s = true) (hin : ∀ w ∈ u_ws RX2 TX2 8, w ∈ Ts) (hown : s.vm.findClass own = some m.cls) (hK : va_K D vwCl (gT cy ++ tx) s) (hP : va_P D vwCl (xW cy ad S Rw) H) (hD : va_D A (xW cy ad S Rw)) (hS : va_S A H0 H locs) (hlink : (Cond.fieldLink own index (TX2 0).1 (TX2 0).2.1 (TX2 0).2.2.1).before args s = true) {x : Int32} (hr : wN S 1 x = some S1) (hdg : decode cc pc = .ok (.putfield index, 3))
    (kk : ∀ (H1 : Heap) (locs1 : List Loc), va_P D vwCl (xW cy ad S1 Rw) H1 → va_D A (xW cy ad S1 Rw) → va_S A H0 H1 locs1 → W p l e R s m args below meth c H1 locs1 cells slots Q (F0 m (pc + 3) ls rest)) : W p l e R s m args below meth c H locs cells slots Q (F0 m pc ls (.int x :: .ref (ad 2) :: rest)) := by
  cases Option.some.inj hr
  exact va_put (ci := 2) (v := .int x) (ty := .int) hexec hb hts hin tyX2 tyX2_ok nmX2 hown hK hP hD hS 2 rfl rfl 0 (by decide) hlink (fun _ h => h) rfl (by decide +kernel) rfl rfl (Nat.le_of_ble_eq_true rfl) hdg (fun H1 locs1 h2 h3 h4 => kk H1 locs1 h2 h3 h4)
theorem xgX2_1 (hexec : p.tables.exec = Jvm.exec) (hb : c.code = cc) (hts : ∀ w ∈ Ts, w.before args s = true) (hin : ∀ w ∈ u_ws RX2 TX2 8, w ∈ Ts) (hown : s.vm.findClass own = some m.cls) (hK : va_K D vwCl (gT cy ++ tx) s) (hP : va_P D vwCl (xW cy ad S Rw) H) (hlink : (Cond.fieldLink own index (TX2 1).1 (TX2 1).2.1 (TX2 1).2.2.1).before args s = true) (hdg : decode cc pc = .ok (.getfield index, 3))
    (kk : W p l e R s m args below meth c H locs cells slots Q (F0 m (pc + 3) ls (.ref (ad 9) :: rest))) : W p l e R s m args below meth c H locs cells slots Q (F0 m pc ls (.ref (ad 2) :: rest)) :=
  va_get (ci := 2) hexec hb hts hin hown hK hP 2 rfl rfl 1 (by decide) hlink (fun _ h => h) rfl hdg kk
theorem xgX2_2 (hexec : p.tables.exec = Jvm.exec) (hb : c.code = cc) (hts : ∀ w ∈ Ts, w.before args s = true) (hin : ∀ w ∈ u_ws RX2 TX2 8, w ∈ Ts) (hown : s.vm.findClass own = some m.cls) (hK : va_K D vwCl (gT cy ++ tx) s) (hP : va_P D vwCl (xW cy ad S Rw) H) (hlink : (Cond.fieldLink own index (TX2 2).1 (TX2 2).2.1 (TX2 2).2.2.1).before args s = true) (hdg : decode cc pc = .ok (.getfield index, 3))
    (kk : W p l e R s m args below meth c H locs cells slots Q (F0 m (pc + 3) ls (.ref (ad 10) :: rest))) : W p l e R s m args below meth c H locs cells slots Q (F0 m pc ls (.ref (ad 2) :: rest)) :=
  va_get (ci := 2) hexec hb hts hin hown hK hP 2 rfl rfl 2 (by decide) hlink (fun _ h => h) rfl hdg kk
theorem xgX2_3 (hexec : p.tables.exec = Jvm.exec) (hb : c.code = cc) (hts : ∀ w ∈ Ts, w.before args s = true) (hin : ∀ w ∈ u_ws RX2 TX2 8, w ∈ Ts) (hown : s.vm.findClass own = some m.cls) (hK : va_K D vwCl (gT cy ++ tx) s) (hP : va_P D vwCl (xW cy ad S Rw) H) (hlink : (Cond.fieldLink own index (TX2 3).1 (TX2 3).2.1 (TX2 3).2.2.1).before args s = true) (hdg : decode cc pc = .ok (.getfield index, 3))
    (kk : W p l e R s m args below meth c H locs cells slots Q (F0 m (pc + 3) ls (.ref (ad 11) :: rest))) : W p l e R s m args below meth c H locs cells slots Q (F0 m pc ls (.ref (ad 2) :: rest)) :=
  va_get (ci := 2) hexec hb hts hin hown hK hP 2 rfl rfl 3 (by decide) hlink (fun _ h => h) rfl hdg kk
theorem xgX2_4 (hexec : p.tables.exec = Jvm.exec) (hb : c.code = cc) (hts : ∀ w ∈ Ts, w.before args s = true) (hin : ∀ w ∈ u_ws RX2 TX2 8, w ∈ Ts) (hown : s.vm.findClass own = some m.cls) (hK : va_K D vwCl (gT cy ++ tx) s) (hP : va_P D vwCl (xW cy ad S Rw) H) (hlink : (Cond.fieldLink own index (TX2 4).1 (TX2 4).2.1 (TX2 4).2.2.1).before args s = true) (hdg : decode cc pc = .ok (.getfield index, 3))
    (kk : W p l e R s m args below meth c H locs cells slots Q (F0 m (pc + 3) ls (.ref (ad 1) :: rest))) : W p l e R s m args below meth c H locs cells slots Q (F0 m pc ls (.ref (ad 2) :: rest)) :=
  va_get (ci := 2) hexec hb hts hin hown hK hP 2 rfl rfl 4 (by decide) hlink (fun _ h => h) rfl hdg kk
theorem xgX2_5 (hexec : p.tables.exec = Jvm.exec) (hb : c.code = cc) (hts : ∀ w ∈ Ts, w.before args s = true) (hin : ∀ w ∈ u_ws RX2 TX2 8, w ∈ Ts) (hown : s.vm.findClass own = some m.cls) (hK : va_K D vwCl (gT cy ++ tx) s) (hP : va_P D vwCl (xW cy ad S Rw) H) (hlink : (Cond.fieldLink own index (TX2 5).1 (TX2 5).2.1 (TX2 5).2.2.1).before args s = true) (hdg : decode cc pc = .ok (.getfield index, 3))
    (kk : W p l e R s m args below meth c H locs cells slots Q (F0 m (pc + 3) ls (.ref (ad 12) :: rest))) : W p l e R s m args below meth c H locs cells slots Q (F0 m pc ls (.ref (ad 2) :: rest)) :=
  va_get (ci := 2) hexec hb hts hin hown hK hP 2 rfl rfl 5 (by decide) hlink (fun _ h => h) rfl hdg kk
theorem xgX2_6 (hexec : p.tables.exec = Jvm.exec) (hb : c.code = cc) (hts : ∀ w ∈ Ts, w.before args s = true) (hin : ∀ w ∈ u_ws RX2 TX2 8, w ∈ Ts) (hown : s.vm.findClass own = some m.cls) (hK : va_K D vwCl (gT cy ++ tx) s) (hP : va_P D vwCl (xW cy ad S Rw) H) (hlink : (Cond.fieldLink own index (TX2 6).1 (TX2 6).2.1 (TX2 6).2.2.1).before args s = true) (hdg : decode cc pc = .ok (.getfield index, 3))
    (kk : W p l e R s m args below meth c H locs cells slots Q (F0 m (pc + 3) ls (.ref (ad 13) :: rest))) : W p l e R s m args below meth c H locs cells slots Q (F0 m pc ls (.ref (ad 2) :: rest)) :=
  va_get (ci := 2) hexec hb hts hin hown hK hP 2 rfl rfl 6 (by decide) hlink (fun _ h => h) rfl hdg kk
theorem xgX2_7 (hexec : p.tables.exec = Jvm.exec) (hb : c.code = cc) (hts : ∀ w ∈ Ts, w.before args s = true) (hin : ∀ w ∈ u_ws RX2 TX2 8, w ∈ Ts) (hown : s.vm.findClass own = some m.cls) (hK : va_K D vwCl (gT cy ++ tx) s) (hP : va_P D vwCl (xW cy ad S Rw) H) (hlink : (Cond.fieldLink own index (TX2 7).1 (TX2 7).2.1 (TX2 7).2.2.1).before args s = true) (hdg : decode cc pc = .ok (.getfield index, 3))
    (kk : W p l e R s m args below meth c H locs cells slots Q (F0 m (pc + 3) ls (.ref (ad 14) :: rest))) : W p l e R s m args below meth c H locs cells slots Q (F0 m pc ls (.ref (ad 2) :: rest)) :=
  va_get (ci := 2) hexec hb hts hin hown hK hP 2 rfl rfl 7 (by decide) hlink (fun _ h => h) rfl hdg kk
theorem xgX1_0 (hexec : p.tables.exec = Jvm.exec) (hb : c.code = cc) (hts : ∀ w ∈ Ts, w.before args s = true) (hin : ∀ w ∈ u_ws RX1 TX1 3, w ∈ Ts) (hown : s.vm.findClass own = some m.cls) (hK : va_K D vwCl (gT cy ++ tx) s) (hP : va_P D vwCl (xW cy ad S Rw) H) (hlink : (Cond.fieldLink own index (TX1 0).1 (TX1 0).2.1 (TX1 0).2.2.1).before args s = true) (hdg : decode cc pc = .ok (.getfield index, 3))
    (kk : W p l e R s m args below meth c H locs cells slots Q (F0 m (pc + 3) ls (.int (S.1 2) :: rest))) : W p l e R s m args below meth c H locs cells slots Q (F0 m pc ls (.ref (ad 3) :: rest)) :=
  va_get (ci := 1) hexec hb hts hin hown hK hP 3 rfl rfl 0 (by decide) hlink (fun _ h => h) rfl hdg kk
theorem xpX1_0 (hexec : p.tables.exec = Jvm.exec) (hb : c.code = cc) (hts : ∀ w ∈ Ts, w.before args s = true) (hin : ∀ w ∈ u_ws RX1 TX1 3, w ∈ Ts) (hown : s.vm.findClass own = some m.cls) (hK : va_K D vwCl (gT cy ++ tx) s) (hP : va_P D vwCl (xW cy ad S Rw) H) (hD : va_D A (xW cy ad S Rw)) (hS : va_S A H0 H locs) (hlink : (Cond.fieldLink own index (TX1 0).1 (TX1 0).2.1 (TX1 0).2.2.1).before args s = true) {x : Int32} (hr : wN S 2 x = some S1) (hdg : decode cc pc = .ok (.putfield index, 3))
    (kk : ∀ (H1 : Heap) (locs1 : List Loc), va_P D vwCl (xW cy ad S1 Rw) H1 → va_D A (xW cy ad S1 Rw) → va_S A H0 H1 locs1 → W p l e R s m args below meth c H1 locs1 cells slots Q (F0 m (pc + 3) ls rest)) : W p l e R s m args below meth c H locs cells slots Q (F0 m pc ls (.int x :: .ref (ad 3) :: rest)) := by
  cases Option.some.inj hr
  exact va_put (ci := 1) (v := .int x) (ty := .int) hexec hb hts hin tyX1 tyX1_ok nmX1 hown hK hP hD hS 3 rfl rfl 0 (by decide) hlink (fun _ h => h) rfl (by decide +kernel) rfl rfl (Nat.le_of_ble_eq_true rfl) hdg (fun H1 locs1 h2 h3 h4 => kk H1 locs1 h2 h3 h4)
theorem xgX1_1 (hexec : p.tables.exec = Jvm.exec) (hb : c.code = cc) (hts : ∀ w ∈ Ts, w.before args s = true) (hin : ∀ w ∈ u_ws RX1 TX1 3, w ∈ Ts) (hown : s.vm.findClass own = some m.cls) (hK : va_K D vwCl (gT cy ++ tx) s) (hP : va_P D vwCl (xW cy ad S Rw) H) (hlink : (Cond.fieldLink own index (TX1 1).1 (TX1 1).2.1 (TX1 1).2.2.1).before args s = true) (hdg : decode cc pc = .ok (.getfield index, 3))
    (kk : W p l e R s m args below meth c H locs cells slots Q (F0 m (pc + 3) ls (.int (S.1 3) :: rest))) : W p l e R s m args below meth c H locs cells slots Q (F0 m pc ls (.ref (ad 3) :: rest)) :=
  va_get (ci := 1) hexec hb hts hin hown hK hP 3 rfl rfl 1 (by decide) hlink (fun _ h => h) rfl hdg kk
theorem xpX1_1 (hexec : p.tables.exec = Jvm.exec) (hb : c.code = cc) (hts : ∀ w ∈ Ts, w.before args s = true) (hin : ∀ w ∈ u_ws RX1 TX1 3, w ∈ Ts) (hown : s.vm.findClass own = some m.cls) (hK : va_K D vwCl (gT cy ++ tx) s) (hP : va_P D vwCl (xW cy ad S Rw) H) (hD : va_D A (xW cy ad S Rw)) (hS : va_S A H0 H locs) (hlink : (Cond.fieldLink own index (TX1 1).1 (TX1 1).2.1 (TX1 1).2.2.1).before args s = true) {x : Int32} (hr : wN S 3 x = some S1) (hdg : decode cc pc = .ok (.putfield index, 3))
    (kk : ∀ (H1 : Heap) (locs1 : List Loc), va_P D vwCl (xW cy ad S1 Rw) H1 → va_D A (xW cy ad S1 Rw) → va_S A H0 H1 locs1 → W p l e R s m args below meth c H1 locs1 cells slots Q (F0 m (pc + 3) ls rest)) : W p l e R s m args below meth c H locs cells slots Q (F0 m pc ls (.int x :: .ref (ad 3) :: rest)) := by
  cases Option.some.inj hr
  exact va_put (ci := 1) (v := .int x) (ty := .int) hexec hb hts hin tyX1 tyX1_ok nmX1 hown hK hP hD hS 3 rfl rfl 1 (by decide) hlink (fun _ h => h) rfl (by decide +kernel) rfl rfl (Nat.le_of_ble_eq_true rfl) hdg (fun H1 locs1 h2 h3 h4 => kk H1 locs1 h2 h3 h4)
theorem xgX1_2 (hexec : p.tables.exec = Jvm.exec) (hb : c.code = cc) (hts : ∀ w ∈ Ts, w.before args s = true) (hin : ∀ w ∈ u_ws RX1 TX1 3, w ∈ Ts) (hown : s.vm.findClass own = some m.cls) (hK : va_K D vwCl (gT cy ++ tx) s) (hP : va_P D vwCl (xW cy ad S Rw) H) (hlink : (Cond.fieldLink own index (TX1 2).1 (TX1 2).2.1 (TX1 2).2.2.1).before args s = true) (hdg : decode cc pc = .ok (.getfield index, 3))
    (kk : W p l e R s m args below meth c H locs cells slots Q (F0 m (pc + 3) ls (.int (S.1 4) :: rest))) : W p l e R s m args below meth c H locs cells slots Q (F0 m pc ls (.ref (ad 3) :: rest)) :=
  va_get (ci := 1) hexec hb hts hin hown hK hP 3 rfl rfl 2 (by decide) hlink (fun _ h => h) rfl hdg kk
theorem xpX1_2 (hexec : p.tables.exec = Jvm.exec) (hb : c.code = cc) (hts : ∀ w ∈ Ts, w.before args s = true) (hin : ∀ w ∈ u_ws RX1 TX1 3, w ∈ Ts) (hown : s.vm.findClass own = some m.cls) (hK : va_K D vwCl (gT cy ++ tx) s) (hP : va_P D vwCl (xW cy ad S Rw) H) (hD : va_D A (xW cy ad S Rw)) (hS : va_S A H0 H locs) (hlink : (Cond.fieldLink own index (TX1 2).1 (TX1 2).2.1 (TX1 2).2.2.1).before args s = true) {x : Int32} (hr : wN S 4 x = some S1) (hdg : decode cc pc = .ok (.putfield index, 3))
    (kk : ∀ (H1 : Heap) (locs1 : List Loc), va_P D vwCl (xW cy ad S1 Rw) H1 → va_D A (xW cy ad S1 Rw) → va_S A H0 H1 locs1 → W p l e R s m args below meth c H1 locs1 cells slots Q (F0 m (pc + 3) ls rest)) : W p l e R s m args below meth c H locs cells slots Q (F0 m pc ls (.int x :: .ref (ad 3) :: rest)) := by
  cases Option.some.inj hr
  exact va_put (ci := 1) (v := .int x) (ty := .int) hexec hb hts hin tyX1 tyX1_ok nmX1 hown hK hP hD hS 3 rfl rfl 2 (by decide) hlink (fun _ h => h) rfl (by decide +kernel) rfl rfl (Nat.le_of_ble_eq_true rfl) hdg (fun H1 locs1 h2 h3 h4 => kk H1 locs1 h2 h3 h4)
theorem xgX3_0 (hexec : p.tables.exec = Jvm.exec) (hb : c.code = cc) (hts : ∀ w ∈ Ts, w.before args s = true) (hin : ∀ w ∈ u_ws RX3 TX3 13, w ∈ Ts) (hown : s.vm.findClass own = some m.cls) (hK : va_K D vwCl (gT cy ++ tx) s) (hP : va_P D vwCl (xW cy ad S Rw) H) (hlink : (Cond.fieldLink own index (TX3 0).1 (TX3 0).2.1 (TX3 0).2.2.1).before args s = true) (hdg : decode cc pc = .ok (.getfield index, 3))
    (kk : W p l e R s m args below meth c H locs cells slots Q (F0 m (pc + 3) ls (.int (S.1 5) :: rest))) : W p l e R s m args below meth c H locs cells slots Q (F0 m pc ls (.ref (ad 4) :: rest)) :=
  va_get (ci := 3) hexec hb hts hin hown hK hP 4 rfl rfl 0 (by decide) hlink (fun _ h => h) rfl hdg kk
theorem xpX3_0 (hexec : p.tables.exec = Jvm.exec) (hb : c.code = cc) (hts : ∀ w ∈ Ts, w.before args s = true) (hin : ∀ w ∈ u_ws RX3 TX3 13, w ∈ Ts) (hown : s.vm.findClass own = some m.cls) (hK : va_K D vwCl (gT cy ++ tx) s) (hP : va_P D vwCl (xW cy ad S Rw) H) (hD : va_D A (xW cy ad S Rw)) (hS : va_S A H0 H locs) (hlink : (Cond.fieldLink own index (TX3 0).1 (TX3 0).2.1 (TX3 0).2.2.1).before args s = true) {x : Int32} (hr : wN S 5 x = some S1) (hdg : decode cc pc = .ok (.putfield index, 3))
    (kk : ∀ (H1 : Heap) (locs1 : List Loc), va_P D vwCl (xW cy ad S1 Rw) H1 → va_D A (xW cy ad S1 Rw) → va_S A H0 H1 locs1 → W p l e R s m args below meth c H1 locs1 cells slots Q (F0 m (pc + 3) ls rest)) : W p l e R s m args below meth c H locs cells slots Q (F0 m pc ls (.int x :: .ref (ad 4) :: rest)) := by
  cases Option.some.inj hr
  exact va_put (ci := 3) (v := .int x) (ty := .int) hexec hb hts hin tyX3 tyX3_ok nmX3 hown hK hP hD hS 4 rfl rfl 0 (by decide) hlink (fun _ h => h) rfl (by decide +kernel) rfl rfl (Nat.le_of_ble_eq_true rfl) hdg (fun H1 locs1 h2 h3 h4 => kk H1 locs1 h2 h3 h4)
theorem xgX3_1 (hexec : p.tables.exec = Jvm.exec) (hb : c.code = cc) (hts : ∀ w ∈ Ts, w.before args s = true) (hin : ∀ w ∈ u_ws RX3 TX3 13, w ∈ Ts) (hown : s.vm.findClass own = some m.cls) (hK : va_K D vwCl (gT cy ++ tx) s) (hP : va_P D vwCl (xW cy ad S Rw) H) (hlink : (Cond.fieldLink own index (TX3 1).1 (TX3 1).2.1 (TX3 1).2.2.1).before args s = true) (hdg : decode cc pc = .ok (.getfield index, 3))
    (kk : W p l e R s m args below meth c H locs cells slots Q (F0 m (pc + 3) ls (.int (S.1 6) :: rest))) : W p l e R s m args below meth c H locs cells slots Q (F0 m pc ls (.ref (ad 4) :: rest)) :=
  va_get (ci := 3) hexec hb hts hin hown hK hP 4 rfl rfl 1 (by decide) hlink (fun _ h => h) rfl hdg kk
theorem xpX3_1 (hexec : p.tables.exec = Jvm.exec) (hb : c.code = cc) (hts : ∀ w ∈ Ts, w.before args s = true) (hin : ∀ w ∈ u_ws RX3 TX3 13, w ∈ Ts) (hown : s.vm.findClass own = some m.cls) (hK : va_K D vwCl (gT cy ++ tx) s) (hP : va_P D vwCl (xW cy ad S Rw) H) (hD : va_D A (xW cy ad S Rw)) (hS : va_S A H0 H locs) (hlink : (Cond.fieldLink own index (TX3 1).1 (TX3 1).2.1 (TX3 1).2.2.1).before args s = true) {x : Int32} (hr : wN S 6 x = some S1) (hdg : decode cc pc = .ok (.putfield index, 3))
    (kk : ∀ (H1 : Heap) (locs1 : List Loc), va_P D vwCl (xW cy ad S1 Rw) H1 → va_D A (xW cy ad S1 Rw) → va_S A H0 H1 locs1 → W p l e R s m args below meth c H1 locs1 cells slots Q (F0 m (pc + 3) ls rest)) : W p l e R s m args below meth c H locs cells slots Q (F0 m pc ls (.int x :: .ref (ad 4) :: rest)) := by
  cases Option.some.inj hr
  exact va_put (ci := 3) (v := .int x) (ty := .int) hexec hb hts hin tyX3 tyX3_ok nmX3 hown hK hP hD hS 4 rfl rfl 1 (by decide) hlink (fun _ h => h) rfl (by decide +kernel) rfl rfl (Nat.le_of_ble_eq_true rfl) hdg (fun H1 locs1 h2 h3 h4 => kk H1 locs1 h2 h3 h4)
theorem xgX3_2 (hexec : p.tables.exec = Jvm.exec) (hb : c.code = cc) (hts : ∀ w ∈ Ts, w.before args s = true) (hin : ∀ w ∈ u_ws RX3 TX3 13, w ∈ Ts) (hown : s.vm.findClass own = some m.cls) (hK : va_K D vwCl (gT cy ++ tx) s) (hP : va_P D vwCl (xW cy ad S Rw) H) (hlink : (Cond.fieldLink own index (TX3 2).1 (TX3 2).2.1 (TX3 2).2.2.1).before args s = true) (hdg : decode cc pc = .ok (.getfield index, 3))
    (kk : W p l e R s m args below meth c H locs cells slots Q (F0 m (pc + 3) ls (.ref (ad 15) :: rest))) : W p l e R s m args below meth c H locs cells slots Q (F0 m pc ls (.ref (ad 4) :: rest)) :=
  va_get (ci := 3) hexec hb hts hin hown hK hP 4 rfl rfl 2 (by decide) hlink (fun _ h => h) rfl hdg kk
theorem xgX3_3 (hexec : p.tables.exec = Jvm.exec) (hb : c.code = cc) (hts : ∀ w ∈ Ts, w.before args s = true) (hin : ∀ w ∈ u_ws RX3 TX3 13, w ∈ Ts) (hown : s.vm.findClass own = some m.cls) (hK : va_K D vwCl (gT cy ++ tx) s) (hP : va_P D vwCl (xW cy ad S Rw) H) (hlink : (Cond.fieldLink own index (TX3 3).1 (TX3 3).2.1 (TX3 3).2.2.1).before args s = true) (hdg : decode cc pc = .ok (.getfield index, 3))
    (kk : W p l e R s m args below meth c H locs cells slots Q (F0 m (pc + 3) ls (.ref (ad 16) :: rest))) : W p l e R s m args below meth c H locs cells slots Q (F0 m pc ls (.ref (ad 4) :: rest)) :=
  va_get (ci := 3) hexec hb hts hin hown hK hP 4 rfl rfl 3 (by decide) hlink (fun _ h => h) rfl hdg kk
theorem xgX3_4 (hexec : p.tables.exec = Jvm.exec) (hb : c.code = cc) (hts : ∀ w ∈ Ts, w.before args s = true) (hin : ∀ w ∈ u_ws RX3 TX3 13, w ∈ Ts) (hown : s.vm.findClass own = some m.cls) (hK : va_K D vwCl (gT cy ++ tx) s) (hP : va_P D vwCl (xW cy ad S Rw) H) (hlink : (Cond.fieldLink own index (TX3 4).1 (TX3 4).2.1 (TX3 4).2.2.1).before args s = true) (hdg : decode cc pc = .ok (.getfield index, 3))
    (kk : W p l e R s m args below meth c H locs cells slots Q (F0 m (pc + 3) ls (.ref (ad 17) :: rest))) : W p l e R s m args below meth c H locs cells slots Q (F0 m pc ls (.ref (ad 4) :: rest)) :=
  va_get (ci := 3) hexec hb hts hin hown hK hP 4 rfl rfl 4 (by decide) hlink (fun _ h => h) rfl hdg kk
theorem xgX3_5 (hexec : p.tables.exec = Jvm.exec) (hb : c.code = cc) (hts : ∀ w ∈ Ts, w.before args s = true) (hin : ∀ w ∈ u_ws RX3 TX3 13, w ∈ Ts) (hown : s.vm.findClass own = some m.cls) (hK : va_K D vwCl (gT cy ++ tx) s) (hP : va_P D vwCl (xW cy ad S Rw) H) (hlink : (Cond.fieldLink own index (TX3 5).1 (TX3 5).2.1 (TX3 5).2.2.1).before args s = true) (hdg : decode cc pc = .ok (.getfield index, 3))
    (kk : W p l e R s m args below meth c H locs cells slots Q (F0 m (pc + 3) ls (.ref (ad 18) :: rest))) : W p l e R s m args below meth c H locs cells slots Q (F0 m pc ls (.ref (ad 4) :: rest)) :=
  va_get (ci := 3) hexec hb hts hin hown hK hP 4 rfl rfl 5 (by decide) hlink (fun _ h => h) rfl hdg kk
theorem xgX3_6 (hexec : p.tables.exec = Jvm.exec) (hb : c.code = cc) (hts : ∀ w ∈ Ts, w.before args s = true) (hin : ∀ w ∈ u_ws RX3 TX3 13, w ∈ Ts) (hown : s.vm.findClass own = some m.cls) (hK : va_K D vwCl (gT cy ++ tx) s) (hP : va_P D vwCl (xW cy ad S Rw) H) (hlink : (Cond.fieldLink own index (TX3 6).1 (TX3 6).2.1 (TX3 6).2.2.1).before args s = true) (hdg : decode cc pc = .ok (.getfield index, 3))
    (kk : W p l e R s m args below meth c H locs cells slots Q (F0 m (pc + 3) ls (.ref (ad 19) :: rest))) : W p l e R s m args below meth c H locs cells slots Q (F0 m pc ls (.ref (ad 4) :: rest)) :=
  va_get (ci := 3) hexec hb hts hin hown hK hP 4 rfl rfl 6 (by decide) hlink (fun _ h => h) rfl hdg kk
theorem xgX3_7 (hexec : p.tables.exec = Jvm.exec) (hb : c.code = cc) (hts : ∀ w ∈ Ts, w.before args s = true) (hin : ∀ w ∈ u_ws RX3 TX3 13, w ∈ Ts) (hown : s.vm.findClass own = some m.cls) (hK : va_K D vwCl (gT cy ++ tx) s) (hP : va_P D vwCl (xW cy ad S Rw) H) (hlink : (Cond.fieldLink own index (TX3 7).1 (TX3 7).2.1 (TX3 7).2.2.1).before args s = true) (hdg : decode cc pc = .ok (.getfield index, 3))
    (kk : W p l e R s m args below meth c H locs cells slots Q (F0 m (pc + 3) ls (.ref (ad 20) :: rest))) : W p l e R s m args below meth c H locs cells slots Q (F0 m pc ls (.ref (ad 4) :: rest)) :=
  va_get (ci := 3) hexec hb hts hin hown hK hP 4 rfl rfl 7 (by decide) hlink (fun _ h => h) rfl hdg kk
theorem xgX3_8 (hexec : p.tables.exec = Jvm.exec) (hb : c.code = cc) (hts : ∀ w ∈ Ts, w.before args s = true) (hin : ∀ w ∈ u_ws RX3 TX3 13, w ∈ Ts) (hown : s.vm.findClass own = some m.cls) (hK : va_K D vwCl (gT cy ++ tx) s) (hP : va_P D vwCl (xW cy ad S Rw) H) (hlink : (Cond.fieldLink own index (TX3 8).1 (TX3 8).2.1 (TX3 8).2.2.1).before args s = true) (hdg : decode cc pc = .ok (.getfield index, 3))
    (kk : W p l e R s m args below meth c H locs cells slots Q (F0 m (pc + 3) ls (.ref (ad 21) :: rest))) : W p l e R s m args below meth c H locs cells slots Q (F0 m pc ls (.ref (ad 4) :: rest)) :=
  va_get (ci := 3) hexec hb hts hin hown hK hP 4 rfl rfl 8 (by decide) hlink (fun _ h => h) rfl hdg kk
theorem xgX3_9 (hexec : p.tables.exec = Jvm.exec) (hb : c.code = cc) (hts : ∀ w ∈ Ts, w.before args s = true) (hin : ∀ w ∈ u_ws RX3 TX3 13, w ∈ Ts) (hown : s.vm.findClass own = some m.cls) (hK : va_K D vwCl (gT cy ++ tx) s) (hP : va_P D vwCl (xW cy ad S Rw) H) (hlink : (Cond.fieldLink own index (TX3 9).1 (TX3 9).2.1 (TX3 9).2.2.1).before args s = true) (hdg : decode cc pc = .ok (.getfield index, 3))
    (kk : W p l e R s m args below meth c H locs cells slots Q (F0 m (pc + 3) ls (.ref (ad 2) :: rest))) : W p l e R s m args below meth c H locs cells slots Q (F0 m pc ls (.ref (ad 4) :: rest)) :=
  va_get (ci := 3) hexec hb hts hin hown hK hP 4 rfl rfl 9 (by decide) hlink (fun _ h => h) rfl hdg kk
theorem xgX3_10 (hexec : p.tables.exec = Jvm.exec) (hb : c.code = cc) (hts : ∀ w ∈ Ts, w.before args s = true) (hin : ∀ w ∈ u_ws RX3 TX3 13, w ∈ Ts) (hown : s.vm.findClass own = some m.cls) (hK : va_K D vwCl (gT cy ++ tx) s) (hP : va_P D vwCl (xW cy ad S Rw) H) (hlink : (Cond.fieldLink own index (TX3 10).1 (TX3 10).2.1 (TX3 10).2.2.1).before args s = true) (hdg : decode cc pc = .ok (.getfield index, 3))
    (kk : W p l e R s m args below meth c H locs cells slots Q (F0 m (pc + 3) ls (.ref (ad 3) :: rest))) : W p l e R s m args below meth c H locs cells slots Q (F0 m pc ls (.ref (ad 4) :: rest)) :=
  va_get (ci := 3) hexec hb hts hin hown hK hP 4 rfl rfl 10 (by decide) hlink (fun _ h => h) rfl hdg kk
theorem xgX3_11 (hexec : p.tables.exec = Jvm.exec) (hb : c.code = cc) (hts : ∀ w ∈ Ts, w.before args s = true) (hin : ∀ w ∈ u_ws RX3 TX3 13, w ∈ Ts) (hown : s.vm.findClass own = some m.cls) (hK : va_K D vwCl (gT cy ++ tx) s) (hP : va_P D vwCl (xW cy ad S Rw) H) (hlink : (Cond.fieldLink own index (TX3 11).1 (TX3 11).2.1 (TX3 11).2.2.1).before args s = true) (hdg : decode cc pc = .ok (.getfield index, 3))
    (kk : W p l e R s m args below meth c H locs cells slots Q (F0 m (pc + 3) ls (.ref (ad 5) :: rest))) : W p l e R s m args below meth c H locs cells slots Q (F0 m pc ls (.ref (ad 4) :: rest)) :=
  va_get (ci := 3) hexec hb hts hin hown hK hP 4 rfl rfl 11 (by decide) hlink (fun _ h => h) rfl hdg kk
theorem xgX3_12 (hexec : p.tables.exec = Jvm.exec) (hb : c.code = cc) (hts : ∀ w ∈ Ts, w.before args s = true) (hin : ∀ w ∈ u_ws RX3 TX3 13, w ∈ Ts) (hown : s.vm.findClass own = some m.cls) (hK : va_K D vwCl (gT cy ++ tx) s) (hP : va_P D vwCl (xW cy ad S Rw) H) (hlink : (Cond.fieldLink own index (TX3 12).1 (TX3 12).2.1 (TX3 12).2.2.1).before args s = true) (hdg : decode cc pc = .ok (.getfield index, 3))
    (kk : W p l e R s m args below meth c H locs cells slots Q (F0 m (pc + 3) ls (.ref (ad 22) :: rest))) : W p l e R s m args below meth c H locs cells slots Q (F0 m pc ls (.ref (ad 4) :: rest)) :=
  va_get (ci := 3) hexec hb hts hin hown hK hP 4 rfl rfl 12 (by decide) hlink (fun _ h => h) rfl hdg kk
theorem xgX4_0 (hexec : p.tables.exec = Jvm.exec) (hb : c.code = cc) (hts : ∀ w ∈ Ts, w.before args s = true) (hin : ∀ w ∈ u_ws RX4 TX4 3, w ∈ Ts) (hown : s.vm.findClass own = some m.cls) (hK : va_K D vwCl (gT cy ++ tx) s) (hP : va_P D vwCl (xW cy ad S Rw) H) (hlink : (Cond.fieldLink own index (TX4 0).1 (TX4 0).2.1 (TX4 0).2.2.1).before args s = true) (hdg : decode cc pc = .ok (.getfield index, 3))
    (kk : W p l e R s m args below meth c H locs cells slots Q (F0 m (pc + 3) ls (.int (S.1 7) :: rest))) : W p l e R s m args below meth c H locs cells slots Q (F0 m pc ls (.ref (ad 5) :: rest)) :=
  va_get (ci := 4) hexec hb hts hin hown hK hP 5 rfl rfl 0 (by decide) hlink (fun _ h => h) rfl hdg kk
theorem xpX4_0 (hexec : p.tables.exec = Jvm.exec) (hb : c.code = cc) (hts : ∀ w ∈ Ts, w.before args s = true) (hin : ∀ w ∈ u_ws RX4 TX4 3, w ∈ Ts) (hown : s.vm.findClass own = some m.cls) (hK : va_K D vwCl (gT cy ++ tx) s) (hP : va_P D vwCl (xW cy ad S Rw) H) (hD : va_D A (xW cy ad S Rw)) (hS : va_S A H0 H locs) (hlink : (Cond.fieldLink own index (TX4 0).1 (TX4 0).2.1 (TX4 0).2.2.1).before args s = true) {x : Int32} (hr : wN S 7 x = some S1) (hdg : decode cc pc = .ok (.putfield index, 3))
    (kk : ∀ (H1 : Heap) (locs1 : List Loc), va_P D vwCl (xW cy ad S1 Rw) H1 → va_D A (xW cy ad S1 Rw) → va_S A H0 H1 locs1 → W p l e R s m args below meth c H1 locs1 cells slots Q (F0 m (pc + 3) ls rest)) : W p l e R s m args below meth c H locs cells slots Q (F0 m pc ls (.int x :: .ref (ad 5) :: rest)) := by
  cases Option.some.inj hr
  exact va_put (ci := 4) (v := .int x) (ty := .int) hexec hb hts hin tyX4 tyX4_ok nmX4 hown hK hP hD hS 5 rfl rfl 0 (by decide) hlink (fun _ h => h) rfl (by decide +kernel) rfl rfl (Nat.le_of_ble_eq_true rfl) hdg (fun H1 locs1 h2 h3 h4 => kk H1 locs1 h2 h3 h4)
theorem xgX4_1 (hexec : p.tables.exec = Jvm.exec) (hb : c.code = cc) (hts : ∀ w ∈ Ts, w.before args s = true) (hin : ∀ w ∈ u_ws RX4 TX4 3, w ∈ Ts) (hown : s.vm.findClass own = some m.cls) (hK : va_K D vwCl (gT cy ++ tx) s) (hP : va_P D vwCl (xW cy ad S Rw) H) (hlink : (Cond.fieldLink own index (TX4 1).1 (TX4 1).2.1 (TX4 1).2.2.1).before args s = true) (hdg : decode cc pc = .ok (.getfield index, 3))
    (kk : W p l e R s m args below meth c H locs cells slots Q (F0 m (pc + 3) ls (.ref (ad 23) :: rest))) : W p l e R s m args below meth c H locs cells slots Q (F0 m pc ls (.ref (ad 5) :: rest)) :=
  va_get (ci := 4) hexec hb hts hin hown hK hP 5 rfl rfl 1 (by decide) hlink (fun _ h => h) rfl hdg kk
theorem xgX4_2 (hexec : p.tables.exec = Jvm.exec) (hb : c.code = cc) (hts : ∀ w ∈ Ts, w.before args s = true) (hin : ∀ w ∈ u_ws RX4 TX4 3, w ∈ Ts) (hown : s.vm.findClass own = some m.cls) (hK : va_K D vwCl (gT cy ++ tx) s) (hP : va_P D vwCl (xW cy ad S Rw) H) (hlink : (Cond.fieldLink own index (TX4 2).1 (TX4 2).2.1 (TX4 2).2.2.1).before args s = true) (hdg : decode cc pc = .ok (.getfield index, 3))
    (kk : W p l e R s m args below meth c H locs cells slots Q (F0 m (pc + 3) ls (.ref (ad 24) :: rest))) : W p l e R s m args below meth c H locs cells slots Q (F0 m pc ls (.ref (ad 5) :: rest)) :=
  va_get (ci := 4) hexec hb hts hin hown hK hP 5 rfl rfl 2 (by decide) hlink (fun _ h => h) rfl hdg kk
theorem mld0 (hexec : p.tables.exec = Jvm.exec) (hb : c.code = cc) (hK : va_K D vwCl (gT cy ++ tx) s) (hP : va_P D vwCl (mW cy ad S Rw) H) {i v : Int32} (hr : rd (S.2 0) 16 i = some v) (hdg : decode cc pc = .ok (.iaload, 1))
    (kk : W p l e R s m args below meth c H locs cells slots Q (F0 m (pc + 1) ls (.int v :: rest))) : W p l e R s m args below meth c H locs cells slots Q (F0 m pc ls (.int i :: .ref (ad 1) :: rest)) := by
  obtain ⟨h1, rfl⟩ := rd_spec hr
  exact va_iald hexec hb hK hP 1 19 rfl rfl h1 hdg kk
theorem mst0 (hexec : p.tables.exec = Jvm.exec) (hb : c.code = cc) (hK : va_K D vwCl (gT cy ++ tx) s) (hP : va_P D vwCl (mW cy ad S Rw) H) (hD : va_D A (mW cy ad S Rw)) (hS : va_S A H0 H locs) {i x : Int32} (hr : wA S 0 16 i x = some S1) (hdg : decode cc pc = .ok (.iastore, 1))
    (kk : ∀ (H1 : Heap) (locs1 : List Loc), va_P D vwCl (mW cy ad S1 Rw) H1 → va_D A (mW cy ad S1 Rw) → va_S A H0 H1 locs1 → W p l e R s m args below meth c H1 locs1 cells slots Q (F0 m (pc + 1) ls rest)) : W p l e R s m args below meth c H locs cells slots Q (F0 m pc ls (.int x :: .int i :: .ref (ad 1) :: rest)) := by
  obtain ⟨h1, rfl⟩ := wA_spec hr
  exact va_iast hexec hb hK hP hD hS 1 19 rfl rfl h1 hdg (fun H1 locs1 h2 h3 h4 => kk H1 locs1 h2 h3 h4)
theorem mld1 (hexec : p.tables.exec = Jvm.exec) (hb : c.code = cc) (hK : va_K D vwCl (gT cy ++ tx) s) (hP : va_P D vwCl (mW cy ad S Rw) H) {i v : Int32} (hr : rd (S.2 1) 16 i = some v) (hdg : decode cc pc = .ok (.baload, 1))
    (kk : W p l e R s m args below meth c H locs cells slots Q (F0 m (pc + 1) ls (.int v :: rest))) : W p l e R s m args below meth c H locs cells slots Q (F0 m pc ls (.int i :: .ref (ad 2) :: rest)) := by
  obtain ⟨h1, rfl⟩ := rd_spec hr
  exact va_zald hexec hb hK hP 2 20 rfl rfl h1 hdg kk
theorem mst1 (hexec : p.tables.exec = Jvm.exec) (hb : c.code = cc) (hK : va_K D vwCl (gT cy ++ tx) s) (hP : va_P D vwCl (mW cy ad S Rw) H) (hD : va_D A (mW cy ad S Rw)) (hS : va_S A H0 H locs) {i x : Int32} (hr : wZ S 1 16 i x = some S1) (hdg : decode cc pc = .ok (.bastore, 1))
    (kk : ∀ (H1 : Heap) (locs1 : List Loc), va_P D vwCl (mW cy ad S1 Rw) H1 → va_D A (mW cy ad S1 Rw) → va_S A H0 H1 locs1 → W p l e R s m args below meth c H1 locs1 cells slots Q (F0 m (pc + 1) ls rest)) : W p l e R s m args below meth c H locs cells slots Q (F0 m pc ls (.int x :: .int i :: .ref (ad 2) :: rest)) := by
  obtain ⟨h1, rfl⟩ := wZ_spec hr
  exact va_zast hexec hb hK hP hD hS 2 20 rfl rfl h1 hdg (fun H1 locs1 h2 h3 h4 => kk H1 locs1 h2 h3 h4)
theorem mld2 (hexec : p.tables.exec = Jvm.exec) (hb : c.code = cc) (hK : va_K D vwCl (gT cy ++ tx) s) (hP : va_P D vwCl (mW cy ad S Rw) H) {i v : Int32} (hr : rd (S.2 2) 30 i = some v) (hdg : decode cc pc = .ok (.iaload, 1))
    (kk : W p l e R s m args below meth c H locs cells slots Q (F0 m (pc + 1) ls (.int v :: rest))) : W p l e R s m args below meth c H locs cells slots Q (F0 m pc ls (.int i :: .ref (ad 3) :: rest)) := by
  obtain ⟨h1, rfl⟩ := rd_spec hr
  exact va_iald hexec hb hK hP 3 21 rfl rfl h1 hdg kk
theorem mst2 (hexec : p.tables.exec = Jvm.exec) (hb : c.code = cc) (hK : va_K D vwCl (gT cy ++ tx) s) (hP : va_P D vwCl (mW cy ad S Rw) H) (hD : va_D A (mW cy ad S Rw)) (hS : va_S A H0 H locs) {i x : Int32} (hr : wA S 2 30 i x = some S1) (hdg : decode cc pc = .ok (.iastore, 1))
    (kk : ∀ (H1 : Heap) (locs1 : List Loc), va_P D vwCl (mW cy ad S1 Rw) H1 → va_D A (mW cy ad S1 Rw) → va_S A H0 H1 locs1 → W p l e R s m args below meth c H1 locs1 cells slots Q (F0 m (pc + 1) ls rest)) : W p l e R s m args below meth c H locs cells slots Q (F0 m pc ls (.int x :: .int i :: .ref (ad 3) :: rest)) := by
  obtain ⟨h1, rfl⟩ := wA_spec hr
  exact va_iast hexec hb hK hP hD hS 3 21 rfl rfl h1 hdg (fun H1 locs1 h2 h3 h4 => kk H1 locs1 h2 h3 h4)
theorem mld3 (hexec : p.tables.exec = Jvm.exec) (hb : c.code = cc) (hK : va_K D vwCl (gT cy ++ tx) s) (hP : va_P D vwCl (mW cy ad S Rw) H) {i v : Int32} (hr : rd (S.2 3) 30 i = some v) (hdg : decode cc pc = .ok (.iaload, 1))
    (kk : W p l e R s m args below meth c H locs cells slots Q (F0 m (pc + 1) ls (.int v :: rest))) : W p l e R s m args below meth c H locs cells slots Q (F0 m pc ls (.int i :: .ref (ad 4) :: rest)) := by
  obtain ⟨h1, rfl⟩ := rd_spec hr
  exact va_iald hexec hb hK hP 4 22 rfl rfl h1 hdg kk
theorem mst3 (hexec : p.tables.exec = Jvm.exec) (hb : c.code = cc) (hK : va_K D vwCl (gT cy ++ tx) s) (hP : va_P D vwCl (mW cy ad S Rw) H) (hD : va_D A (mW cy ad S Rw)) (hS : va_S A H0 H locs) {i x : Int32} (hr : wA S 3 30 i x = some S1) (hdg : decode cc pc = .ok (.iastore, 1))
    (kk : ∀ (H1 : Heap) (locs1 : List Loc), va_P D vwCl (mW cy ad S1 Rw) H1 → va_D A (mW cy ad S1 Rw) → va_S A H0 H1 locs1 → W p l e R s m args below meth c H1 locs1 cells slots Q (F0 m (pc + 1) ls rest)) : W p l e R s m args below meth c H locs cells slots Q (F0 m pc ls (.int x :: .int i :: .ref (ad 4) :: rest)) := by
  obtain ⟨h1, rfl⟩ := wA_spec hr
  exact va_iast hexec hb hK hP hD hS 4 22 rfl rfl h1 hdg (fun H1 locs1 h2 h3 h4 => kk H1 locs1 h2 h3 h4)
theorem mld4 (hexec : p.tables.exec = Jvm.exec) (hb : c.code = cc) (hK : va_K D vwCl (gT cy ++ tx) s) (hP : va_P D vwCl (mW cy ad S Rw) H) {i v : Int32} (hr : rd (S.2 4) 30 i = some v) (hdg : decode cc pc = .ok (.iaload, 1))
    (kk : W p l e R s m args below meth c H locs cells slots Q (F0 m (pc + 1) ls (.int v :: rest))) : W p l e R s m args below meth c H locs cells slots Q (F0 m pc ls (.int i :: .ref (ad 5) :: rest)) := by
  obtain ⟨h1, rfl⟩ := rd_spec hr
  exact va_iald hexec hb hK hP 5 23 rfl rfl h1 hdg kk
theorem mst4 (hexec : p.tables.exec = Jvm.exec) (hb : c.code = cc) (hK : va_K D vwCl (gT cy ++ tx) s) (hP : va_P D vwCl (mW cy ad S Rw) H) (hD : va_D A (mW cy ad S Rw)) (hS : va_S A H0 H locs) {i x : Int32} (hr : wA S 4 30 i x = some S1) (hdg : decode cc pc = .ok (.iastore, 1))
    (kk : ∀ (H1 : Heap) (locs1 : List Loc), va_P D vwCl (mW cy ad S1 Rw) H1 → va_D A (mW cy ad S1 Rw) → va_S A H0 H1 locs1 → W p l e R s m args below meth c H1 locs1 cells slots Q (F0 m (pc + 1) ls rest)) : W p l e R s m args below meth c H locs cells slots Q (F0 m pc ls (.int x :: .int i :: .ref (ad 5) :: rest)) := by
  obtain ⟨h1, rfl⟩ := wA_spec hr
  exact va_iast hexec hb hK hP hD hS 5 23 rfl rfl h1 hdg (fun H1 locs1 h2 h3 h4 => kk H1 locs1 h2 h3 h4)
theorem mld5 (hexec : p.tables.exec = Jvm.exec) (hb : c.code = cc) (hK : va_K D vwCl (gT cy ++ tx) s) (hP : va_P D vwCl (mW cy ad S Rw) H) {i v : Int32} (hr : rd (S.2 5) 30 i = some v) (hdg : decode cc pc = .ok (.iaload, 1))
    (kk : W p l e R s m args below meth c H locs cells slots Q (F0 m (pc + 1) ls (.int v :: rest))) : W p l e R s m args below meth c H locs cells slots Q (F0 m pc ls (.int i :: .ref (ad 6) :: rest)) := by
  obtain ⟨h1, rfl⟩ := rd_spec hr
  exact va_iald hexec hb hK hP 6 24 rfl rfl h1 hdg kk
theorem mst5 (hexec : p.tables.exec = Jvm.exec) (hb : c.code = cc) (hK : va_K D vwCl (gT cy ++ tx) s) (hP : va_P D vwCl (mW cy ad S Rw) H) (hD : va_D A (mW cy ad S Rw)) (hS : va_S A H0 H locs) {i x : Int32} (hr : wA S 5 30 i x = some S1) (hdg : decode cc pc = .ok (.iastore, 1))
    (kk : ∀ (H1 : Heap) (locs1 : List Loc), va_P D vwCl (mW cy ad S1 Rw) H1 → va_D A (mW cy ad S1 Rw) → va_S A H0 H1 locs1 → W p l e R s m args below meth c H1 locs1 cells slots Q (F0 m (pc + 1) ls rest)) : W p l e R s m args below meth c H locs cells slots Q (F0 m pc ls (.int x :: .int i :: .ref (ad 6) :: rest)) := by
  obtain ⟨h1, rfl⟩ := wA_spec hr
  exact va_iast hexec hb hK hP hD hS 6 24 rfl rfl h1 hdg (fun H1 locs1 h2 h3 h4 => kk H1 locs1 h2 h3 h4)
theorem mld6 (hexec : p.tables.exec = Jvm.exec) (hb : c.code = cc) (hK : va_K D vwCl (gT cy ++ tx) s) (hP : va_P D vwCl (mW cy ad S Rw) H) {i v : Int32} (hr : rd (S.2 6) 720 i = some v) (hdg : decode cc pc = .ok (.iaload, 1))
    (kk : W p l e R s m args below meth c H locs cells slots Q (F0 m (pc + 1) ls (.int v :: rest))) : W p l e R s m args below meth c H locs cells slots Q (F0 m pc ls (.int i :: .ref (ad 7) :: rest)) := by
  obtain ⟨h1, rfl⟩ := rd_spec hr
  exact va_iald hexec hb hK hP 7 25 rfl rfl h1 hdg kk
theorem mst6 (hexec : p.tables.exec = Jvm.exec) (hb : c.code = cc) (hK : va_K D vwCl (gT cy ++ tx) s) (hP : va_P D vwCl (mW cy ad S Rw) H) (hD : va_D A (mW cy ad S Rw)) (hS : va_S A H0 H locs) {i x : Int32} (hr : wA S 6 720 i x = some S1) (hdg : decode cc pc = .ok (.iastore, 1))
    (kk : ∀ (H1 : Heap) (locs1 : List Loc), va_P D vwCl (mW cy ad S1 Rw) H1 → va_D A (mW cy ad S1 Rw) → va_S A H0 H1 locs1 → W p l e R s m args below meth c H1 locs1 cells slots Q (F0 m (pc + 1) ls rest)) : W p l e R s m args below meth c H locs cells slots Q (F0 m pc ls (.int x :: .int i :: .ref (ad 7) :: rest)) := by
  obtain ⟨h1, rfl⟩ := wA_spec hr
  exact va_iast hexec hb hK hP hD hS 7 25 rfl rfl h1 hdg (fun H1 locs1 h2 h3 h4 => kk H1 locs1 h2 h3 h4)
theorem mld7 (hexec : p.tables.exec = Jvm.exec) (hb : c.code = cc) (hK : va_K D vwCl (gT cy ++ tx) s) (hP : va_P D vwCl (mW cy ad S Rw) H) {i v : Int32} (hr : rd (S.2 7) 50 i = some v) (hdg : decode cc pc = .ok (.iaload, 1))
    (kk : W p l e R s m args below meth c H locs cells slots Q (F0 m (pc + 1) ls (.int v :: rest))) : W p l e R s m args below meth c H locs cells slots Q (F0 m pc ls (.int i :: .ref (ad 8) :: rest)) := by
  obtain ⟨h1, rfl⟩ := rd_spec hr
  exact va_iald hexec hb hK hP 8 26 rfl rfl h1 hdg kk
theorem mst7 (hexec : p.tables.exec = Jvm.exec) (hb : c.code = cc) (hK : va_K D vwCl (gT cy ++ tx) s) (hP : va_P D vwCl (mW cy ad S Rw) H) (hD : va_D A (mW cy ad S Rw)) (hS : va_S A H0 H locs) {i x : Int32} (hr : wA S 7 50 i x = some S1) (hdg : decode cc pc = .ok (.iastore, 1))
    (kk : ∀ (H1 : Heap) (locs1 : List Loc), va_P D vwCl (mW cy ad S1 Rw) H1 → va_D A (mW cy ad S1 Rw) → va_S A H0 H1 locs1 → W p l e R s m args below meth c H1 locs1 cells slots Q (F0 m (pc + 1) ls rest)) : W p l e R s m args below meth c H locs cells slots Q (F0 m pc ls (.int x :: .int i :: .ref (ad 8) :: rest)) := by
  obtain ⟨h1, rfl⟩ := wA_spec hr
  exact va_iast hexec hb hK hP hD hS 8 26 rfl rfl h1 hdg (fun H1 locs1 h2 h3 h4 => kk H1 locs1 h2 h3 h4)
theorem mld8 (hexec : p.tables.exec = Jvm.exec) (hb : c.code = cc) (hK : va_K D vwCl (gT cy ++ tx) s) (hP : va_P D vwCl (mW cy ad S Rw) H) {i v : Int32} (hr : rd (S.2 8) 50 i = some v) (hdg : decode cc pc = .ok (.iaload, 1))
    (kk : W p l e R s m args below meth c H locs cells slots Q (F0 m (pc + 1) ls (.int v :: rest))) : W p l e R s m args below meth c H locs cells slots Q (F0 m pc ls (.int i :: .ref (ad 9) :: rest)) := by
  obtain ⟨h1, rfl⟩ := rd_spec hr
  exact va_iald hexec hb hK hP 9 27 rfl rfl h1 hdg kk
theorem mst8 (hexec : p.tables.exec = Jvm.exec) (hb : c.code = cc) (hK : va_K D vwCl (gT cy ++ tx) s) (hP : va_P D vwCl (mW cy ad S Rw) H) (hD : va_D A (mW cy ad S Rw)) (hS : va_S A H0 H locs) {i x : Int32} (hr : wA S 8 50 i x = some S1) (hdg : decode cc pc = .ok (.iastore, 1))
    (kk : ∀ (H1 : Heap) (locs1 : List Loc), va_P D vwCl (mW cy ad S1 Rw) H1 → va_D A (mW cy ad S1 Rw) → va_S A H0 H1 locs1 → W p l e R s m args below meth c H1 locs1 cells slots Q (F0 m (pc + 1) ls rest)) : W p l e R s m args below meth c H locs cells slots Q (F0 m pc ls (.int x :: .int i :: .ref (ad 9) :: rest)) := by
  obtain ⟨h1, rfl⟩ := wA_spec hr
  exact va_iast hexec hb hK hP hD hS 9 27 rfl rfl h1 hdg (fun H1 locs1 h2 h3 h4 => kk H1 locs1 h2 h3 h4)
theorem mld9 (hexec : p.tables.exec = Jvm.exec) (hb : c.code = cc) (hK : va_K D vwCl (gT cy ++ tx) s) (hP : va_P D vwCl (mW cy ad S Rw) H) {i v : Int32} (hr : rd (S.2 9) 50 i = some v) (hdg : decode cc pc = .ok (.iaload, 1))
    (kk : W p l e R s m args below meth c H locs cells slots Q (F0 m (pc + 1) ls (.int v :: rest))) : W p l e R s m args below meth c H locs cells slots Q (F0 m pc ls (.int i :: .ref (ad 10) :: rest)) := by
  obtain ⟨h1, rfl⟩ := rd_spec hr
  exact va_iald hexec hb hK hP 10 28 rfl rfl h1 hdg kk
theorem mst9 (hexec : p.tables.exec = Jvm.exec) (hb : c.code = cc) (hK : va_K D vwCl (gT cy ++ tx) s) (hP : va_P D vwCl (mW cy ad S Rw) H) (hD : va_D A (mW cy ad S Rw)) (hS : va_S A H0 H locs) {i x : Int32} (hr : wA S 9 50 i x = some S1) (hdg : decode cc pc = .ok (.iastore, 1))
    (kk : ∀ (H1 : Heap) (locs1 : List Loc), va_P D vwCl (mW cy ad S1 Rw) H1 → va_D A (mW cy ad S1 Rw) → va_S A H0 H1 locs1 → W p l e R s m args below meth c H1 locs1 cells slots Q (F0 m (pc + 1) ls rest)) : W p l e R s m args below meth c H locs cells slots Q (F0 m pc ls (.int x :: .int i :: .ref (ad 10) :: rest)) := by
  obtain ⟨h1, rfl⟩ := wA_spec hr
  exact va_iast hexec hb hK hP hD hS 10 28 rfl rfl h1 hdg (fun H1 locs1 h2 h3 h4 => kk H1 locs1 h2 h3 h4)
theorem mld10 (hexec : p.tables.exec = Jvm.exec) (hb : c.code = cc) (hK : va_K D vwCl (gT cy ++ tx) s) (hP : va_P D vwCl (mW cy ad S Rw) H) {i v : Int32} (hr : rd (S.2 10) 50 i = some v) (hdg : decode cc pc = .ok (.iaload, 1))
    (kk : W p l e R s m args below meth c H locs cells slots Q (F0 m (pc + 1) ls (.int v :: rest))) : W p l e R s m args below meth c H locs cells slots Q (F0 m pc ls (.int i :: .ref (ad 11) :: rest)) := by
  obtain ⟨h1, rfl⟩ := rd_spec hr
  exact va_iald hexec hb hK hP 11 29 rfl rfl h1 hdg kk
theorem mst10 (hexec : p.tables.exec = Jvm.exec) (hb : c.code = cc) (hK : va_K D vwCl (gT cy ++ tx) s) (hP : va_P D vwCl (mW cy ad S Rw) H) (hD : va_D A (mW cy ad S Rw)) (hS : va_S A H0 H locs) {i x : Int32} (hr : wA S 10 50 i x = some S1) (hdg : decode cc pc = .ok (.iastore, 1))
    (kk : ∀ (H1 : Heap) (locs1 : List Loc), va_P D vwCl (mW cy ad S1 Rw) H1 → va_D A (mW cy ad S1 Rw) → va_S A H0 H1 locs1 → W p l e R s m args below meth c H1 locs1 cells slots Q (F0 m (pc + 1) ls rest)) : W p l e R s m args below meth c H locs cells slots Q (F0 m pc ls (.int x :: .int i :: .ref (ad 11) :: rest)) := by
  obtain ⟨h1, rfl⟩ := wA_spec hr
  exact va_iast hexec hb hK hP hD hS 11 29 rfl rfl h1 hdg (fun H1 locs1 h2 h3 h4 => kk H1 locs1 h2 h3 h4)
theorem mld11 (hexec : p.tables.exec = Jvm.exec) (hb : c.code = cc) (hK : va_K D vwCl (gT cy ++ tx) s) (hP : va_P D vwCl (mW cy ad S Rw) H) {i v : Int32} (hr : rd (S.2 11) 50 i = some v) (hdg : decode cc pc = .ok (.iaload, 1))
    (kk : W p l e R s m args below meth c H locs cells slots Q (F0 m (pc + 1) ls (.int v :: rest))) : W p l e R s m args below meth c H locs cells slots Q (F0 m pc ls (.int i :: .ref (ad 12) :: rest)) := by
  obtain ⟨h1, rfl⟩ := rd_spec hr
  exact va_iald hexec hb hK hP 12 30 rfl rfl h1 hdg kk
theorem mst11 (hexec : p.tables.exec = Jvm.exec) (hb : c.code = cc) (hK : va_K D vwCl (gT cy ++ tx) s) (hP : va_P D vwCl (mW cy ad S Rw) H) (hD : va_D A (mW cy ad S Rw)) (hS : va_S A H0 H locs) {i x : Int32} (hr : wA S 11 50 i x = some S1) (hdg : decode cc pc = .ok (.iastore, 1))
    (kk : ∀ (H1 : Heap) (locs1 : List Loc), va_P D vwCl (mW cy ad S1 Rw) H1 → va_D A (mW cy ad S1 Rw) → va_S A H0 H1 locs1 → W p l e R s m args below meth c H1 locs1 cells slots Q (F0 m (pc + 1) ls rest)) : W p l e R s m args below meth c H locs cells slots Q (F0 m pc ls (.int x :: .int i :: .ref (ad 12) :: rest)) := by
  obtain ⟨h1, rfl⟩ := wA_spec hr
  exact va_iast hexec hb hK hP hD hS 12 30 rfl rfl h1 hdg (fun H1 locs1 h2 h3 h4 => kk H1 locs1 h2 h3 h4)
theorem mld12 (hexec : p.tables.exec = Jvm.exec) (hb : c.code = cc) (hK : va_K D vwCl (gT cy ++ tx) s) (hP : va_P D vwCl (mW cy ad S Rw) H) {i v : Int32} (hr : rd (S.2 12) 400 i = some v) (hdg : decode cc pc = .ok (.iaload, 1))
    (kk : W p l e R s m args below meth c H locs cells slots Q (F0 m (pc + 1) ls (.int v :: rest))) : W p l e R s m args below meth c H locs cells slots Q (F0 m pc ls (.int i :: .ref (ad 13) :: rest)) := by
  obtain ⟨h1, rfl⟩ := rd_spec hr
  exact va_iald hexec hb hK hP 13 31 rfl rfl h1 hdg kk
theorem mst12 (hexec : p.tables.exec = Jvm.exec) (hb : c.code = cc) (hK : va_K D vwCl (gT cy ++ tx) s) (hP : va_P D vwCl (mW cy ad S Rw) H) (hD : va_D A (mW cy ad S Rw)) (hS : va_S A H0 H locs) {i x : Int32} (hr : wA S 12 400 i x = some S1) (hdg : decode cc pc = .ok (.iastore, 1))
    (kk : ∀ (H1 : Heap) (locs1 : List Loc), va_P D vwCl (mW cy ad S1 Rw) H1 → va_D A (mW cy ad S1 Rw) → va_S A H0 H1 locs1 → W p l e R s m args below meth c H1 locs1 cells slots Q (F0 m (pc + 1) ls rest)) : W p l e R s m args below meth c H locs cells slots Q (F0 m pc ls (.int x :: .int i :: .ref (ad 13) :: rest)) := by
  obtain ⟨h1, rfl⟩ := wA_spec hr
  exact va_iast hexec hb hK hP hD hS 13 31 rfl rfl h1 hdg (fun H1 locs1 h2 h3 h4 => kk H1 locs1 h2 h3 h4)
theorem mld13 (hexec : p.tables.exec = Jvm.exec) (hb : c.code = cc) (hK : va_K D vwCl (gT cy ++ tx) s) (hP : va_P D vwCl (mW cy ad S Rw) H) {i v : Int32} (hr : rd (S.2 13) 400 i = some v) (hdg : decode cc pc = .ok (.iaload, 1))
    (kk : W p l e R s m args below meth c H locs cells slots Q (F0 m (pc + 1) ls (.int v :: rest))) : W p l e R s m args below meth c H locs cells slots Q (F0 m pc ls (.int i :: .ref (ad 14) :: rest)) := by
  obtain ⟨h1, rfl⟩ := rd_spec hr
  exact va_iald hexec hb hK hP 14 32 rfl rfl h1 hdg kk
theorem mst13 (hexec : p.tables.exec = Jvm.exec) (hb : c.code = cc) (hK : va_K D vwCl (gT cy ++ tx) s) (hP : va_P D vwCl (mW cy ad S Rw) H) (hD : va_D A (mW cy ad S Rw)) (hS : va_S A H0 H locs) {i x : Int32} (hr : wA S 13 400 i x = some S1) (hdg : decode cc pc = .ok (.iastore, 1))
    (kk : ∀ (H1 : Heap) (locs1 : List Loc), va_P D vwCl (mW cy ad S1 Rw) H1 → va_D A (mW cy ad S1 Rw) → va_S A H0 H1 locs1 → W p l e R s m args below meth c H1 locs1 cells slots Q (F0 m (pc + 1) ls rest)) : W p l e R s m args below meth c H locs cells slots Q (F0 m pc ls (.int x :: .int i :: .ref (ad 14) :: rest)) := by
  obtain ⟨h1, rfl⟩ := wA_spec hr
  exact va_iast hexec hb hK hP hD hS 14 32 rfl rfl h1 hdg (fun H1 locs1 h2 h3 h4 => kk H1 locs1 h2 h3 h4)
theorem mgX6_0 (hexec : p.tables.exec = Jvm.exec) (hb : c.code = cc) (hts : ∀ w ∈ Ts, w.before args s = true) (hin : ∀ w ∈ u_ws RX6 TX6 22, w ∈ Ts) (hown : s.vm.findClass own = some m.cls) (hK : va_K D vwCl (gT cy ++ tx) s) (hP : va_P D vwCl (mW cy ad S Rw) H) (hlink : (Cond.fieldLink own index (TX6 0).1 (TX6 0).2.1 (TX6 0).2.2.1).before args s = true) (hdg : decode cc pc = .ok (.getfield index, 3))
    (kk : W p l e R s m args below meth c H locs cells slots Q (F0 m (pc + 3) ls (.int (S.1 0) :: rest))) : W p l e R s m args below meth c H locs cells slots Q (F0 m pc ls (.ref (ad 0) :: rest)) :=
  va_get (ci := 6) hexec hb hts hin hown hK hP 0 rfl rfl 0 (by decide) hlink (fun _ h => h) rfl hdg kk
theorem mpX6_0 (hexec : p.tables.exec = Jvm.exec) (hb : c.code = cc) (hts : ∀ w ∈ Ts, w.before args s = true) (hin : ∀ w ∈ u_ws RX6 TX6 22, w ∈ Ts) (hown : s.vm.findClass own = some m.cls) (hK : va_K D vwCl (gT cy ++ tx) s) (hP : va_P D vwCl (mW cy ad S Rw) H) (hD : va_D A (mW cy ad S Rw)) (hS : va_S A H0 H locs) (hlink : (Cond.fieldLink own index (TX6 0).1 (TX6 0).2.1 (TX6 0).2.2.1).before args s = true) {x : Int32} (hr : wN S 0 x = some S1) (hdg : decode cc pc = .ok (.putfield index, 3))
    (kk : ∀ (H1 : Heap) (locs1 : List Loc), va_P D vwCl (mW cy ad S1 Rw) H1 → va_D A (mW cy ad S1 Rw) → va_S A H0 H1 locs1 → W p l e R s m args below meth c H1 locs1 cells slots Q (F0 m (pc + 3) ls rest)) : W p l e R s m args below meth c H locs cells slots Q (F0 m pc ls (.int x :: .ref (ad 0) :: rest)) := by
  cases Option.some.inj hr
  exact va_put (ci := 6) (v := .int x) (ty := .int) hexec hb hts hin tyX6 tyX6_ok nmX6 hown hK hP hD hS 0 rfl rfl 0 (by decide) hlink (fun _ h => h) rfl (by decide +kernel) rfl rfl (Nat.le_of_ble_eq_true rfl) hdg (fun H1 locs1 h2 h3 h4 => kk H1 locs1 h2 h3 h4)
theorem mgX6_1 (hexec : p.tables.exec = Jvm.exec) (hb : c.code = cc) (hts : ∀ w ∈ Ts, w.before args s = true) (hin : ∀ w ∈ u_ws RX6 TX6 22, w ∈ Ts) (hown : s.vm.findClass own = some m.cls) (hK : va_K D vwCl (gT cy ++ tx) s) (hP : va_P D vwCl (mW cy ad S Rw) H) (hlink : (Cond.fieldLink own index (TX6 1).1 (TX6 1).2.1 (TX6 1).2.2.1).before args s = true) (hdg : decode cc pc = .ok (.getfield index, 3))
    (kk : W p l e R s m args below meth c H locs cells slots Q (F0 m (pc + 3) ls (.int (S.1 1) :: rest))) : W p l e R s m args below meth c H locs cells slots Q (F0 m pc ls (.ref (ad 0) :: rest)) :=
  va_get (ci := 6) hexec hb hts hin hown hK hP 0 rfl rfl 1 (by decide) hlink (fun _ h => h) rfl hdg kk
theorem mpX6_1 (hexec : p.tables.exec = Jvm.exec) (hb : c.code = cc) (hts : ∀ w ∈ Ts, w.before args s = true) (hin : ∀ w ∈ u_ws RX6 TX6 22, w ∈ Ts) (hown : s.vm.findClass own = some m.cls) (hK : va_K D vwCl (gT cy ++ tx) s) (hP : va_P D vwCl (mW cy ad S Rw) H) (hD : va_D A (mW cy ad S Rw)) (hS : va_S A H0 H locs) (hlink : (Cond.fieldLink own index (TX6 1).1 (TX6 1).2.1 (TX6 1).2.2.1).before args s = true) {x : Int32} (hr : wN S 1 x = some S1) (hdg : decode cc pc = .ok (.putfield index, 3))
    (kk : ∀ (H1 : Heap) (locs1 : List Loc), va_P D vwCl (mW cy ad S1 Rw) H1 → va_D A (mW cy ad S1 Rw) → va_S A H0 H1 locs1 → W p l e R s m args below meth c H1 locs1 cells slots Q (F0 m (pc + 3) ls rest)) : W p l e R s m args below meth c H locs cells slots Q (F0 m pc ls (.int x :: .ref (ad 0) :: rest)) := by
  cases Option.some.inj hr
  exact va_put (ci := 6) (v := .int x) (ty := .int) hexec hb hts hin tyX6 tyX6_ok nmX6 hown hK hP hD hS 0 rfl rfl 1 (by decide) hlink (fun _ h => h) rfl (by decide +kernel) rfl rfl (Nat.le_of_ble_eq_true rfl) hdg (fun H1 locs1 h2 h3 h4 => kk H1 locs1 h2 h3 h4)
theorem mgX6_2 (hexec : p.tables.exec = Jvm.exec) (hb : c.code = cc) (hts : ∀ w ∈ Ts, w.before args s = true) (hin : ∀ w ∈ u_ws RX6 TX6 22, w ∈ Ts) (hown : s.vm.findClass own = some m.cls) (hK : va_K D vwCl (gT cy ++ tx) s) (hP : va_P D vwCl (mW cy ad S Rw) H) (hlink : (Cond.fieldLink own index (TX6 2).1 (TX6 2).2.1 (TX6 2).2.2.1).before args s = true) (hdg : decode cc pc = .ok (.getfield index, 3))
    (kk : W p l e R s m args below meth c H locs cells slots Q (F0 m (pc + 3) ls (.ref (ad 1) :: rest))) : W p l e R s m args below meth c H locs cells slots Q (F0 m pc ls (.ref (ad 0) :: rest)) :=
  va_get (ci := 6) hexec hb hts hin hown hK hP 0 rfl rfl 2 (by decide) hlink (fun _ h => h) rfl hdg kk
theorem mgX6_3 (hexec : p.tables.exec = Jvm.exec) (hb : c.code = cc) (hts : ∀ w ∈ Ts, w.before args s = true) (hin : ∀ w ∈ u_ws RX6 TX6 22, w ∈ Ts) (hown : s.vm.findClass own = some m.cls) (hK : va_K D vwCl (gT cy ++ tx) s) (hP : va_P D vwCl (mW cy ad S Rw) H) (hlink : (Cond.fieldLink own index (TX6 3).1 (TX6 3).2.1 (TX6 3).2.2.1).before args s = true) (hdg : decode cc pc = .ok (.getfield index, 3))
    (kk : W p l e R s m args below meth c H locs cells slots Q (F0 m (pc + 3) ls (.ref (ad 2) :: rest))) : W p l e R s m args below meth c H locs cells slots Q (F0 m pc ls (.ref (ad 0) :: rest)) :=
  va_get (ci := 6) hexec hb hts hin hown hK hP 0 rfl rfl 3 (by decide) hlink (fun _ h => h) rfl hdg kk
theorem mgX6_4 (hexec : p.tables.exec = Jvm.exec) (hb : c.code = cc) (hts : ∀ w ∈ Ts, w.before args s = true) (hin : ∀ w ∈ u_ws RX6 TX6 22, w ∈ Ts) (hown : s.vm.findClass own = some m.cls) (hK : va_K D vwCl (gT cy ++ tx) s) (hP : va_P D vwCl (mW cy ad S Rw) H) (hlink : (Cond.fieldLink own index (TX6 4).1 (TX6 4).2.1 (TX6 4).2.2.1).before args s = true) (hdg : decode cc pc = .ok (.getfield index, 3))
    (kk : W p l e R s m args below meth c H locs cells slots Q (F0 m (pc + 3) ls (.int (S.1 2) :: rest))) : W p l e R s m args below meth c H locs cells slots Q (F0 m pc ls (.ref (ad 0) :: rest)) :=
  va_get (ci := 6) hexec hb hts hin hown hK hP 0 rfl rfl 4 (by decide) hlink (fun _ h => h) rfl hdg kk
theorem mpX6_4 (hexec : p.tables.exec = Jvm.exec) (hb : c.code = cc) (hts : ∀ w ∈ Ts, w.before args s = true) (hin : ∀ w ∈ u_ws RX6 TX6 22, w ∈ Ts) (hown : s.vm.findClass own = some m.cls) (hK : va_K D vwCl (gT cy ++ tx) s) (hP : va_P D vwCl (mW cy ad S Rw) H) (hD : va_D A (mW cy ad S Rw)) (hS : va_S A H0 H locs) (hlink : (Cond.fieldLink own index (TX6 4).1 (TX6 4).2.1 (TX6 4).2.2.1).before args s = true) {x : Int32} (hr : wN S 2 x = some S1) (hdg : decode cc pc = .ok (.putfield index, 3))
    (kk : ∀ (H1 : Heap) (locs1 : List Loc), va_P D vwCl (mW cy ad S1 Rw) H1 → va_D A (mW cy ad S1 Rw) → va_S A H0 H1 locs1 → W p l e R s m args below meth c H1 locs1 cells slots Q (F0 m (pc + 3) ls rest)) : W p l e R s m args below meth c H locs cells slots Q (F0 m pc ls (.int x :: .ref (ad 0) :: rest)) := by
  cases Option.some.inj hr
  exact va_put (ci := 6) (v := .int x) (ty := .int) hexec hb hts hin tyX6 tyX6_ok nmX6 hown hK hP hD hS 0 rfl rfl 4 (by decide) hlink (fun _ h => h) rfl (by decide +kernel) rfl rfl (Nat.le_of_ble_eq_true rfl) hdg (fun H1 locs1 h2 h3 h4 => kk H1 locs1 h2 h3 h4)
theorem mgX6_5 (hexec : p.tables.exec = Jvm.exec) (hb : c.code = cc) (hts : ∀ w ∈ Ts, w.before args s = true) (hin : ∀ w ∈ u_ws RX6 TX6 22, w ∈ Ts) (hown : s.vm.findClass own = some m.cls) (hK : va_K D vwCl (gT cy ++ tx) s) (hP : va_P D vwCl (mW cy ad S Rw) H) (hlink : (Cond.fieldLink own index (TX6 5).1 (TX6 5).2.1 (TX6 5).2.2.1).before args s = true) (hdg : decode cc pc = .ok (.getfield index, 3))
    (kk : W p l e R s m args below meth c H locs cells slots Q (F0 m (pc + 3) ls (.ref (ad 3) :: rest))) : W p l e R s m args below meth c H locs cells slots Q (F0 m pc ls (.ref (ad 0) :: rest)) :=
  va_get (ci := 6) hexec hb hts hin hown hK hP 0 rfl rfl 5 (by decide) hlink (fun _ h => h) rfl hdg kk
theorem mgX6_6 (hexec : p.tables.exec = Jvm.exec) (hb : c.code = cc) (hts : ∀ w ∈ Ts, w.before args s = true) (hin : ∀ w ∈ u_ws RX6 TX6 22, w ∈ Ts) (hown : s.vm.findClass own = some m.cls) (hK : va_K D vwCl (gT cy ++ tx) s) (hP : va_P D vwCl (mW cy ad S Rw) H) (hlink : (Cond.fieldLink own index (TX6 6).1 (TX6 6).2.1 (TX6 6).2.2.1).before args s = true) (hdg : decode cc pc = .ok (.getfield index, 3))
    (kk : W p l e R s m args below meth c H locs cells slots Q (F0 m (pc + 3) ls (.ref (ad 4) :: rest))) : W p l e R s m args below meth c H locs cells slots Q (F0 m pc ls (.ref (ad 0) :: rest)) :=
  va_get (ci := 6) hexec hb hts hin hown hK hP 0 rfl rfl 6 (by decide) hlink (fun _ h => h) rfl hdg kk
theorem mgX6_7 (hexec : p.tables.exec = Jvm.exec) (hb : c.code = cc) (hts : ∀ w ∈ Ts, w.before args s = true) (hin : ∀ w ∈ u_ws RX6 TX6 22, w ∈ Ts) (hown : s.vm.findClass own = some m.cls) (hK : va_K D vwCl (gT cy ++ tx) s) (hP : va_P D vwCl (mW cy ad S Rw) H) (hlink : (Cond.fieldLink own index (TX6 7).1 (TX6 7).2.1 (TX6 7).2.2.1).before args s = true) (hdg : decode cc pc = .ok (.getfield index, 3))
    (kk : W p l e R s m args below meth c H locs cells slots Q (F0 m (pc + 3) ls (.ref (ad 5) :: rest))) : W p l e R s m args below meth c H locs cells slots Q (F0 m pc ls (.ref (ad 0) :: rest)) :=
  va_get (ci := 6) hexec hb hts hin hown hK hP 0 rfl rfl 7 (by decide) hlink (fun _ h => h) rfl hdg kk
theorem mgX6_8 (hexec : p.tables.exec = Jvm.exec) (hb : c.code = cc) (hts : ∀ w ∈ Ts, w.before args s = true) (hin : ∀ w ∈ u_ws RX6 TX6 22, w ∈ Ts) (hown : s.vm.findClass own = some m.cls) (hK : va_K D vwCl (gT cy ++ tx) s) (hP : va_P D vwCl (mW cy ad S Rw) H) (hlink : (Cond.fieldLink own index (TX6 8).1 (TX6 8).2.1 (TX6 8).2.2.1).before args s = true) (hdg : decode cc pc = .ok (.getfield index, 3))
    (kk : W p l e R s m args below meth c H locs cells slots Q (F0 m (pc + 3) ls (.ref (ad 6) :: rest))) : W p l e R s m args below meth c H locs cells slots Q (F0 m pc ls (.ref (ad 0) :: rest)) :=
  va_get (ci := 6) hexec hb hts hin hown hK hP 0 rfl rfl 8 (by decide) hlink (fun _ h => h) rfl hdg kk
theorem mgX6_9 (hexec : p.tables.exec = Jvm.exec) (hb : c.code = cc) (hts : ∀ w ∈ Ts, w.before args s = true) (hin : ∀ w ∈ u_ws RX6 TX6 22, w ∈ Ts) (hown : s.vm.findClass own = some m.cls) (hK : va_K D vwCl (gT cy ++ tx) s) (hP : va_P D vwCl (mW cy ad S Rw) H) (hlink : (Cond.fieldLink own index (TX6 9).1 (TX6 9).2.1 (TX6 9).2.2.1).before args s = true) (hdg : decode cc pc = .ok (.getfield index, 3))
    (kk : W p l e R s m args below meth c H locs cells slots Q (F0 m (pc + 3) ls (.ref (ad 7) :: rest))) : W p l e R s m args below meth c H locs cells slots Q (F0 m pc ls (.ref (ad 0) :: rest)) :=
  va_get (ci := 6) hexec hb hts hin hown hK hP 0 rfl rfl 9 (by decide) hlink (fun _ h => h) rfl hdg kk
theorem mgX6_10 (hexec : p.tables.exec = Jvm.exec) (hb : c.code = cc) (hts : ∀ w ∈ Ts, w.before args s = true) (hin : ∀ w ∈ u_ws RX6 TX6 22, w ∈ Ts) (hown : s.vm.findClass own = some m.cls) (hK : va_K D vwCl (gT cy ++ tx) s) (hP : va_P D vwCl (mW cy ad S Rw) H) (hlink : (Cond.fieldLink own index (TX6 10).1 (TX6 10).2.1 (TX6 10).2.2.1).before args s = true) (hdg : decode cc pc = .ok (.getfield index, 3))
    (kk : W p l e R s m args below meth c H locs cells slots Q (F0 m (pc + 3) ls (.int (S.1 3) :: rest))) : W p l e R s m args below meth c H locs cells slots Q (F0 m pc ls (.ref (ad 0) :: rest)) :=
  va_get (ci := 6) hexec hb hts hin hown hK hP 0 rfl rfl 10 (by decide) hlink (fun _ h => h) rfl hdg kk
theorem mpX6_10 (hexec : p.tables.exec = Jvm.exec) (hb : c.code = cc) (hts : ∀ w ∈ Ts, w.before args s = true) (hin : ∀ w ∈ u_ws RX6 TX6 22, w ∈ Ts) (hown : s.vm.findClass own = some m.cls) (hK : va_K D vwCl (gT cy ++ tx) s) (hP : va_P D vwCl (mW cy ad S Rw) H) (hD : va_D A (mW cy ad S Rw)) (hS : va_S A H0 H locs) (hlink : (Cond.fieldLink own index (TX6 10).1 (TX6 10).2.1 (TX6 10).2.2.1).before args s = true) {x : Int32} (hr : wN S 3 x = some S1) (hdg : decode cc pc = .ok (.putfield index, 3))
    (kk : ∀ (H1 : Heap) (locs1 : List Loc), va_P D vwCl (mW cy ad S1 Rw) H1 → va_D A (mW cy ad S1 Rw) → va_S A H0 H1 locs1 → W p l e R s m args below meth c H1 locs1 cells slots Q (F0 m (pc + 3) ls rest)) : W p l e R s m args below meth c H locs cells slots Q (F0 m pc ls (.int x :: .ref (ad 0) :: rest)) := by
  cases Option.some.inj hr
  exact va_put (ci := 6) (v := .int x) (ty := .int) hexec hb hts hin tyX6 tyX6_ok nmX6 hown hK hP hD hS 0 rfl rfl 10 (by decide) hlink (fun _ h => h) rfl (by decide +kernel) rfl rfl (Nat.le_of_ble_eq_true rfl) hdg (fun H1 locs1 h2 h3 h4 => kk H1 locs1 h2 h3 h4)
theorem mgX6_11 (hexec : p.tables.exec = Jvm.exec) (hb : c.code = cc) (hts : ∀ w ∈ Ts, w.before args s = true) (hin : ∀ w ∈ u_ws RX6 TX6 22, w ∈ Ts) (hown : s.vm.findClass own = some m.cls) (hK : va_K D vwCl (gT cy ++ tx) s) (hP : va_P D vwCl (mW cy ad S Rw) H) (hlink : (Cond.fieldLink own index (TX6 11).1 (TX6 11).2.1 (TX6 11).2.2.1).before args s = true) (hdg : decode cc pc = .ok (.getfield index, 3))
    (kk : W p l e R s m args below meth c H locs cells slots Q (F0 m (pc + 3) ls (.int (S.1 4) :: rest))) : W p l e R s m args below meth c H locs cells slots Q (F0 m pc ls (.ref (ad 0) :: rest)) :=
  va_get (ci := 6) hexec hb hts hin hown hK hP 0 rfl rfl 11 (by decide) hlink (fun _ h => h) rfl hdg kk
theorem mpX6_11 (hexec : p.tables.exec = Jvm.exec) (hb : c.code = cc) (hts : ∀ w ∈ Ts, w.before args s = true) (hin : ∀ w ∈ u_ws RX6 TX6 22, w ∈ Ts) (hown : s.vm.findClass own = some m.cls) (hK : va_K D vwCl (gT cy ++ tx) s) (hP : va_P D vwCl (mW cy ad S Rw) H) (hD : va_D A (mW cy ad S Rw)) (hS : va_S A H0 H locs) (hlink : (Cond.fieldLink own index (TX6 11).1 (TX6 11).2.1 (TX6 11).2.2.1).before args s = true) {x : Int32} (hr : wN S 4 x = some S1) (hdg : decode cc pc = .ok (.putfield index, 3))
    (kk : ∀ (H1 : Heap) (locs1 : List Loc), va_P D vwCl (mW cy ad S1 Rw) H1 → va_D A (mW cy ad S1 Rw) → va_S A H0 H1 locs1 → W p l e R s m args below meth c H1 locs1 cells slots Q (F0 m (pc + 3) ls rest)) : W p l e R s m args below meth c H locs cells slots Q (F0 m pc ls (.int x :: .ref (ad 0) :: rest)) := by
  cases Option.some.inj hr
  exact va_put (ci := 6) (v := .int x) (ty := .int) hexec hb hts hin tyX6 tyX6_ok nmX6 hown hK hP hD hS 0 rfl rfl 11 (by decide) hlink (fun _ h => h) rfl (by decide +kernel) rfl rfl (Nat.le_of_ble_eq_true rfl) hdg (fun H1 locs1 h2 h3 h4 => kk H1 locs1 h2 h3 h4)
theorem mgX6_12 (hexec : p.tables.exec = Jvm.exec) (hb : c.code = cc) (hts : ∀ w ∈ Ts, w.before args s = true) (hin : ∀ w ∈ u_ws RX6 TX6 22, w ∈ Ts) (hown : s.vm.findClass own = some m.cls) (hK : va_K D vwCl (gT cy ++ tx) s) (hP : va_P D vwCl (mW cy ad S Rw) H) (hlink : (Cond.fieldLink own index (TX6 12).1 (TX6 12).2.1 (TX6 12).2.2.1).before args s = true) (hdg : decode cc pc = .ok (.getfield index, 3))
    (kk : W p l e R s m args below meth c H locs cells slots Q (F0 m (pc + 3) ls (.int (S.1 5) :: rest))) : W p l e R s m args below meth c H locs cells slots Q (F0 m pc ls (.ref (ad 0) :: rest)) :=
  va_get (ci := 6) hexec hb hts hin hown hK hP 0 rfl rfl 12 (by decide) hlink (fun _ h => h) rfl hdg kk
theorem mpX6_12 (hexec : p.tables.exec = Jvm.exec) (hb : c.code = cc) (hts : ∀ w ∈ Ts, w.before args s = true) (hin : ∀ w ∈ u_ws RX6 TX6 22, w ∈ Ts) (hown : s.vm.findClass own = some m.cls) (hK : va_K D vwCl (gT cy ++ tx) s) (hP : va_P D vwCl (mW cy ad S Rw) H) (hD : va_D A (mW cy ad S Rw)) (hS : va_S A H0 H locs) (hlink : (Cond.fieldLink own index (TX6 12).1 (TX6 12).2.1 (TX6 12).2.2.1).before args s = true) {x : Int32} (hr : wN S 5 x = some S1) (hdg : decode cc pc = .ok (.putfield index, 3))
    (kk : ∀ (H1 : Heap) (locs1 : List Loc), va_P D vwCl (mW cy ad S1 Rw) H1 → va_D A (mW cy ad S1 Rw) → va_S A H0 H1 locs1 → W p l e R s m args below meth c H1 locs1 cells slots Q (F0 m (pc + 3) ls rest)) : W p l e R s m args below meth c H locs cells slots Q (F0 m pc ls (.int x :: .ref (ad 0) :: rest)) := by
  cases Option.some.inj hr
  exact va_put (ci := 6) (v := .int x) (ty := .int) hexec hb hts hin tyX6 tyX6_ok nmX6 hown hK hP hD hS 0 rfl rfl 12 (by decide) hlink (fun _ h => h) rfl (by decide +kernel) rfl rfl (Nat.le_of_ble_eq_true rfl) hdg (fun H1 locs1 h2 h3 h4 => kk H1 locs1 h2 h3 h4)
theorem mgX6_13 (hexec : p.tables.exec = Jvm.exec) (hb : c.code = cc) (hts : ∀ w ∈ Ts, w.before args s = true) (hin : ∀ w ∈ u_ws RX6 TX6 22, w ∈ Ts) (hown : s.vm.findClass own = some m.cls) (hK : va_K D vwCl (gT cy ++ tx) s) (hP : va_P D vwCl (mW cy ad S Rw) H) (hlink : (Cond.fieldLink own index (TX6 13).1 (TX6 13).2.1 (TX6 13).2.2.1).before args s = true) (hdg : decode cc pc = .ok (.getfield index, 3))
    (kk : W p l e R s m args below meth c H locs cells slots Q (F0 m (pc + 3) ls (.int (S.1 6) :: rest))) : W p l e R s m args below meth c H locs cells slots Q (F0 m pc ls (.ref (ad 0) :: rest)) :=
  va_get (ci := 6) hexec hb hts hin hown hK hP 0 rfl rfl 13 (by decide) hlink (fun _ h => h) rfl hdg kk
theorem mpX6_13 (hexec : p.tables.exec = Jvm.exec) (hb : c.code = cc) (hts : ∀ w ∈ Ts, w.before args s = true) (hin : ∀ w ∈ u_ws RX6 TX6 22, w ∈ Ts) (hown : s.vm.findClass own = some m.cls) (hK : va_K D vwCl (gT cy ++ tx) s) (hP : va_P D vwCl (mW cy ad S Rw) H) (hD : va_D A (mW cy ad S Rw)) (hS : va_S A H0 H locs) (hlink : (Cond.fieldLink own index (TX6 13).1 (TX6 13).2.1 (TX6 13).2.2.1).before args s = true) {x : Int32} (hz : x = 0 ∨ x = 1) (hr : wN S 6 x = some S1) (hdg : decode cc pc = .ok (.putfield index, 3))
    (kk : ∀ (H1 : Heap) (locs1 : List Loc), va_P D vwCl (mW cy ad S1 Rw) H1 → va_D A (mW cy ad S1 Rw) → va_S A H0 H1 locs1 → W p l e R s m args below meth c H1 locs1 cells slots Q (F0 m (pc + 3) ls rest)) : W p l e R s m args below meth c H locs cells slots Q (F0 m pc ls (.int x :: .ref (ad 0) :: rest)) := by
  cases Option.some.inj hr
  exact va_put (ci := 6) (v := .int x) (ty := .boolean) hexec hb hts hin tyX6 tyX6_ok nmX6 hown hK hP hD hS 0 rfl rfl 13 (by decide) hlink (fun _ h => h) rfl (by decide +kernel) (by rcases hz with rfl | rfl <;> rfl) (by rcases hz with rfl | rfl <;> rfl) (Nat.le_of_ble_eq_true rfl) hdg (fun H1 locs1 h2 h3 h4 => kk H1 locs1 h2 h3 h4)
theorem mgX6_14 (hexec : p.tables.exec = Jvm.exec) (hb : c.code = cc) (hts : ∀ w ∈ Ts, w.before args s = true) (hin : ∀ w ∈ u_ws RX6 TX6 22, w ∈ Ts) (hown : s.vm.findClass own = some m.cls) (hK : va_K D vwCl (gT cy ++ tx) s) (hP : va_P D vwCl (mW cy ad S Rw) H) (hlink : (Cond.fieldLink own index (TX6 14).1 (TX6 14).2.1 (TX6 14).2.2.1).before args s = true) (hdg : decode cc pc = .ok (.getfield index, 3))
    (kk : W p l e R s m args below meth c H locs cells slots Q (F0 m (pc + 3) ls (.int (S.1 7) :: rest))) : W p l e R s m args below meth c H locs cells slots Q (F0 m pc ls (.ref (ad 0) :: rest)) :=
  va_get (ci := 6) hexec hb hts hin hown hK hP 0 rfl rfl 14 (by decide) hlink (fun _ h => h) rfl hdg kk
theorem mpX6_14 (hexec : p.tables.exec = Jvm.exec) (hb : c.code = cc) (hts : ∀ w ∈ Ts, w.before args s = true) (hin : ∀ w ∈ u_ws RX6 TX6 22, w ∈ Ts) (hown : s.vm.findClass own = some m.cls) (hK : va_K D vwCl (gT cy ++ tx) s) (hP : va_P D vwCl (mW cy ad S Rw) H) (hD : va_D A (mW cy ad S Rw)) (hS : va_S A H0 H locs) (hlink : (Cond.fieldLink own index (TX6 14).1 (TX6 14).2.1 (TX6 14).2.2.1).before args s = true) {x : Int32} (hr : wN S 7 x = some S1) (hdg : decode cc pc = .ok (.putfield index, 3))
    (kk : ∀ (H1 : Heap) (locs1 : List Loc), va_P D vwCl (mW cy ad S1 Rw) H1 → va_D A (mW cy ad S1 Rw) → va_S A H0 H1 locs1 → W p l e R s m args below meth c H1 locs1 cells slots Q (F0 m (pc + 3) ls rest)) : W p l e R s m args below meth c H locs cells slots Q (F0 m pc ls (.int x :: .ref (ad 0) :: rest)) := by
  cases Option.some.inj hr
  exact va_put (ci := 6) (v := .int x) (ty := .int) hexec hb hts hin tyX6 tyX6_ok nmX6 hown hK hP hD hS 0 rfl rfl 14 (by decide) hlink (fun _ h => h) rfl (by decide +kernel) rfl rfl (Nat.le_of_ble_eq_true rfl) hdg (fun H1 locs1 h2 h3 h4 => kk H1 locs1 h2 h3 h4)
theorem mgX6_15 (hexec : p.tables.exec = Jvm.exec) (hb : c.code = cc) (hts : ∀ w ∈ Ts, w.before args s = true) (hin : ∀ w ∈ u_ws RX6 TX6 22, w ∈ Ts) (hown : s.vm.findClass own = some m.cls) (hK : va_K D vwCl (gT cy ++ tx) s) (hP : va_P D vwCl (mW cy ad S Rw) H) (hlink : (Cond.fieldLink own index (TX6 15).1 (TX6 15).2.1 (TX6 15).2.2.1).before args s = true) (hdg : decode cc pc = .ok (.getfield index, 3))
    (kk : W p l e R s m args below meth c H locs cells slots Q (F0 m (pc + 3) ls (.ref (ad 8) :: rest))) : W p l e R s m args below meth c H locs cells slots Q (F0 m pc ls (.ref (ad 0) :: rest)) :=
  va_get (ci := 6) hexec hb hts hin hown hK hP 0 rfl rfl 15 (by decide) hlink (fun _ h => h) rfl hdg kk
theorem mgX6_16 (hexec : p.tables.exec = Jvm.exec) (hb : c.code = cc) (hts : ∀ w ∈ Ts, w.before args s = true) (hin : ∀ w ∈ u_ws RX6 TX6 22, w ∈ Ts) (hown : s.vm.findClass own = some m.cls) (hK : va_K D vwCl (gT cy ++ tx) s) (hP : va_P D vwCl (mW cy ad S Rw) H) (hlink : (Cond.fieldLink own index (TX6 16).1 (TX6 16).2.1 (TX6 16).2.2.1).before args s = true) (hdg : decode cc pc = .ok (.getfield index, 3))
    (kk : W p l e R s m args below meth c H locs cells slots Q (F0 m (pc + 3) ls (.ref (ad 9) :: rest))) : W p l e R s m args below meth c H locs cells slots Q (F0 m pc ls (.ref (ad 0) :: rest)) :=
  va_get (ci := 6) hexec hb hts hin hown hK hP 0 rfl rfl 16 (by decide) hlink (fun _ h => h) rfl hdg kk
theorem mgX6_17 (hexec : p.tables.exec = Jvm.exec) (hb : c.code = cc) (hts : ∀ w ∈ Ts, w.before args s = true) (hin : ∀ w ∈ u_ws RX6 TX6 22, w ∈ Ts) (hown : s.vm.findClass own = some m.cls) (hK : va_K D vwCl (gT cy ++ tx) s) (hP : va_P D vwCl (mW cy ad S Rw) H) (hlink : (Cond.fieldLink own index (TX6 17).1 (TX6 17).2.1 (TX6 17).2.2.1).before args s = true) (hdg : decode cc pc = .ok (.getfield index, 3))
    (kk : W p l e R s m args below meth c H locs cells slots Q (F0 m (pc + 3) ls (.ref (ad 10) :: rest))) : W p l e R s m args below meth c H locs cells slots Q (F0 m pc ls (.ref (ad 0) :: rest)) :=
  va_get (ci := 6) hexec hb hts hin hown hK hP 0 rfl rfl 17 (by decide) hlink (fun _ h => h) rfl hdg kk
theorem mgX6_18 (hexec : p.tables.exec = Jvm.exec) (hb : c.code = cc) (hts : ∀ w ∈ Ts, w.before args s = true) (hin : ∀ w ∈ u_ws RX6 TX6 22, w ∈ Ts) (hown : s.vm.findClass own = some m.cls) (hK : va_K D vwCl (gT cy ++ tx) s) (hP : va_P D vwCl (mW cy ad S Rw) H) (hlink : (Cond.fieldLink own index (TX6 18).1 (TX6 18).2.1 (TX6 18).2.2.1).before args s = true) (hdg : decode cc pc = .ok (.getfield index, 3))
    (kk : W p l e R s m args below meth c H locs cells slots Q (F0 m (pc + 3) ls (.ref (ad 11) :: rest))) : W p l e R s m args below meth c H locs cells slots Q (F0 m pc ls (.ref (ad 0) :: rest)) :=
  va_get (ci := 6) hexec hb hts hin hown hK hP 0 rfl rfl 18 (by decide) hlink (fun _ h => h) rfl hdg kk
theorem mgX6_19 (hexec : p.tables.exec = Jvm.exec) (hb : c.code = cc) (hts : ∀ w ∈ Ts, w.before args s = true) (hin : ∀ w ∈ u_ws RX6 TX6 22, w ∈ Ts) (hown : s.vm.findClass own = some m.cls) (hK : va_K D vwCl (gT cy ++ tx) s) (hP : va_P D vwCl (mW cy ad S Rw) H) (hlink : (Cond.fieldLink own index (TX6 19).1 (TX6 19).2.1 (TX6 19).2.2.1).before args s = true) (hdg : decode cc pc = .ok (.getfield index, 3))
    (kk : W p l e R s m args below meth c H locs cells slots Q (F0 m (pc + 3) ls (.ref (ad 12) :: rest))) : W p l e R s m args below meth c H locs cells slots Q (F0 m pc ls (.ref (ad 0) :: rest)) :=
  va_get (ci := 6) hexec hb hts hin hown hK hP 0 rfl rfl 19 (by decide) hlink (fun _ h => h) rfl hdg kk
theorem mgX6_20 (hexec : p.tables.exec = Jvm.exec) (hb : c.code = cc) (hts : ∀ w ∈ Ts, w.before args s = true) (hin : ∀ w ∈ u_ws RX6 TX6 22, w ∈ Ts) (hown : s.vm.findClass own = some m.cls) (hK : va_K D vwCl (gT cy ++ tx) s) (hP : va_P D vwCl (mW cy ad S Rw) H) (hlink : (Cond.fieldLink own index (TX6 20).1 (TX6 20).2.1 (TX6 20).2.2.1).before args s = true) (hdg : decode cc pc = .ok (.getfield index, 3))
    (kk : W p l e R s m args below meth c H locs cells slots Q (F0 m (pc + 3) ls (.ref (ad 13) :: rest))) : W p l e R s m args below meth c H locs cells slots Q (F0 m pc ls (.ref (ad 0) :: rest)) :=
  va_get (ci := 6) hexec hb hts hin hown hK hP 0 rfl rfl 20 (by decide) hlink (fun _ h => h) rfl hdg kk
theorem mgX6_21 (hexec : p.tables.exec = Jvm.exec) (hb : c.code = cc) (hts : ∀ w ∈ Ts, w.before args s = true) (hin : ∀ w ∈ u_ws RX6 TX6 22, w ∈ Ts) (hown : s.vm.findClass own = some m.cls) (hK : va_K D vwCl (gT cy ++ tx) s) (hP : va_P D vwCl (mW cy ad S Rw) H) (hlink : (Cond.fieldLink own index (TX6 21).1 (TX6 21).2.1 (TX6 21).2.2.1).before args s = true) (hdg : decode cc pc = .ok (.getfield index, 3))
    (kk : W p l e R s m args below meth c H locs cells slots Q (F0 m (pc + 3) ls (.ref (ad 14) :: rest))) : W p l e R s m args below meth c H locs cells slots Q (F0 m pc ls (.ref (ad 0) :: rest)) :=
  va_get (ci := 6) hexec hb hts hin hown hK hP 0 rfl rfl 21 (by decide) hlink (fun _ h => h) rfl hdg kk
theorem g_newN (hexec : p.tables.exec = Jvm.exec) (hb : c.code = cc) (harr : (Cond.arrayClass .int).before args s = true) (hK : va_K D vwCl (gT cy ++ tx) s) (hP : va_P D vwCl (mW cy ad S Rw) H) (hD : va_D A (mW cy ad S Rw)) (hS : va_S A H0 H locs) (hA : ∀ q, H0.size ≤ q → A q) (hcells : cells + 1 ≤ R.cells) (hslots : slots + 50 ≤ R.slots) (hdg : decode cc pc = .ok (.newarray .int, 2))
    (kk : ∀ (qe : Nat) (ce : ClassId) (H1 : Heap), va_K D vwCl (gT cy ++ ((ce, .int) :: tx)) s → va_P D vwCl (mW cy ad S ((qe, .inl (ce, 50, .inl (fun _ => 0))) :: Rw)) H1 → va_D A (mW cy ad S ((qe, .inl (ce, 50, .inl (fun _ => 0))) :: Rw)) → va_S A H0 H1 locs → W p l e R s m args below meth c H1 locs (cells + 1) (slots + 50) Q (F0 m (pc + 2) ls (.ref qe :: rest))) : W p l e R s m args below meth c H locs cells slots Q (F0 m pc ls (.int 50 :: rest)) := by
  refine va_newa (atype := .int) (ty := .int) (N' := 50) (a0 := (50, .inl (fun _ => 0))) hexec hb harr rfl hK hP hD hS hA (fun cA => rfl) (by decide) (by decide) (Nat.le_of_ble_eq_true rfl) hcells hslots hdg (fun q cA H1 hK1 hP1 hD1 hS1 => ?_)
  refine kk q cA H1 (vaK_iff.mpr ⟨hK1.1, fun x hx => ?_⟩) (vaP_iff.mpr (fun x hx => ?_)) (vaD_iff.mpr ⟨?_, fun x hx => ?_⟩) hS1
  · exact (vaK_iff.mp hK1).2 x (by simp only [List.mem_append, List.mem_cons, List.not_mem_nil, or_false] at hx ⊢; rcases hx with h | h | h <;> simp [h])
  · exact vaP_iff.mp hP1 x (by rw [mW_app] at hx ⊢; simp only [List.mem_append, List.mem_cons, List.not_mem_nil, or_false] at hx ⊢; rcases hx with h | h | h <;> simp [h])
  · have h := (vaD_iff.mp hD1).1
    rw [mW_app] at h ⊢
    refine h.perm ?_
    refine List.Perm.map _ ?_
    rw [List.append_assoc]
    exact List.Perm.append_left _ (List.perm_append_singleton _ _)
  · exact (vaD_iff.mp hD1).2 x (by rw [mW_app] at hx ⊢; simp only [List.mem_append, List.mem_cons, List.not_mem_nil, or_false] at hx ⊢; rcases hx with h | h | h <;> simp [h])
theorem mW_dropP {z : Nat × va_E} (h : va_P D vwCl (mW cy ad S (z :: Rw)) H) : va_P D vwCl (mW cy ad S Rw) H := by
  refine vaP_iff.mpr (fun x hx => vaP_iff.mp h x ?_)
  rw [mW_app] at hx ⊢
  simp only [List.mem_append, List.mem_cons] at hx ⊢
  rcases hx with h | h <;> simp [h]
theorem mW_dropD {z : Nat × va_E} (h : va_D A (mW cy ad S (z :: Rw))) : va_D A (mW cy ad S Rw) := by
  rw [vaD_iff] at h ⊢
  rw [mW_app] at h ⊢
  refine ⟨List.Nodup.sublist (List.Sublist.map _ (List.Sublist.append_left (List.sublist_cons_self _ _) _)) h.1, fun x hx => h.2 x ?_⟩
  simp only [List.mem_append, List.mem_cons] at hx ⊢
  rcases hx with h | h <;> simp [h]
theorem gT_drop {z : ClassId × FieldType} (h : va_K D vwCl (gT cy ++ (z :: tx)) s) : va_K D vwCl (gT cy ++ tx) s := by
  rw [vaK_iff] at h ⊢
  refine ⟨h.1, fun x hx => h.2 x ?_⟩
  simp only [List.mem_append, List.mem_cons] at hx ⊢
  rcases hx with h | h <;> simp [h]
end GWD
