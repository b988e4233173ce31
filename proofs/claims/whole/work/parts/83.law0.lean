/-! THE CLAIM OUT OF ONE WALK OF THE LAW'S BODY. Your part is whole_start (and what it stands on); all else here is the same for every law, but numbers. -/
def R_law : String := "InlinePlannerLaw"
def lw_P (b : Addr) (xs : List Int32) (args : Array Value) (s : State) : Prop := args = #[.ref b] ∧ s.IntsAt b xs ∧ xs.length ≤ 2560 ∧ (Jvm.Cond.and given_1 narrow_1).before args s = true
/-- what a walk over the start with the record d0 says of its end, said of the start itself -/
theorem lw_closed {s t : State} {o : Outcome} {d0 : Drawn} {L : List Loc} {k n : Nat} (hd0 : s.drawn.sameBut d0 lw_cs) (hv : ∃ v, o = .returned v) (hW : (s.setDrawn d0).WarmedH t.vm) (hs : (s.setDrawn d0).sameButNew ({ t with vm := s.vm } : State) L k n) : State.butDraws s t lw_cs (fun t1 => Framed s o t1 L k n) := by
  have h2 : t.drawn = d0 := congrArg State.drawn hs.1
  refine ⟨⟨hv, hW, State.sameButNew.setDrawn hs s.drawn⟩, ?_, by decide⟩
  rw [h2]
  exact hd0
def lw_Q (_ : Array Value) (s : State) (o : Outcome) (t : State) : Prop := o = .returned (some (.int 1)) ∧ State.butDraws s t lw_cs (fun t1 => Framed s o t1 [] 601024 7293034)
def lw_Z (below : List Frame) (a : Array Value) (s : State) : State → Prop := fun t => ∃ o, t.status = .running ∧ Ended t below o ∧ lw_Q a s o t
/-- the law's own end, with 1 on the stack, nothing written that was there before, its room as the claim has it; d0: the record of draws at this point (at the entry s.drawn: begin with 'refine W.base ?_' and 'have hd0 := Drawn.sameBut.refl s.drawn lw_cs') -/
theorem lw_ret {p : Program} {l : Launch} {e : Env} {s : State} {m : MethodId} {below : List Frame} {meth : Method} {c : Code} {b : Nat} {d0 : Drawn} (hd0 : s.drawn.sameBut d0 lw_cs) (hx : p.tables.exec = Jvm.exec) (hb : c.code = code) (hr : meth.sig.returnType = ret) (hlocks : meth.locks = false) {pc : Nat} {H : Heap} {ls : Array Slot} (hdg : decode code pc = .ok (.ireturn, 1)) : W p l e room_1 (s.setDrawn d0) m #[Value.ref b] below meth c H [] 601024 7293034 (lw_Z below #[Value.ref b] s) (F0 m pc ls [.int 1]) := by
  intro T hT X
  obtain ⟨fs, hret, hrun, hended, hW, hframe⟩ := X.leave (v := some (.int 1)) (hlocks := hlocks) (fun h => by rw [hr] at h; cases h)
  have hmeth' : T.vm.method? m = some meth := X.method'
  refine ⟨T.setFrames fs, ?_, .returned (some (.int 1)), hrun, hended, rfl, lw_closed hd0 ⟨_, rfl⟩ hW hframe⟩
  jvm_step X.here [X.here.top, hx, hb, hdg, hmeth', hr, ret, narrow_b1]
  (try refine ⟨rfl, ?_⟩); (try refine ⟨rfl, ?_⟩)
  first | (intro acts; rw [hret _ acts rfl rfl rfl]) | rw [hret _ _ rfl rfl rfl]
  exact Steps.refl _
/-- what holds at the law's entry: the machine, the code, the tables' words (any of lw_tbl by 'hts w (by decide +kernel)'), the script of L ints xs at the cell b, what the Statement gives of the start (any of its parts by flat_of_before) -/
def lw_At (p : Program) (s : State) (m : MethodId) (meth : Method) (c : Code) (b L : Nat) (xs : Nat → Int32) : Prop :=
  p.tables.exec = Jvm.exec ∧ c.code = code ∧ meth.sig.returnType = ret ∧ c.maxLocals = 9 ∧ s.vm.findClass R_law = some m.cls ∧ (∀ w ∈ lw_tbl, w.before #[Value.ref b] s = true) ∧ va_X b L xs s s.heap ∧ b < s.heap.size ∧ meth.locks = false ∧ (Jvm.Cond.and given_1 narrow_1).before #[Value.ref b] s = true

/-- the cells that the law makes -/
def lA (s : State) : Nat → Prop := fun q => s.heap.size ≤ q
abbrev oC (cy : Nat → ClassId) (qo : Nat) (ov : Nat → Int64) : Nat × va_E := (qo, .inl (cy 33, 1, .inr (.inl ov)))
abbrev dD (cy : Nat → ClassId) (qd : Nat) (dv : Nat → UInt64) : Nat × va_E := (qd, .inl (cy 34, 1, .inr (.inr (.inr (.inl dv)))))
/-- all that the law holds: the class, its two rows of one place, the reference -/
def wL (cy : Nat → ClassId) (ad am : Nat → Nat) (qo qd : Nat) (S M : PS) (ov : Nat → Int64) (dv : Nat → UInt64) : va_W := xW cy ad S (oC cy qo ov :: dD cy qd dv :: mW cy am M [])
theorem vaP_perm {D : va_G} {cl : List vw_C} {ws ws' : va_W} {H : Heap} (hp : ws.Perm ws') (h : va_P D cl ws H) : va_P D cl ws' H := vaP_iff.mpr (fun q hq => vaP_iff.mp h q (hp.mem_iff.mpr hq))
theorem vaD_perm {A : Nat → Prop} {ws ws' : va_W} (hp : ws.Perm ws') (h : va_D A ws) : va_D A ws' := by
  rw [vaD_iff] at h ⊢
  exact ⟨h.1.perm (hp.map _), fun q hq => h.2 q (hp.mem_iff.mpr hq)⟩
section LWA
variable {D : va_G} {cl : List vw_C} {H : Heap} {A : Nat → Prop} {cy : Nat → ClassId} {ad am : Nat → Nat} {qo qd : Nat} {S M : PS} {ov : Nat → Int64} {dv : Nat → UInt64}
theorem wL_B : (wL cy ad am qo qd S M ov dv).Perm (xW cy ad S (dD cy qd dv :: oC cy qo ov :: mW cy am M [])) := by
  unfold wL
  rw [xW_app, xW_app cy ad S (dD cy qd dv :: oC cy qo ov :: mW cy am M [])]
  exact List.Perm.append_left _ (List.Perm.swap _ _ _)
theorem wL_C : (wL cy ad am qo qd S M ov dv).Perm (mW cy am M (oC cy qo ov :: dD cy qd dv :: xW cy ad S [])) := by
  unfold wL
  rw [xW_app, mW_app cy am M (oC cy qo ov :: dD cy qd dv :: xW cy ad S [])]
  refine (List.perm_append_comm).trans ?_
  refine List.Perm.trans ?_ (List.perm_middle).symm
  refine List.Perm.cons _ ?_
  exact (List.perm_middle).symm
theorem wL_toBP (h : va_P D cl (wL cy ad am qo qd S M ov dv) H) : va_P D cl (xW cy ad S (dD cy qd dv :: oC cy qo ov :: mW cy am M [])) H := vaP_perm wL_B h
theorem wL_toBD (h : va_D A (wL cy ad am qo qd S M ov dv)) : va_D A (xW cy ad S (dD cy qd dv :: oC cy qo ov :: mW cy am M [])) := vaD_perm wL_B h
theorem wL_ofBP (h : va_P D cl (xW cy ad S (dD cy qd dv :: oC cy qo ov :: mW cy am M [])) H) : va_P D cl (wL cy ad am qo qd S M ov dv) H := vaP_perm wL_B.symm h
theorem wL_ofBD (h : va_D A (xW cy ad S (dD cy qd dv :: oC cy qo ov :: mW cy am M []))) : va_D A (wL cy ad am qo qd S M ov dv) := vaD_perm wL_B.symm h
theorem wL_toCP (h : va_P D cl (wL cy ad am qo qd S M ov dv) H) : va_P D cl (mW cy am M (oC cy qo ov :: dD cy qd dv :: xW cy ad S [])) H := vaP_perm wL_C h
theorem wL_toCD (h : va_D A (wL cy ad am qo qd S M ov dv)) : va_D A (mW cy am M (oC cy qo ov :: dD cy qd dv :: xW cy ad S [])) := vaD_perm wL_C h
theorem wL_ofCP (h : va_P D cl (mW cy am M (oC cy qo ov :: dD cy qd dv :: xW cy ad S [])) H) : va_P D cl (wL cy ad am qo qd S M ov dv) H := vaP_perm wL_C.symm h
theorem wL_ofCD (h : va_D A (mW cy am M (oC cy qo ov :: dD cy qd dv :: xW cy ad S []))) : va_D A (wL cy ad am qo qd S M ov dv) := vaD_perm wL_C.symm h
end LWA
section LWR
variable {p : Program} {l : Launch} {e : Env} {R : Room} {s : State} {m : MethodId} {args : Array Value} {below : List Frame} {meth : Method} {c : Code} {H : Heap} {locs : List Loc} {cells slots : Nat} {Q : State → Prop}
variable {cc : ByteArray} {pc : Nat} {ls : Array Slot} {rest st0 : List Value} {D : va_G} {A : Nat → Prop} {tys : List (ClassId × FieldType)} {Wd Wd' : va_W} {H0 : Heap}
theorem g_sld {b L : Nat} {xs : Nat → Int32} (hexec : p.tables.exec = Jvm.exec) (hb : c.code = cc) (hX : va_X b L xs s H0) (hbl : b < H0.size) (hbA : ¬ A b) (hS : va_S A H0 H locs) {i v : Int32} (hr : rd xs L i = some v) (hdg : decode cc pc = .ok (.iaload, 1))
    (kk : W p l e R s m args below meth c H locs cells slots Q (F0 m (pc + 1) ls (.int v :: rest))) : W p l e R s m args below meth c H locs cells slots Q (F0 m pc ls (.int i :: .ref b :: rest)) := by
  obtain ⟨h1, rfl⟩ := rd_spec hr
  exact va_sld hexec hb hX hbl hbA hS h1 hdg kk
theorem g_cL {v : Int32} {y : MethodName} {bytes : ByteArray} {maxL nL mc ms n index : Nat} {ret : Option FieldType} {hh : List (Nat × Nat × Nat × Nat)} {ws Ts : List Cond} {rm : Room} {own : String} {As : List Value} (C : CallFix p m c cc nL s args Ts own) (hM : gLi l y ws rm mc ms D tys As H.size Wd Wd' v) (cw : vx_CSW R s args own index y bytes maxL ret hh ws rm mc ms n) (hP : va_P D vwCl Wd H) (hK : va_K D vwCl tys s) (hD : va_D A Wd) (hS : va_S A s.heap H locs) (hA : ∀ q, s.heap.size ≤ q → A q) (hE : gX A s) (hn : As.length = n) (hsize : ls.size = nL) (hstk : st0 = As.reverse ++ rest) (hw : (rest.map fun v => v.category).sum ≤ 8) (hdg : decode cc pc = .ok (.invokestatic index, 3)) (hf : cells + mc ≤ R.cells ∧ slots + ms ≤ R.slots)
    (kk : ∀ (H1 : Heap) (locs1 : List Loc), va_P D vwCl Wd' H1 → va_D A Wd' → va_S A s.heap H1 locs1 → W p l e R s m args below meth c H1 locs1 (cells + mc) (slots + ms) Q (F0 m (pc + 3) ls (.int v :: rest))) : W p l e R s m args below meth c H locs cells slots Q (F0 m pc ls st0) := by
  have hF := gFree hD hS hA
  refine vx_calli (vx_runSX C hM cw ⟨gPre.blind _, gPre.to hP hK hD hS hA hE⟩ rfl hn hsize hstk (lv_room hw) hdg hf) hS (fun q _ h => hF q h) hF (fun q _ h => hF q h) (fun E ce q9 u t H1 locs1 ht hvm hw hB hz hk hS1 hce hcv hcl => hw.elim) (fun r u t H1 locs1 ht hvm hw hB hz hk hS1 => ?_)
  subst hw
  obtain ⟨hP1, -, hD1⟩ := hB
  rw [ht] at hP1
  exact kk H1 locs1 hP1 (hD1.weaken (fun k q _ h => hF q.1 h)) hS1
end LWR
/-- what the loop's head gives: from there on, with a state whose pure run ends with 1, the law ends with 1 -/
def lw_K (p : Program) (l : Launch) (e : Env) (s : State) (m : MethodId) (below : List Frame) (meth : Method) (c : Code) (b : Nat) (D : va_G) (cy : Nat → ClassId) (ad am : Nat → Nat) (qo qd : Nat) (rec : PS → PS → (Nat → Int64) → (Nat → UInt64) → Int32 → Option Int32) (kc ks : Nat) : Prop :=
  ∀ (S M : PS) (ov : Nat → Int64) (dv : Nat → UInt64) (x5 : Int32) (H : Heap) (locs : List Loc) (ls : Array Slot), va_P D vwCl (wL cy ad am qo qd S M ov dv) H → va_D (lA s) (wL cy ad am qo qd S M ov dv) → va_S (lA s) s.heap H locs → lv_has ls 9 [(0, .ref b), (1, .ref (ad 0)), (2, .ref (am 0)), (3, .ref qo), (4, .ref qd), (5, .int x5)] → rec S M ov dv x5 = some 1 → W p l e room_1 s m #[Value.ref b] below meth c H locs kc ks (lw_Z below #[Value.ref b] s) (F0 m 28 ls [])
