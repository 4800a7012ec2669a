section XMore
variable {w : xWd} {M MC : xM} {d : Nat} {Q Qc : Outcome → xH → Prop} {pc idx : Nat} {ls : List (Option Value)} {st : List Value} {P : xH}
/-- a contract out of the walk from the entry -/
theorem xC_of {As : List Value} (hy : plainFor M.1 = true) (hl : (lg_sl As).length ≤ M.2.2.1) (hls : xl ls 0 = lv_args 0 As) (k : X w M d Q 0 ls [] P) : xC w d M As P Q := by
  intro ok
  refine MetFree.of_bodySF (code := M.2.1) (maxLocals := M.2.2.1) (ret := M.2.2.2.1) hy ?_ ?_
  · intro args s m h hn
    obtain ⟨meth, c, h1, h2, h3, h4, h5, h6, -, -⟩ := xcw_spec hn (atoms_spec (ws := [xcw M]) h _ List.mem_cons_self)
    exact ⟨meth, c, h1, h2, h3, h4, h5, h6⟩
  · intro p e s m args below meth c s₁ B hml hP _
    obtain ⟨rfl, hW, hH⟩ := hP
    have hh0 : s₁.heap = s.heap := by rw [B.state]; rfl
    obtain ⟨meth9, c9, k1, k2, -, -, -, -, k7, -⟩ := xcw_spec B.named (atoms_spec (ws := [xcw M]) B.pre _ List.mem_cons_self)
    cases Option.some.inj (k1.symm.trans B.method)
    cases Option.some.inj (k2.symm.trans (Stand.of_body B).code)
    have he := lv_entry As (n := M.2.2.1) hl
    have hb := hH.2.2.2.2.2
    have F : xFr w M d P p (headSpec [xcw M] (xrm w d P)).room s m meth c := ⟨B.exec, B.bytes, hml, B.returns, B.notSynchronized, findClass_of_methodNamed B.named, (name_of_methodNamed B.named B.method).1, hW, k7, hH.old, hH.1, Nat.le_refl _, Nat.le_refl _, by show w.z + 601024 - P.2.1 + P.2.1 = _; omega, by show 7293034 - P.2.2 + P.2.2 = _; omega⟩
    have K := k ok p e _ s m As.toArray below meth c P s.heap [] _ F (Nat.le_refl _) (Nat.le_refl _) hH (fun q hq => by cases hq) (⟨he.1, he.2.1, fun i v hi => he.2.2 (i, v) (by rw [← hls]; exact (xl_in ls 0 i v).mpr ⟨i, by omega, hi⟩)⟩ : xLs _ _ ls)
    rw [← lg_entry_eq, Nat.sub_self, Nat.sub_self] at K
    obtain ⟨t, a1, o, b1, b2, b3⟩ := K s₁ hh0 (Stand.of_body B)
    exact ⟨t, o, a1, b1, b2, b3⟩
theorem X_objInit {a : Nat} (hd : decode M.2.1 pc = .ok (.invokespecial idx, 3)) (hw1 : Cond.methodLink M.1.cls idx objectInit ∈ lw_tbl) (hw2 : Cond.instanceMethod objectInit ∈ lw_tbl) (hw3 : Cond.code objectInit ⟨#[0xb1]⟩ 1 none ∈ lw_tbl) (hst : (st.map fun v => v.category).sum ≤ 8) (k : X w M d Q (pc + 3) ls st P) : X w M d Q pc ls (.ref a :: st) P := by
  intro ok p e R s m args below meth c P0 H locs lsA F h1 h2 hH hL hls
  have hW := F.2.2.2.2.2.2.2.1
  obtain ⟨hF1, hF2, r1, r2⟩ := F.2.2.2.2.2.2.2.2.2.2.2
  exact W.objInit F.1 F.2.1 F.2.2.2.2.2.1 (xw ok hW hw1 rfl) (xw ok hW hw2 rfl) (xw ok hW hw3 rfl) rfl (hls.1.trans F.2.2.1.symm) rfl hd (by omega) (by
    show 2 * 0 + _ + 12 ≤ R.locals
    omega) (k ok p e R s m args below meth c P0 H locs lsA F h1 h2 hH hL hls)
theorem x_backI {R : Room} {p : Program} {e : Env} {below : List Frame} {s : State} {sargs : Array Value} {As : List Value} (hnt : ∀ q P1, ¬ Qc (.threw q) P1) (hK : vx_Back w.l R p e below s sargs MC.1 3 8 (xPre w R As P) (xPost w P Qc) (xPostX w P Qc)) : Back w.l R p e below s sargs MC.1 3 8 (xPre w R As P) (xPost w P Qc) := by
  intro m meth c A g ig mk a X hg hsz hdg hW hn hp
  rcases hK m meth c A g ig mk a X hg hsz hdg hW hn hp with h | ⟨q, B, -, ⟨P1, hQ, -⟩, -⟩
  · exact h
  · exact absurd hQ (hnt q P1)
theorem X_callI {b n : Nat} {As : List Value} (hd : decode M.2.1 pc = .ok (.invokespecial idx, 3)) (hc : xCal MC n) (hcd : xcw MC = Cond.code MC.1 MC.2.1 MC.2.2.1 none) (hi : MC.1.name = "<init>") (hw1 : Cond.methodLink M.1.cls idx MC.1 ∈ lw_tbl) (hw2 : Cond.instanceMethod MC.1 ∈ lw_tbl) (hn : As.length = n) (hC : xC w d MC (.ref b :: As) P Qc) (hnt : ∀ q P1, ¬ Qc (.threw q) P1) (hst : (st.map fun v => v.category).sum ≤ 8)
    (kr : ∀ v P1, Qc (.returned v) P1 → X w M (d + 1) Q (pc + 3) ls (v.toList ++ st) P1) : X w M (d + 1) Q pc ls (As.reverse ++ .ref b :: st) P := by
  intro ok p e R s m args below meth c P0 H locs lsA F h1 h2 hH hL hls T9 hT X9
  have hW := F.2.2.2.2.2.2.2.1
  obtain ⟨hF1, hF2, r1, r2⟩ := F.2.2.2.2.2.2.2.2.2.2.2
  obtain ⟨c1, c2, c3, c4, c5, c6⟩ := id hc
  have hK := x_backI hnt (x_back (R := R) (p := p) (e := e) (below := below) (s := s) (sargs := args) ok hC hW (by omega) (by omega) c1 c2 c3)
  obtain ⟨R1, R2⟩ := xRoomC (P1 := P) hH h1 h2 r1 r2
  have hcod := xw (args := args) ok hW c1 c2
  rw [hcd] at hcod
  have hdc : decode c.code pc = .ok (.invokespecial idx, 3) := by rw [F.2.1]; exact hd
  obtain ⟨v, vm₁, ⟨U1, L1, c1', s1'⟩, hW₁, X', ⟨P1, hQ, hHp, p1, p2, e1, e2, L, e3, hLL⟩, hst9⟩ := callI X9 F.1 F.2.2.2.2.2.1 hi (xw ok hW hw1 rfl) (xw ok hW hw2 rfl) hcod c4 hK (g := F0 m pc lsA (As.reverse ++ .ref b :: st)) rfl (hls.1.trans F.2.2.1.symm) (a := b) (argsL := As) (rest := st) (hc.len hn) rfl (lv_room hst) hdc
    (fun vm₁ hW₁ => ⟨rfl, by show xHp w P T9.heap; rw [hT]; exact hH, R1, R2⟩)
  dsimp only [Pt.U, Pt.locs, Pt.cells, Pt.slots] at X' e1 e2 e3 hHp hst9
  subst e1; subst e2; subst e3
  rw [show P.2.1 - P0.2.1 + (P1.2.1 - P.2.1) = P1.2.1 - P0.2.1 by omega, show P.2.2 - P0.2.2 + (P1.2.2 - P.2.2) = P1.2.2 - P0.2.2 by omega] at X'
  obtain ⟨t2, a1, b1⟩ := kr v P1 hQ ok p e R s m args below meth c P0 U1.heap (locs ++ L) lsA F (Nat.le_trans h1 p1) (Nat.le_trans h2 p2) hHp (fun q hq => (List.mem_append.mp hq).elim (hL q) (hLL q)) hls U1 rfl X'
  exact ⟨t2, hst9 _ a1, b1⟩
theorem X_callIN {b n : Nat} {host : String} {As : List Value} (hd : decode M.2.1 pc = .ok (.invokespecial idx, 3)) (hc : xCal MC n) (hcd : xcw MC = Cond.code MC.1 MC.2.1 MC.2.2.1 none) (hi : MC.1.name = "<init>") (hw1 : Cond.methodLinkNest M.1.cls idx MC.1 host ∈ lw_tbl) (hw2 : Cond.instanceMethod MC.1 ∈ lw_tbl) (hn : As.length = n) (hC : xC w d MC (.ref b :: As) P Qc) (hnt : ∀ q P1, ¬ Qc (.threw q) P1) (hst : (st.map fun v => v.category).sum ≤ 8)
    (kr : ∀ v P1, Qc (.returned v) P1 → X w M (d + 1) Q (pc + 3) ls (v.toList ++ st) P1) : X w M (d + 1) Q pc ls (As.reverse ++ .ref b :: st) P := by
  intro ok p e R s m args below meth c P0 H locs lsA F h1 h2 hH hL hls T9 hT X9
  have hW := F.2.2.2.2.2.2.2.1
  obtain ⟨hF1, hF2, r1, r2⟩ := F.2.2.2.2.2.2.2.2.2.2.2
  obtain ⟨c1, c2, c3, c4, c5, c6⟩ := id hc
  have hK := x_backI hnt (x_back (R := R) (p := p) (e := e) (below := below) (s := s) (sargs := args) ok hC hW (by omega) (by omega) c1 c2 c3)
  obtain ⟨R1, R2⟩ := xRoomC (P1 := P) hH h1 h2 r1 r2
  have hcod := xw (args := args) ok hW c1 c2
  rw [hcd] at hcod
  have hdc : decode c.code pc = .ok (.invokespecial idx, 3) := by rw [F.2.1]; exact hd
  obtain ⟨v, vm₁, ⟨U1, L1, c1', s1'⟩, hW₁, X', ⟨P1, hQ, hHp, p1, p2, e1, e2, L, e3, hLL⟩, hst9⟩ := va_callIN X9 F.1 F.2.2.2.2.2.1 hi (xwM ok hW hw1) (xw ok hW hw2 rfl) hcod c4 hK (g := F0 m pc lsA (As.reverse ++ .ref b :: st)) rfl (hls.1.trans F.2.2.1.symm) (a := b) (argsL := As) (rest := st) (hc.len hn) rfl (lv_room hst) hdc
    (fun vm₁ hW₁ => ⟨rfl, by show xHp w P T9.heap; rw [hT]; exact hH, R1, R2⟩)
  dsimp only [Pt.U, Pt.locs, Pt.cells, Pt.slots] at X' e1 e2 e3 hHp hst9
  subst e1; subst e2; subst e3
  rw [show P.2.1 - P0.2.1 + (P1.2.1 - P.2.1) = P1.2.1 - P0.2.1 by omega, show P.2.2 - P0.2.2 + (P1.2.2 - P.2.2) = P1.2.2 - P0.2.2 by omega] at X'
  obtain ⟨t2, a1, b1⟩ := kr v P1 hQ ok p e R s m args below meth c P0 U1.heap (locs ++ L) lsA F (Nat.le_trans h1 p1) (Nat.le_trans h2 p2) hHp (fun q hq => (List.mem_append.mp hq).elim (hL q) (hLL q)) hls U1 rfl X'
  exact ⟨t2, hst9 _ a1, b1⟩
/-! catching: a table is read row by row, from any state that is as warm as the entry's; a row whose class isn't noted yet is the same row with the note made -/
/-- a row in range, looked at before its class is noted and after -/
theorem xk_cold {e : Env} {f : JFrame} {a : Addr} {y : ExceptionTableEntry} {k : ClassId} {S : State} (hy : covers y f.pc = true) (hn : y.catchType ≠ 0) (hk : S.vm.ClassLinks e.platform f.method.cls y.catchType k) (t : List ExceptionTableEntry) (G : Handler → Pre) (N : CtlPost) (b : Bool) (acts : List Action) :
    wp (findHandler.go f a (y :: t)) G N e b acts S ↔ wp (findHandler.go f a (y :: t)) G N e b acts (S.setVm (S.vm.noted f.method.cls y.catchType (.cls k))) := by
  have r1 := (resolveClass_links e.toSetting hk).op (op := VmOp.resolveClass f.method.cls y.catchType) rfl
  obtain ⟨z, hz, hr⟩ := hk.ready
  have r2 := resolveClass_memo e hz hr
  have hss : ∀ v : Vm, (S.setVm v).setVm v = S.setVm v := fun _ => rfl
  simp only [covers] at hy
  simp [findHandler.go, hy, hn, r1.1, r1.2, r2.1, r2.2, VmOp.dirties, VmOp.acts, hss]
/-- the rows lead the thing at a (cell ce) to pc1, whatever is noted by then -/
def xk_to (e : Env) (s0 : State) (f : JFrame) (a : Addr) (ce : Cell) (rows : List ExceptionTableEntry) (pc1 : Nat) : Prop :=
  ∀ S : State, s0.WarmedH S.vm → S.heap[a]? = some ce → ∃ v : Vm, s0.WarmedH v ∧ ∀ (G : Handler → Pre) (N : CtlPost) (b : Bool) (acts : List Action), G (.found pc1) b acts (S.setVm v) → wp (findHandler.go f a rows) G N e b acts S
section XK
variable {e : Env} {s0 : State} {f : JFrame} {a : Addr} {ce : Cell} {y : ExceptionTableEntry} {k : ClassId} {t : List ExceptionTableEntry} {pc1 : Nat}
/-- behind a row in range: the note, and what the row says of the thing -/
theorem xk_row (hv : ce.vm = .none) (hz : ∃ z, s0.vm.classes[ce.cls]? = some z) (hy : covers y f.pc = true) (hn : y.catchType ≠ 0) (hk : s0.vm.ClassLinks e.platform f.method.cls y.catchType k) {S : State} (hW : s0.WarmedH S.vm) (hc : S.heap[a]? = some ce) :
    ∃ v : Vm, s0.WarmedH v ∧ ∀ (G : Handler → Pre) (N : CtlPost) (b : Bool) (acts : List Action), (if s0.vm.assignable ce.cls k = true then G (.found y.handlerPc) b acts (S.setVm v) else wp (findHandler.go f a t) G N e b acts (S.setVm v)) → wp (findHandler.go f a (y :: t)) G N e b acts S := by
  have hS := hW.classLinks hk
  have hall := hk.here
  rcases hall with ⟨_, _, _, zk, q1, -, -, -, -, q2, -, q3⟩
  have hV : s0.WarmedH (S.vm.noted f.method.cls y.catchType (.cls k)) := hW.noted q1 q3 (State.rightAt_cls hk)
  have up : ∀ {i : ClassId}, (∃ z, s0.vm.classes[i]? = some z) → ∃ z, (S.vm.noted f.method.cls y.catchType (.cls k)).classes[i]? = some z := fun ⟨z, h⟩ => by
    rcases hV.alike.2.2 _ _ h with ⟨z', h', -⟩
    exact ⟨z', h'⟩
  refine ⟨_, hV, fun G N b acts h => ?_⟩
  refine (xk_cold hy hn hS t G N b acts).mpr ((W.findHandler_go_class (s := S.setVm (S.vm.noted f.method.cls y.catchType (.cls k))) (cell := ce) hy hn hS.ready hc (fun i hi => by rw [hv] at hi; cases hi) (up hz) (up ⟨zk, q2⟩)).mpr ?_)
  show (if (S.vm.noted f.method.cls y.catchType (.cls k)).assignable ce.cls k = true then _ else _)
  rw [hV.alike.assignable]
  exact h
/-- the row takes it -/
theorem xk_take (hv : ce.vm = .none) (hz : ∃ z, s0.vm.classes[ce.cls]? = some z) (hy : covers y f.pc = true) (hn : y.catchType ≠ 0) (hk : s0.vm.ClassLinks e.platform f.method.cls y.catchType k) (hfit : s0.vm.assignable ce.cls k = true) : xk_to e s0 f a ce (y :: t) y.handlerPc := fun S hW hc => by
  obtain ⟨v, hV, h⟩ := xk_row (t := t) hv hz hy hn hk hW hc
  exact ⟨v, hV, fun G N b acts g => h G N b acts (by rw [if_pos hfit]; exact g)⟩
/-- the row lets it pass -/
theorem xk_pass (hv : ce.vm = .none) (hz : ∃ z, s0.vm.classes[ce.cls]? = some z) (hn : y.catchType ≠ 0) (hk : s0.vm.ClassLinks e.platform f.method.cls y.catchType k) (hno : s0.vm.assignable ce.cls k = false) (h : xk_to e s0 f a ce t pc1) : xk_to e s0 f a ce (y :: t) pc1 := fun S hW hc => by
  cases hy : covers y f.pc
  · obtain ⟨v, hV, g⟩ := h S hW hc
    exact ⟨v, hV, fun G N b acts g1 => (W.findHandler_go_skip hy).mpr (g G N b acts g1)⟩
  · obtain ⟨v, hV, g⟩ := xk_row (t := t) hv hz hy hn hk hW hc
    obtain ⟨v2, hV2, g2⟩ := h (S.setVm v) hV hc
    exact ⟨v2, hV2, fun G N b acts g1 => g G N b acts (by rw [if_neg (by rw [hno]; exact Bool.false_ne_true)]; exact g2 G N b acts g1)⟩
end XK
/-- one step: the frame goes on at the row's handler, with the thing alone on its stack -/
theorem xk_jump {p : Program} {l : Launch} {e : Env} {R : Room} {s : State} {m : MethodId} {args : Array Value} {below : List Frame} {meth : Method} {c : Code} {H : Heap} {locs : List Loc} {cells slots pc1 : Nat} {K : State → Prop} {lsA : Array Slot} {ce : Cell} {q : Addr}
    (hto : e.platform.magicAccessors = ({} : Platform).magicAccessors → xk_to e s (F0 m pc lsA st) q ce c.exceptionTable.toList pc1) (hc : H[q]? = some ce) (kk : W p l e R s m args below meth c H locs cells slots K (F0 m pc1 lsA [.ref q])) : vx_W p l e R s m args below meth c H locs cells slots K (F0 m pc lsA st) q := by
  intro T hT X
  have htop := X.here.top
  obtain ⟨v, hV, hgo⟩ := hto (by rw [X.admits.platform]) ((T.setTop (F0 m pc lsA st)).pushFrame (.throwing q)) X.warmed (by show T.heap[q]? = _; rw [hT]; exact hc)
  obtain ⟨t, st1, hK⟩ := kk (T.setVm v) hT (X.noted hV)
  refine ⟨t, ?_, hK⟩
  obtain ⟨w1, w2⟩ := At.throwing (g := F0 m pc lsA st) X.here q
  have hm : ((T.setTop (F0 m pc lsA st)).pushFrame (.throwing q)).vm.method? m = some meth := X.method'
  have hone : (stepThread p.tables e ((T.setTop (F0 m pc lsA st)).pushFrame (.throwing q))).1 = (T.setVm v).setTop (F0 m pc1 lsA [.ref q]) := by
    rw [stepThread_throwing (frames_entered htop _)]
    simp only [stepThrowing, searchFrame, vmDo]
    generalize hr : Sem.go _ e false [] _ = res
    obtain ⟨as, hres, -⟩ := Sem.eq_ok_of hr (a := Handler.found pc1) (s' := ((T.setTop (F0 m pc lsA st)).pushFrame (.throwing q)).setVm v) (acts' := []) (by
      rw [wp_bind']
      refine (W.findHandler_eq (f := F0 m pc lsA st) (a := q) hm X.code).mpr (hgo _ _ _ _ ?_)
      simp)
    rw [hres]
    obtain ⟨g0, hg0⟩ := Option.isSome_iff_exists.mp htop
    obtain ⟨r0, hr0⟩ := State.topJava?_eq_some.mp hg0
    have hr1 : (T.setVm v).frames = .java g0 :: r0 := hr0
    rw [State.setTop_of_frames _ hr1, State.setTop_of_frames _ hr0, hr0]
    show ((((T.setVm v).setFrames _).setFrames _).setFrames _) = _
    rw [State.setFrames_setFrames, State.setFrames_setFrames]
    rfl
  exact Steps.head w1 w2 (by rw [hone]; exact st1)
/-- caught by the first row of the table -/
theorem xThrown {s : State} {H : Heap} {q9 k : Nat} {E : String} {T : u_T} (ok : xOK w) (hW : w.S.WarmedH s.vm) (hH : xHp w P H) (hP : P.1 q9 = some (xO k [])) (hk : xCl[k]? = some (E, T, 0)) : ∃ ce : Cell, H[q9]? = some ce ∧ ce.vm = .none ∧ s.vm.findClass E = some ce.cls := by
  obtain ⟨rr, hrr, cell, g1, g2, g3, -⟩ := (hH.one hP) 0 _ rfl
  exact ⟨cell, g1, g3, by rw [g2]; exact ((xKm ok hW).1 k _ hk).2.1⟩
/-- the words of a row: its class links, and the thing fits it -/
theorem xk_words {e : Env} {s : State} {args : Array Value} {m : MethodId} {ce : Cell} {own nm E : String} {i : Nat} (hpl : e.platform.magicAccessors = ({} : Platform).magicAccessors) (hown : s.vm.findClass own = some m.cls) (h1 : (Cond.classLink own i nm).before args s = true) (h2 : (Cond.castable E nm).before args s = true) (hE : s.vm.findClass E = some ce.cls) :
    ∃ k : ClassId, s.vm.ClassLinks e.platform m.cls i k ∧ s.vm.assignable ce.cls k = true := by
  obtain ⟨k, f1, f2⟩ := Cond.classLink_spec hown h1 e.platform hpl
  obtain ⟨i1, i2, f3, f4, f5⟩ := Cond.castable_spec h2
  rw [hE] at f3
  rw [f1] at f4
  cases f3
  cases f4
  exact ⟨_, f2, f5⟩
theorem Xt_catch {q9 k : Nat} {E nm : String} {T : u_T} {x : Nat × Nat × Nat × Nat} {suf : List (Nat × Nat × Nat × Nat)} (hh : M.2.2.2.2 = x :: suf) (hx : covers ⟨x.1, x.2.1, x.2.2.1, x.2.2.2⟩ pc = true) (h0 : x.2.2.2 ≠ 0) (hw1 : Cond.classLink M.1.cls x.2.2.2 nm ∈ lw_tbl) (hw2 : Cond.castable E nm ∈ lw_tbl) (hP : P.1 q9 = some (xO k [])) (hk : xCl[k]? = some (E, T, 0)) (kk : X w M d Q x.2.2.1 ls [.ref q9] P) : Xt w M d Q pc ls st P q9 := by
  intro ok p e R s m args below meth c P0 H locs lsA F h1 h2 hH hL hls
  have hW := F.2.2.2.2.2.2.2.1
  obtain ⟨ce, g1, g3, g2⟩ := xThrown ok hW hH hP hk
  refine xk_jump (ce := ce) (pc1 := x.2.2.1) (fun hpl => ?_) g1 (kk ok p e R s m args below meth c P0 H locs lsA F h1 h2 hH hL hls)
  obtain ⟨k1, f1, f2⟩ := xk_words (args := args) (m := m) hpl F.2.2.2.2.2.1 (xw ok hW hw1 rfl) (xwC ok hW hw2) g2
  rw [F.2.2.2.2.2.2.2.2.1, hh]
  exact xk_take (y := ⟨x.1, x.2.1, x.2.2.1, x.2.2.2⟩) (t := tableOf suf) g3 (Vm.classAt_of_findClass g2) hx h0 f1 f2
/-- caught by the second row: the first names another class -/
theorem Xt_catch2 {q9 : Nat} {nm nm1 : String} {x x1 : Nat × Nat × Nat × Nat} {suf : List (Nat × Nat × Nat × Nat)} (hh : M.2.2.2.2 = x1 :: x :: suf) (h01 : x1.2.2.2 ≠ 0) (hw0 : Cond.classLink M.1.cls x1.2.2.2 xIOE ∈ lw_tbl) (hx : covers ⟨x.1, x.2.1, x.2.2.1, x.2.2.2⟩ pc = true) (h0 : x.2.2.2 ≠ 0) (hw1 : Cond.classLink M.1.cls x.2.2.2 nm ∈ lw_tbl) (hw2 : Cond.castable xIAE nm ∈ lw_tbl) (hP : P.1 q9 = some (xO 12 [])) (kk : X w M d Q x.2.2.1 ls [.ref q9] P) : Xt w M d Q pc ls st P q9 := by
  intro ok p e R s m args below meth c P0 H locs lsA F h1 h2 hH hL hls
  have hW := F.2.2.2.2.2.2.2.1
  obtain ⟨ce, g1, g3, g2⟩ := xThrown (E := xIAE) (T := TX2) ok hW hH hP rfl
  refine xk_jump (ce := ce) (pc1 := x.2.2.1) (fun hpl => ?_) g1 (kk ok p e R s m args below meth c P0 H locs lsA F h1 h2 hH hL hls)
  obtain ⟨k1, f1, f2⟩ := xk_words (args := args) (m := m) hpl F.2.2.2.2.2.1 (xw ok hW hw1 rfl) (xwC ok hW hw2) g2
  obtain ⟨k0, u1, u2⟩ := Cond.classLink_spec (args := args) F.2.2.2.2.2.1 (xw ok hW hw0 rfl) e.platform hpl
  obtain ⟨n1, n2, v1, v2, v3⟩ := va_Nc.moved hW.alike ok.2.2.2.2.2.2.1
  rw [g2] at v1
  rw [u1] at v2
  cases v1
  cases v2
  have hz := Vm.classAt_of_findClass g2
  rw [F.2.2.2.2.2.2.2.2.1, hh]
  exact xk_pass (y := ⟨x1.1, x1.2.1, x1.2.2.1, x1.2.2.2⟩) (t := tableOf (x :: suf)) g3 hz h01 u2 v3 (xk_take (y := ⟨x.1, x.2.1, x.2.2.1, x.2.2.2⟩) (t := tableOf suf) g3 hz hx h0 f1 f2)
/-- a word that may be used in every frame -/
def xgw : Cond → Bool
  | .castable _ _ => true
  | .declares _ => true
  | c => goodWord c
theorem xgw_at {s : State} {args : Array Value} (ok : xOK w) (hW : w.S.WarmedH s.vm) {c : Cond} (hc : c ∈ lw_tbl) (hg : xgw c = true) : c.before args s = true := by
  cases c
  case castable a b => exact xwC ok hW hc
  case declares y => exact va_Nw.use rfl (va_Nw.warmD hW (va_Nw.of rfl (ok.1 _ hc)))
  all_goals exact xw ok hW hc hg
theorem xot_good {c : Cond} (h : goodWord c = true) : vx_ot c = true := by simp [vx_ot, h]
theorem xot_of {c : Cond} (hg : xgw c = true) : vx_ot c = true := by
  cases c
  case castable a b => rfl
  case declares y => rfl
  all_goals exact xot_good hg
/-- throw new E() -/
theorem X_throw0 {k ik ic : Nat} {E : String} {nms : List String} (hd0 : decode M.2.1 pc = .ok (.new ik, 3)) (hd3 : decode M.2.1 (pc + 3) = .ok (.dup, 1)) (hd4 : decode M.2.1 (pc + 4) = .ok (.invokespecial ic, 3)) (hd7 : decode M.2.1 (pc + 7) = .ok (.athrow, 1)) (hh : M.2.2.2.2 = []) (hk : xCl[k]? = some (E, TX2, 0)) (hcls : Bundle.fit E = true) (hnms : nms.length = 2 ∧ ∀ n ∈ nms, Bundle.fit n = true)
    (hw : ∀ c ∈ Cond.classLink M.1.cls ik E :: Cond.initialized E :: vx_at0 M.1.cls ic E nms, c ∈ lw_tbl ∧ xgw c = true) (hst : (st.map fun v => v.category).sum ≤ 8) (hr1 : P.2.1 + 1 ≤ w.z + 601024) (hr2 : P.2.2 + 6 ≤ 7293034) (hq : Q (.threw P.2.1) (xal P (xO k []) 6)) : X w M d Q pc ls st P := by
  intro ok p e R s m args below meth c P0 H locs lsA F h1 h2 hH hL hls T hT X9
  have hW0' := F.2.2.2.2.2.2.2.1
  obtain ⟨hF1, hF2, r1, r2⟩ := F.2.2.2.2.2.2.2.2.2.2.2
  have hown := F.2.2.2.2.2.1
  have hsz0 : s.heap.size ≤ H.size := by rw [F.2.2.2.2.2.2.2.2.2.2.1, hH.1]; exact h1
  have hS : va_S (fun q => w.z ≤ q) s.heap H locs := xS F.2.2.2.2.2.2.2.2.2.1 hsz0 hH hL
  have hold : ∀ a : Nat, a < w.S.heap.size → ¬ (w.z ≤ a) → s.heap[a]? = w.S.heap[a]? := fun a ha _ => F.2.2.2.2.2.2.2.2.2.1.2.1 a ha
  have hU : vx_Zq Bundle.tN "UNASSIGNED_STACK" Bundle.steD (fun q => w.z ≤ q) s s.heap := vx_Zq.moved hW0'.alike (ok.2.2.2.1.1.kept hold)
  have hN : vx_Zq Bundle.tN "SUPPRESSED_SENTINEL" Bundle.listD (fun q => w.z ≤ q) s s.heap := vx_Zq.moved hW0'.alike (ok.2.2.2.1.2.kept hold)
  have htr : e.platform.stackTraces = false := (show e.platform.stackTraces = w.l.stackTraces by rw [X9.admits.platform]).trans ok.2.2.1
  have Y := vx_rebase X9 (R' := { frames := R.frames, locals := R.locals, cells := 1, slots := 6 }) (Nat.le_refl _) (Nat.le_refl _) (by show P.2.1 - P0.2.1 + 1 ≤ R.cells; omega) (by show P.2.2 - P0.2.2 + 6 ≤ R.slots; omega)
  obtain ⟨s', hA⟩ : ∃ z, z = (T.setVm s.vm).setFrames (.invoking m args :: below) := ⟨_, rfl⟩
  rw [← hA] at Y
  have hvm : s'.vm = s.vm := by rw [hA]; rfl
  have hhp : s'.heap = H := by rw [hA]; exact hT
  have hW0 : s.WarmedH s'.vm := by rw [hvm]; exact State.WarmedH.refl s
  have hws' : ∀ c ∈ Cond.classLink M.1.cls ik E :: Cond.initialized E :: vx_at0 M.1.cls ic E nms, c.before args s' = true := fun c hc => vx_ot_at hW0 hvm.symm (xot_of (hw c hc).2) (xgw_at (args := args) ok hW0' (hw c hc).1 (hw c hc).2)
  have hat' : ∀ c ∈ vx_at0 M.1.cls ic E nms, c.before args s' = true := fun c hc => hws' c (List.mem_cons_of_mem _ (List.mem_cons_of_mem _ hc))
  have hk' : (Cond.classLink M.1.cls ik E).before args s' = true := hws' _ List.mem_cons_self
  have hini' : (Cond.initialized E).before args s' = true := hws' _ (List.mem_cons_of_mem _ List.mem_cons_self)
  have hU' : vx_Zq Bundle.tN "UNASSIGNED_STACK" Bundle.steD (fun q => w.z ≤ q) s' s'.heap := by rw [hhp]; exact vx_Zq.moved hW0.alike (hU.kept hS.2.1)
  have hN' : vx_Zq Bundle.tN "SUPPRESSED_SENTINEL" Bundle.listD (fun q => w.z ≤ q) s' s'.heap := by rw [hhp]; exact vx_Zq.moved hW0.alike (hN.kept hS.2.1)
  have h : ∀ c ∈ Bundle.ownAtoms0 M.1.cls ic E nms, c.before args s' = true := vx_own hat' (vx_isRefq hU'.1) (vx_isRefq hN'.1) hU'.2.word hN'.2.word
  have hown' : s'.vm.findClass M.1.cls = some m.cls := by rw [hvm]; exact hown
  have hins : (Cond.instantiable E 6).before args s' = true := h _ (by simp [Bundle.ownAtoms0])
  have hb := F.2.1
  have hlocks := F.2.2.2.2.1
  obtain ⟨vm₁, cX, kX, hfX, hkX, -, -, X₁, st1⟩ := Y.newCold F.1 (own := M.1.cls) (C := E) (index := ik) (n := 6) hown' hk' hins hini'
    (g := F0 m pc lsA st) rfl (by rw [hb]; exact hd0) (Nat.le_refl _) (Nat.le_refl _)
  generalize hT1 : (T.setVm vm₁).pushCell { cls := cX, slots := kX.instanceTypes.map defaultValue, vm := .none } = T1 at X₁ st1
  have hcat : (Value.ref T.heap.size).category = 1 := rfl
  have hcellA : T1.heap[T.heap.size]? = some (freshCell cX kX) := by rw [← hT1]; exact State.heap_pushCell_size _ _
  have d3' : decode c.code (pc + 3) = .ok (.dup, 1) := by rw [hb]; exact hd3
  have hexec := F.1
  obtain ⟨U, hsteps, hrun, hend, hW, hsame, ce, hce, hO⟩ := X₁.ctorThrow0 hexec htr (own := M.1.cls) (cls := E) (names := nms) (ic := ic) hown' hcls hnms.2 h (fun x hx => nomatch hx) hfX hkX hcellA (by rw [hhp, hT]; exact Nat.le_refl _)
    (g := { method := m, pc := pc + 4, locals := lsA, stack := .ref T.heap.size :: .ref T.heap.size :: st, locked := none }) rfl (hls.1.trans F.2.2.1.symm) rfl rfl (rest := st) rfl
    (by rw [hb]; exact hd4) (by rw [hb]; exact hd7) (by
      intro x hx
      rw [F.2.2.2.2.2.2.2.2.1, hh] at hx
      cases hx) (by show nms.length + 3 < R.frames; rw [hnms.1]; omega) (by
      simp only [List.map_cons, List.sum_cons, hcat]
      rw [hnms.1]
      show 2 * 0 + _ + _ ≤ R.locals
      omega) hlocks
  obtain ⟨f1, f2⟩ := vx_frame hsame
  rw [hhp] at f1 f2
  have hWs : s.WarmedH U.vm := State.WarmedH.trans hW0 hW
  have hcl : s.vm.findClass E = some ce.cls := by
    have h9 := hO.cls
    rw [hvm] at h9
    exact h9
  have hTs : T.heap.size = P.2.1 := by rw [hT]; exact hH.1
  have hUs : U.heap.size = P.2.1 + 1 := by
    have u1 : U.heap.size ≤ s'.heap.size + (0 + 1) := hsame.2.2.1
    have u2 : T.heap.size < U.heap.size := (Array.getElem?_eq_some_iff.mp hce).1
    rw [hhp, hH.1] at u1
    omega
  have hall : s.sameButNew ({ U with vm := s.vm } : State) locs (P.2.1 + 1 - P0.2.1) (P.2.2 + 6 - P0.2.2) := by
    subst hA
    obtain ⟨e1, e2⟩ := hsame
    rw [State.setFrames_setFrames] at e1
    have h2' : (T.setVm s.vm).sameButNew ({ U with vm := s.vm } : State) [] (0 + 1) (0 + 6) := ⟨e1, e2⟩
    have h3 := X9.same.trans h2'
    rw [List.append_nil] at h3
    exact h3.mono (by omega) (by omega)
  rw [hTs] at hce
  refine ⟨U, ?_, .threw T.heap.size, hrun, hend, xal P (xO k []) 6, by rw [hTs]; exact hq, ?_, Nat.le_succ_of_le h1, Nat.le_trans h2 (Nat.le_add_right _ _), hWs, locs, hall, hL⟩
  · refine st1 _ ?_
    show Steps p.tables e below (T1.setTop { method := m, pc := pc + 3, locals := lsA, stack := .ref T.heap.size :: st, locked := none }) _
    jvm_step X₁.here [X₁.here.top, hexec, d3', Value.category]
    exact hsteps
  · refine hH.push (xO k []) 6 hUs (fun q hq9 => f2 q (by rw [hH.1]; exact hq9) (fun z hz => nomatch hz)) ⟨_, hk, ce, hce, ?_, hO.vm, fun i hi => absurd hi (Nat.not_lt_zero i)⟩ (fun c9 h9 => by rw [hce] at h9; cases h9; rw [hO.vm]; rfl) hr1 hr2
    exact Option.some.inj (hcl.symm.trans ((xKm ok hW0').1 k _ hk).2.1)
end XMore
