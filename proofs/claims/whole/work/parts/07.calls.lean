section XCalls
/-- what a code word says -/
theorem xcw_spec {M : xM} {args : Array Value} {s : State} {m : MethodId} (hn : s.methodNamed? M.1 = some m) (h : (xcw M).before args s = true) : ∃ (meth : Method) (c : Code), s.vm.method? m = some meth ∧ meth.code = some c ∧ c.code = M.2.1 ∧ c.maxLocals = M.2.2.1 ∧ meth.sig.returnType = M.2.2.2.1 ∧ meth.locks = false ∧ c.exceptionTable.toList = tableOf M.2.2.2.2 ∧ parseMethodDescriptor M.1.desc = some meth.sig := by
  obtain ⟨y, cc, nL, ret, hh⟩ := M
  cases hh with
  | nil =>
    obtain ⟨meth, c, h1, h2, h3, h4, h5, h6, h7, h8⟩ := Cond.code_spec hn h
    refine ⟨meth, c, h1, h2, h3, h4, h5, h6, ?_, h8⟩
    rw [Array.isEmpty_iff.mp h7]; rfl
  | cons a t =>
    obtain ⟨m9, meth, c, hn9, h1, h2, h3, h4, h5, h6, h7, h8⟩ := Cond.codeWith_spec h
    cases Option.some.inj (hn9.symm.trans hn)
    exact ⟨meth, c, h1, h2, h3, h4, h6, h7, by rw [← h5, table_eq], h8⟩
variable {w : xWd}
def xPre (w : xWd) (R : Room) (As : List Value) (P : xH) : Pt → Array Value → Prop := fun A a => a = As.toArray ∧ xHp w P A.U.heap ∧ A.cells + (w.z + 601024 - P.2.1) ≤ R.cells ∧ A.slots + (7293034 - P.2.2) ≤ R.slots
def xPost (w : xWd) (P : xH) (Qc : Outcome → xH → Prop) : Pt → Array Value → Option Value → Pt → Prop := fun A _ v B => ∃ P', Qc (.returned v) P' ∧ xHp w P' B.U.heap ∧ P.2.1 ≤ P'.2.1 ∧ P.2.2 ≤ P'.2.2 ∧ B.cells = A.cells + (P'.2.1 - P.2.1) ∧ B.slots = A.slots + (P'.2.2 - P.2.2) ∧ ∃ L, B.locs = A.locs ++ L ∧ ∀ q ∈ L, w.z ≤ q.base
def xPostX (w : xWd) (P : xH) (Qc : Outcome → xH → Prop) : Pt → Array Value → Addr → Pt → Prop := fun A _ q B => ∃ P', Qc (.threw q) P' ∧ xHp w P' B.U.heap ∧ P.2.1 ≤ P'.2.1 ∧ P.2.2 ≤ P'.2.2 ∧ B.cells = A.cells + (P'.2.1 - P.2.1) ∧ B.slots = A.slots + (P'.2.2 - P.2.2) ∧ ∃ L, B.locs = A.locs ++ L ∧ ∀ q ∈ L, w.z ≤ q.base
theorem x_back {R : Room} {p : Program} {e : Env} {below : List Frame} {s : State} {sargs : Array Value} {d : Nat} {M : xM} {As : List Value} {P : xH} {Qc : Outcome → xH → Prop} (ok : xOK w) (hC : xC w d M As P Qc) (hSW : w.S.WarmedH s.vm) (hframes : d + 8 + 1 ≤ R.frames) (hlocals : 8 + (M.2.2.1 + 11) + (64 * d + 128) ≤ R.locals)
    (hcw : xcw M ∈ lw_tbl) (hgw : goodWord (xcw M) = true) (hini : Cond.initialized M.1.cls ∈ lw_tbl) :
    vx_Back w.l R p e below s sargs M.1 3 8 (xPre w R As P) (xPost w P Qc) (xPostX w P Qc) := by
  intro m meth c A g ig mk a X hg hsize hdg hW hn hp
  obtain ⟨ha, hHp, hp1, hp2⟩ := hp
  have hSU : w.S.WarmedH A.U.vm := hSW.trans X.warmed
  have h1 : (headSpec [xcw M] (xrm w d P)).pre.before a A.U = true := atoms_intro fun c hc => by rw [List.mem_singleton.mp hc]; exact xw ok hSU hcw hgw
  have h3 : (Cond.initialized M.1.cls).before a A.U = true := xw ok hSU hini rfl
  have h4 : A.cells + (headSpec [xcw M] (xrm w d P)).room.cells ≤ R.cells := hp1
  have h5 : A.slots + (headSpec [xcw M] (xrm w d P)).room.slots ≤ R.slots := hp2
  obtain ⟨U, Ls, c0, s0⟩ := A
  dsimp only [Pt.U, Pt.locs, Pt.cells, Pt.slots] at h1 h3 h4 h5 X hn hHp hSU ⊢
  obtain ⟨methY, cY, hmY, hcY, -, hlY, -⟩ := xcw_spec hn (xw (args := a) ok hSU hcw hgw)
  obtain ⟨kY, hkY, -⟩ := className_of_methodNamed hn
  have hinitY : kY.init = .initialized := Cond.initialized_spec (findClass_of_methodNamed hn) hkY h3
  have h : At U g.method c below := by rw [hg]; exact X.here
  have happ : (headSpec [xcw M] (xrm w d P)).appliesLoose M.1 e.platform (U.calling g mk a) = true :=
    Spec.appliesLoose_calling (g := g) h hdg hn hkY hinitY
      (X.room_calling (g := g) (R' := (headSpec [xcw M] (xrm w d P)).room) hsize hmY hcY hframes (by
        rw [hlY]
        show _ + (M.2.2.1 + 11) + (64 * d + 128) ≤ R.locals
        omega) h4 h5) h1
  obtain ⟨mid, hmid⟩ := h.above
  have hfr : (U.setTop g).frames = (.java g :: mid) ++ below := by rw [State.frames_setTop' g h.top, hmid]; rfl
  obtain ⟨o, s₂, hsteps, -, hend, hq⟩ := Steps.callFree (hC ok) p X.admits X.cas X.clock (acts := []) hfr happ ⟨ha, hSU, hHp⟩ trivial
  have hq' : xEnd w P Qc (U.calling g mk a) o s₂ := hq
  rw [State.frames_setTop' g h.top] at hend
  obtain ⟨g₀, hg0⟩ := Option.isSome_iff_exists.mp h.top
  obtain ⟨r, hr⟩ := State.topJava?_eq_some.mp hg0
  have hr' : (({ U with heap := s₂.heap, slotsUsed := s₂.slotsUsed } : State).setVm s₂.vm).frames = .java g₀ :: r := hr
  obtain ⟨P', hQ, hHp', hP1, hP2, hW₂, L, hsm, hL⟩ := hq'
  obtain ⟨e2, q2, q3, q4, q5, q6⟩ := id hsm
  have e3 : s₂ = ({ (U.calling g mk a).setFrames s₂.frames with heap := s₂.heap, slotsUsed := s₂.slotsUsed } : State).setVm s₂.vm := by
    have : s₂ = ({ s₂ with vm := (U.calling g mk a).vm } : State).setVm s₂.vm := rfl
    rw [e2] at this
    exact this
  have hW' : U.WarmedH s₂.vm := hW₂
  have hsame : U.sameButNew ({ U with heap := s₂.heap, slotsUsed := s₂.slotsUsed } : State) L (P'.2.1 - P.2.1) (P'.2.2 - P.2.2) := by
    refine ⟨?_, q2, q3, q4, q5, q6⟩
    obtain ⟨t, ht, -⟩ := State.frames_cons hr
    show ({ U with heap := s₂.heap, slotsUsed := s₂.slotsUsed } : State) = { U.setFrames U.frames with heap := s₂.heap, slotsUsed := s₂.slotsUsed }
    rw [State.setFrames_self ht]
  cases o with
  | returned v =>
    obtain ⟨c₂, i₂, len₂, hc₂, hd₂, hf₂⟩ := hend
    have hcc : c₂ = c := by
      have h1 : s₂.code? g.method = U.code? g.method := by
        rw [State.code?_eq, State.code?_eq, hW'.alike.method?]
      exact Option.some.inj (hc₂.symm.trans (h1.trans h.code))
    subst hcc
    have hlen : len₂ = 3 := by rw [hdg] at hd₂; cases hd₂; rfl
    subst hlen
    have hs₂ : s₂ = (({ U with heap := s₂.heap, slotsUsed := s₂.slotsUsed } : State).setVm s₂.vm).setTop { g with pc := g.pc + 3, stack := v.toList ++ g.stack } := by
      refine e3.trans ?_
      rw [hf₂, State.calling_eq h.top, State.setFrames_setFrames, State.setTop_of_frames _ hr', hr]
      rfl
    subst hg
    refine Or.inl ⟨v, ⟨(({ U with heap := s₂.heap, slotsUsed := s₂.slotsUsed } : State).setVm s₂.vm), Ls ++ L, c0 + (P'.2.1 - P.2.1), s0 + (P'.2.2 - P.2.2)⟩,
      ⟨X.admits, X.cas, X.clock, X.frames, X.room, X.hears, X.method, X.code, (X.here.setHeapUsed s₂.heap s₂.slotsUsed).setVm hW'.alike, X.tail, State.WarmedH.trans X.warmed hW', X.limits, X.bytes, X.same.trans (hsame.setVm s.vm)⟩,
      ⟨P', hQ, hHp', hP1, hP2, rfl, rfl, L, rfl, hL⟩, ?_⟩
    show Steps p.tables e below _ ((({ U with heap := s₂.heap, slotsUsed := s₂.slotsUsed } : State).setVm s₂.vm).setTop { g with pc := g.pc + 3, stack := v.toList ++ g.stack })
    rw [← hs₂]
    exact hsteps
  | threw q =>
    have hf₂ : s₂.frames = .throwing q :: .java g :: U.frames.tail := hend
    have hs₂ : s₂ = ((({ U with heap := s₂.heap, slotsUsed := s₂.slotsUsed } : State).setVm s₂.vm).setTop g).pushFrame (.throwing q) := by
      refine e3.trans ?_
      rw [hf₂, State.calling_eq h.top, State.setFrames_setFrames, State.pushFrame, State.frames_setTop _ hr', State.setTop_of_frames _ hr', State.setFrames_setFrames, hr]
      rfl
    subst hg
    refine Or.inr ⟨q, ⟨(({ U with heap := s₂.heap, slotsUsed := s₂.slotsUsed } : State).setVm s₂.vm), Ls ++ L, c0 + (P'.2.1 - P.2.1), s0 + (P'.2.2 - P.2.2)⟩,
      ⟨X.admits, X.cas, X.clock, X.frames, X.room, X.hears, X.method, X.code, (X.here.setHeapUsed s₂.heap s₂.slotsUsed).setVm hW'.alike, X.tail, State.WarmedH.trans X.warmed hW', X.limits, X.bytes, X.same.trans (hsame.setVm s.vm)⟩,
      ⟨P', hQ, hHp', hP1, hP2, rfl, rfl, L, rfl, hL⟩, ?_⟩
    show Steps p.tables e below _ (((({ U with heap := s₂.heap, slotsUsed := s₂.slotsUsed } : State).setVm s₂.vm).setTop g).pushFrame (.throwing q))
    rw [← hs₂]
    exact hsteps
/-- something is thrown over the frame -/
def Xt (w : xWd) (M : xM) (d : Nat) (Q : Outcome → xH → Prop) (pc : Nat) (ls : List (Option Value)) (st : List Value) (P : xH) (q9 : Nat) : Prop := xOK w → ∀ (p : Program) (e : Env) (R : Room) (s : State) (m : MethodId) (args : Array Value) (below : List Frame) (meth : Method) (c : Code) (P0 : xH) (H : Heap) (locs : List Loc) (lsA : Array Slot),
  xFr w M d P0 p R s m meth c → P0.2.1 ≤ P.2.1 → P0.2.2 ≤ P.2.2 → xHp w P H → (∀ q ∈ locs, w.z ≤ q.base) → xLs lsA M.2.2.1 ls →
  vx_W p w.l e R s m args below meth c H locs (P.2.1 - P0.2.1) (P.2.2 - P0.2.2) (xMQ w below s P0 Q) (F0 m pc lsA st) q9
variable {M MC : xM} {d : Nat} {Q Qc : Outcome → xH → Prop} {pc idx : Nat} {ls : List (Option Value)} {st : List Value} {P : xH}
theorem Xt_out {q9 : Nat} (hh : M.2.2.2.2 = []) (hq : Q (.threw q9) P) : Xt w M d Q pc ls st P q9 := by
  intro ok p e R s m args below meth c P0 H locs lsA F h1 h2 hH hL hls T hT X
  obtain ⟨st1, hrun, hend, hW, hsm⟩ := X.leaveThrown q9 (g := F0 m pc lsA st) rfl rfl rfl (by
    intro x hx
    rw [F.2.2.2.2.2.2.2.2.1, hh] at hx
    cases hx) F.2.2.2.2.1
  exact ⟨_, st1, .threw q9, hrun, hend, P, hq, by show xHp w P T.heap; rw [hT]; exact hH, h1, h2, hW, locs, hsm, hL⟩
/-- the words of a callee -/
def xCal (M : xM) (n : Nat) : Prop := xcw M ∈ lw_tbl ∧ goodWord (xcw M) = true ∧ Cond.initialized M.1.cls ∈ lw_tbl ∧ (M.1.cls ≠ "java/lang/invoke/MethodHandle" ∧ M.1.cls ≠ "java/lang/invoke/VarHandle") ∧ (parseMethodDescriptor M.1.desc).map (fun d => d.parameters.length) = some n ∧ M.2.2.1 ≤ 45
theorem xCal.len {n : Nat} (h : xCal MC n) {As : List Value} (hn : As.length = n) : ∀ sig, parseMethodDescriptor MC.1.desc = some sig → As.length = sig.parameters.length := fun sig hs => by
  have h5 := h.2.2.2.2.1
  rw [hs] at h5
  exact hn.trans (Option.some.inj h5).symm
theorem xRoomC {P0 P1 : xH} {R : Room} {H : Heap} (hH : xHp w P H) (h1 : P0.2.1 ≤ P.2.1) (h2 : P0.2.2 ≤ P.2.2) (r1 : R.cells + P0.2.1 = w.z + 601024) (r2 : R.slots + P0.2.2 = 7293034) : P.2.1 - P0.2.1 + (w.z + 601024 - P.2.1) ≤ R.cells ∧ P.2.2 - P0.2.2 + (7293034 - P.2.2) ≤ R.slots := by
  have := hH.2.2.2.2.2
  omega
theorem X_callV {b k n N : Nat} {T : u_T} {fs As : List Value} (hd : decode M.2.1 pc = .ok (.invokevirtual idx, 3)) (hc : xCal MC n) (hw1 : Cond.methodLink M.1.cls idx MC.1 ∈ lw_tbl) (hw2 : Cond.instanceMethod MC.1 ∈ lw_tbl) (hw3 : Cond.selects MC.1.cls MC.1 MC.1 ∈ lw_tbl) (hn : As.length = n) (hk : xCl[k]? = some (MC.1.cls, T, N)) (hP : P.1 b = some (xO k fs)) (hC : xC w d MC (.ref b :: As) P Qc) (hst : (st.map fun v => v.category).sum ≤ 8)
    (kr : ∀ v P1, Qc (.returned v) P1 → X w M (d + 1) Q (pc + 3) ls (v.toList ++ st) P1) (kt : ∀ q P1, Qc (.threw q) P1 → Xt w M (d + 1) Q pc ls st P1 q) : X w M (d + 1) Q pc ls (As.reverse ++ .ref b :: st) P := by
  intro ok p e R s m args below meth c P0 H locs lsA F h1 h2 hH hL hls T9 hT X9
  have hW := F.2.2.2.2.2.2.2.1
  obtain ⟨hF1, hF2, r1, r2⟩ := F.2.2.2.2.2.2.2.2.2.2.2
  obtain ⟨rr, hrr, cell, g1, g2, g3, -⟩ := (hH.one hP) 0 _ rfl
  have hcl : s.vm.findClass MC.1.cls = some cell.cls := by rw [g2]; exact ((xKm ok hW).1 k _ hk).2.1
  obtain ⟨c1, c2, c3, c4, c5, c6⟩ := id hc
  have hK := x_back (R := R) (p := p) (e := e) (below := below) (s := s) (sargs := args) ok hC hW (by omega) (by omega) c1 c2 c3
  obtain ⟨R1, R2⟩ := xRoomC (P1 := P) hH h1 h2 r1 r2
  have hmth := xw (args := args) ok hW hw1 rfl
  have hinst := xw (args := args) ok hW hw2 rfl
  have hsel := xw (args := args) ok hW hw3 rfl
  have hcod := xw (args := args) ok hW c1 c2
  obtain ⟨mk, methM, hnamed, hmethM, hstM, habM⟩ := Cond.instanceMethod_spec hinst
  obtain ⟨methM', cM, hmethM', -, -, -, -, -, -, hsigM⟩ := xcw_spec hnamed hcod
  cases hmethM.symm.trans hmethM'
  obtain ⟨c2', r2', m2, q1, q2, q3, q4, kP, hkP, hkPi⟩ := Cond.selects_spec hsel
  cases hcl.symm.trans q1
  cases (State.methodFound?_of_named hnamed c4).symm.trans q2
  cases hnamed.symm.trans q3
  have hselP : selectMethod e.platform s.vm cell.cls mk = .method mk := by rw [Launch.admits_selectMethod X9.admits]; exact q4
  have hdc : decode c.code pc = .ok (.invokevirtual idx, 3) := by rw [F.2.1]; exact hd
  have hsz : lsA.size = c.maxLocals := hls.1.trans F.2.2.1.symm
  obtain ⟨vm₁, X₁, hstep₁⟩ := X9.invokevirtual F.1 F.2.2.2.2.2.1 hmth hnamed hmethM hstM hkP hkPi c4 (a := b) (cell := cell) (by rw [hT]; exact g1)
    (fun z h => by rw [g3] at h; cases h) hselP hmethM habM hkP hkPi (g := F0 m pc lsA (As.reverse ++ .ref b :: st)) rfl (argsL := As) (rest := st) (hc.len hn _ hsigM) rfl hdc
  rcases hK m meth c ⟨T9.setVm vm₁, locs, _, _⟩ (F0 m pc lsA st) (.invokevirtual idx) mk (Value.ref b :: As).toArray X₁ rfl hsz hdc (lv_room hst) (X₁.named hnamed) ⟨rfl, by show xHp w P T9.heap; rw [hT]; exact hH, R1, R2⟩ with ⟨v, ⟨U1, L1, c1', s1'⟩, X', ⟨P1, hQ, hHp, p1, p2, e1, e2, L, e3, hLL⟩, hsteps⟩ | ⟨q, ⟨U1, L1, c1', s1'⟩, X', ⟨P1, hQ, hHp, p1, p2, e1, e2, L, e3, hLL⟩, hsteps⟩
  · dsimp only [Pt.U, Pt.locs, Pt.cells, Pt.slots] at X' e1 e2 e3 hHp hsteps
    subst e1; subst e2; subst e3
    rw [show P.2.1 - P0.2.1 + (P1.2.1 - P.2.1) = P1.2.1 - P0.2.1 by omega, show P.2.2 - P0.2.2 + (P1.2.2 - P.2.2) = P1.2.2 - P0.2.2 by omega] at X'
    obtain ⟨t2, a1, b1⟩ := kr v P1 hQ ok p e R s m args below meth c P0 U1.heap (locs ++ L) lsA F (Nat.le_trans h1 p1) (Nat.le_trans h2 p2) hHp (fun q hq => (List.mem_append.mp hq).elim (hL q) (hLL q)) hls U1 rfl X'
    exact ⟨t2, hstep₁ _ fun acts => by rw [doInvoke_state]; exact hsteps.trans a1, b1⟩
  · dsimp only [Pt.U, Pt.locs, Pt.cells, Pt.slots] at X' e1 e2 e3 hHp hsteps
    subst e1; subst e2; subst e3
    rw [show P.2.1 - P0.2.1 + (P1.2.1 - P.2.1) = P1.2.1 - P0.2.1 by omega, show P.2.2 - P0.2.2 + (P1.2.2 - P.2.2) = P1.2.2 - P0.2.2 by omega] at X'
    obtain ⟨t2, a1, b1⟩ := kt q P1 hQ ok p e R s m args below meth c P0 U1.heap (locs ++ L) lsA F (Nat.le_trans h1 p1) (Nat.le_trans h2 p2) hHp (fun q hq => (List.mem_append.mp hq).elim (hL q) (hLL q)) hls U1 rfl X'
    exact ⟨t2, hstep₁ _ fun acts => by rw [doInvoke_state]; exact hsteps.trans a1, b1⟩
theorem X_callS {n : Nat} {As : List Value} (hd : decode M.2.1 pc = .ok (.invokestatic idx, 3)) (hc : xCal MC n) (hw1 : Cond.methodLink M.1.cls idx MC.1 ∈ lw_tbl) (hw2 : Cond.static MC.1 ∈ lw_tbl) (hn : As.length = n) (hC : xC w d MC As P Qc) (hst : (st.map fun v => v.category).sum ≤ 8)
    (kr : ∀ v P1, Qc (.returned v) P1 → X w M (d + 1) Q (pc + 3) ls (v.toList ++ st) P1) (kt : ∀ q P1, Qc (.threw q) P1 → Xt w M (d + 1) Q pc ls st P1 q) : X w M (d + 1) Q pc ls (As.reverse ++ st) P := by
  intro ok p e R s m args below meth c P0 H locs lsA F h1 h2 hH hL hls T9 hT X9
  have hW := F.2.2.2.2.2.2.2.1
  obtain ⟨hF1, hF2, r1, r2⟩ := F.2.2.2.2.2.2.2.2.2.2.2
  obtain ⟨c1, c2, c3, c4, c5, c6⟩ := id hc
  have hK := x_back (R := R) (p := p) (e := e) (below := below) (s := s) (sargs := args) ok hC hW (by omega) (by omega) c1 c2 c3
  obtain ⟨R1, R2⟩ := xRoomC (P1 := P) hH h1 h2 r1 r2
  have hmth := xw (args := args) ok hW hw1 rfl
  have hstat := xw (args := args) ok hW hw2 rfl
  have hcod := xw (args := args) ok hW c1 c2
  have hini := xw (args := args) ok hW c3 rfl
  obtain ⟨mk, hnamed⟩ : ∃ mk, s.methodNamed? MC.1 = some mk := by
    obtain ⟨y, cc, nL, ret, hh⟩ := MC
    cases hh with
    | nil => exact Cond.code_named hcod
    | cons a t =>
      obtain ⟨m9, _, _, hn9, -⟩ := Cond.codeWith_spec hcod
      exact ⟨m9, hn9⟩
  obtain ⟨methM, cM, hmethM, -, -, -, -, -, -, hsigM⟩ := xcw_spec hnamed hcod
  have hstatic : methM.isStatic = true := Cond.static_spec hnamed hmethM hstat
  obtain ⟨kP, hkP, -⟩ := className_of_methodNamed hnamed
  have hinitP : kP.init = .initialized := Cond.initialized_spec (findClass_of_methodNamed hnamed) hkP hini
  have hdc : decode c.code pc = .ok (.invokestatic idx, 3) := by rw [F.2.1]; exact hd
  have hsz : lsA.size = c.maxLocals := hls.1.trans F.2.2.1.symm
  obtain ⟨vm₁, X₁, hstep₁⟩ := X9.invokestatic F.1 F.2.2.2.2.2.1 hmth hnamed hmethM hstatic hkP hinitP c4 (g := F0 m pc lsA (As.reverse ++ st)) rfl (argsL := As) (rest := st) (hc.len hn _ hsigM) rfl hdc
  rcases hK m meth c ⟨T9.setVm vm₁, locs, _, _⟩ (F0 m pc lsA st) (.invokestatic idx) mk As.toArray X₁ rfl hsz hdc (lv_room hst) (X₁.named hnamed) ⟨rfl, by show xHp w P T9.heap; rw [hT]; exact hH, R1, R2⟩ with ⟨v, ⟨U1, L1, c1', s1'⟩, X', ⟨P1, hQ, hHp, p1, p2, e1, e2, L, e3, hLL⟩, hsteps⟩ | ⟨q, ⟨U1, L1, c1', s1'⟩, X', ⟨P1, hQ, hHp, p1, p2, e1, e2, L, e3, hLL⟩, hsteps⟩
  · dsimp only [Pt.U, Pt.locs, Pt.cells, Pt.slots] at X' e1 e2 e3 hHp hsteps
    subst e1; subst e2; subst e3
    rw [show P.2.1 - P0.2.1 + (P1.2.1 - P.2.1) = P1.2.1 - P0.2.1 by omega, show P.2.2 - P0.2.2 + (P1.2.2 - P.2.2) = P1.2.2 - P0.2.2 by omega] at X'
    obtain ⟨t2, a1, b1⟩ := kr v P1 hQ ok p e R s m args below meth c P0 U1.heap (locs ++ L) lsA F (Nat.le_trans h1 p1) (Nat.le_trans h2 p2) hHp (fun q hq => (List.mem_append.mp hq).elim (hL q) (hLL q)) hls U1 rfl X'
    exact ⟨t2, hstep₁ _ fun acts => by rw [doInvoke_state]; exact hsteps.trans a1, b1⟩
  · dsimp only [Pt.U, Pt.locs, Pt.cells, Pt.slots] at X' e1 e2 e3 hHp hsteps
    subst e1; subst e2; subst e3
    rw [show P.2.1 - P0.2.1 + (P1.2.1 - P.2.1) = P1.2.1 - P0.2.1 by omega, show P.2.2 - P0.2.2 + (P1.2.2 - P.2.2) = P1.2.2 - P0.2.2 by omega] at X'
    obtain ⟨t2, a1, b1⟩ := kt q P1 hQ ok p e R s m args below meth c P0 U1.heap (locs ++ L) lsA F (Nat.le_trans h1 p1) (Nat.le_trans h2 p2) hHp (fun q hq => (List.mem_append.mp hq).elim (hL q) (hLL q)) hls U1 rfl X'
    exact ⟨t2, hstep₁ _ fun acts => by rw [doInvoke_state]; exact hsteps.trans a1, b1⟩
end XCalls
