section XHeap
variable {w : xWd} {M : xM} {d : Nat} {Q : Outcome → xH → Prop} {pc : Nat} {ls : List (Option Value)} {st : List Value} {P : xH}
theorem xwF {s : State} {args : Array Value} (ok : xOK w) (hW : w.S.WarmedH s.vm) {a b n e h : String} {i : Nat} (hc : Cond.fieldLinkNest a i b n e h ∈ lw_tbl) : (Cond.fieldLinkNest a i b n e h).before args s = true := va_Nw.use rfl (va_Nw.warmF hW (va_Nw.of rfl (ok.1 _ hc)))
theorem xwM {s : State} {args : Array Value} (ok : xOK w) (hW : w.S.WarmedH s.vm) {a h : String} {i : Nat} {y : MethodName} (hc : Cond.methodLinkNest a i y h ∈ lw_tbl) : (Cond.methodLinkNest a i y h).before args s = true := va_Nw.use rfl (va_Nw.warmM hW (va_Nw.of rfl (ok.1 _ hc)))
theorem xwC {s : State} {args : Array Value} (ok : xOK w) (hW : w.S.WarmedH s.vm) {a b : String} (hc : Cond.castable a b ∈ lw_tbl) : (Cond.castable a b).before args s = true := va_Nw.use rfl (va_Nw.warmC hW (va_Nw.of rfl (ok.1 _ hc)))
theorem xKm {s : State} (ok : xOK w) (hW : w.S.WarmedH s.vm) : va_K w.D xCl (xtys w) s := va_K.moved hW.alike ok.2.1
/-- a class's words -/
def xIn (C : String) (T : u_T) (N : Nat) : Prop := ∀ c ∈ u_ws C T N, c ∈ lw_tbl ∧ goodWord c = true
theorem X_get {a k j idx N : Nat} {fs : List Value} {v : Value} {C : String} {T : u_T} (hd : decode M.2.1 pc = .ok (.getfield idx, 3)) (hc : xCl[k]? = some (C, T, N)) (hj : j < N) (hin : xIn C T N) (hw : Cond.fieldLink M.1.cls idx (T j).1 (T j).2.1 (T j).2.2.1 ∈ lw_tbl) (hP : P.1 a = some (xO k fs)) (hv : fs[j]? = some v) (kk : X w M d Q (pc + 3) ls (v :: st) P) : X w M d Q pc ls (.ref a :: st) P := by
  intro ok p e R s m args below meth c P0 H locs lsA F h1 h2 hH hL hls
  have hW := F.2.2.2.2.2.2.2.1
  exact va_get (D := w.D) (ci := k) (v := v) (C := C) (T := T) (N := N) F.1 F.2.1 (xws (args := args) ok hW hin) (fun _ h => h) F.2.2.2.2.2.1 (xKm ok hW) (hH.one hP) 0 rfl hc j hj (xw ok hW hw rfl) (fun _ h9 => h9) hv hd (kk ok p e R s m args below meth c P0 H locs lsA F h1 h2 hH hL hls)
theorem X_getN {a k j idx N : Nat} {fs : List Value} {v : Value} {C host : String} {T : u_T} (hd : decode M.2.1 pc = .ok (.getfield idx, 3)) (hc : xCl[k]? = some (C, T, N)) (hj : j < N) (hin : xIn C T N) (hw : Cond.fieldLinkNest M.1.cls idx (T j).1 (T j).2.1 (T j).2.2.1 host ∈ lw_tbl) (hP : P.1 a = some (xO k fs)) (hv : fs[j]? = some v) (kk : X w M d Q (pc + 3) ls (v :: st) P) : X w M d Q pc ls (.ref a :: st) P := by
  intro ok p e R s m args below meth c P0 H locs lsA F h1 h2 hH hL hls
  have hW := F.2.2.2.2.2.2.2.1
  exact va_getN (D := w.D) (ci := k) (v := v) (C := C) (T := T) (N := N) F.1 F.2.1 (xws (args := args) ok hW hin) (fun _ h => h) F.2.2.2.2.2.1 (xKm ok hW) (hH.one hP) 0 rfl hc j hj (xwF ok hW hw) (fun _ h9 => h9) hv hd (kk ok p e R s m args below meth c P0 H locs lsA F h1 h2 hH hL hls)
/-- what a class's printed rows say -/
def xCls (C : String) (T : u_T) (N : Nat) (ty : Nat → FieldType) : Prop := xIn C T N ∧ (∀ k, k < N → parseFieldDescriptor (T k).2.2.1 = some (ty k)) ∧ (∀ a, a < N → ∀ b, b < N → a ≠ b → (T a).2.1 ≠ (T b).2.1)
theorem X_put {a k j idx N : Nat} {fs : List Value} {v : Value} {C : String} {T : u_T} {ty : Nat → FieldType} (hd : decode M.2.1 pc = .ok (.putfield idx, 3)) (hc : xCl[k]? = some (C, T, N)) (hj : j < N) (hin : xCls C T N ty) (hw : Cond.fieldLink M.1.cls idx (T j).1 (T j).2.1 (T j).2.2.1 ∈ lw_tbl) (hfin : (T j).2.2.2 = false) (hP : P.1 a = some (xO k fs)) (hn : narrow (ty j) v = v) (hfit : fits (ty j) v = true) (hl : j < fs.length) (kk : X w M d Q (pc + 3) ls st (xs P a (xO k (fs.set j v)))) : X w M d Q pc ls (v :: .ref a :: st) P := by
  intro ok p e R s m args below meth c P0 H locs lsA F h1 h2 hH hL hls
  have hW := F.2.2.2.2.2.2.2.1
  have hts := xws (args := args) ok hW hin.1
  have hK := xKm ok hW
  have hap := va_apart (own := M.1.cls) hts (fun _ h => h) ty hin.2.1 hin.2.2 hK hc
  obtain ⟨r, hr1, cell, q1, q2, q3, q4⟩ := (hH.one hP) 0 _ rfl
  have hr : r = (C, T, N) := Option.some.inj (hr1.symm.trans hc)
  subst hr
  obtain ⟨hS, hfc, kC, hkC, hkind⟩ := hK.1 k _ hc
  obtain ⟨cf, kf, fi, f, hi, hsl⟩ := hS j hj
  have hlay := hts _ (u_in_lay hj)
  unfold u_lay at hlay
  rw [if_neg (by rw [hfin]; decide)] at hlay
  have hst := (u_facts hfc hkC (u_lays hts (fun _ h => h) hj) hi).1
  have h6 := u_store hfc hkC hkind hlay hi (hin.2.1 j hj) hn hfit
  refine W.putK F.1 F.2.1 (f := f) ⟨F.2.2.2.2.2.1, xw ok hW hw rfl, ⟨_, _, _, hi⟩, hst⟩ (by rw [q2]; exact h6) q1 q3 (by rw [hsl]; exact k2_hasslot (q4 j hj)) rfl rfl hd fun H' e1 e2 e3 => ?_
  rw [hsl] at e1 ⊢
  refine kk ok p e R s m args below meth c P0 H' _ lsA F h1 h2 (hH.set hP _ e2 e3 ⟨_, hc, t_OB.to (V := updV (vp_V fs) j v) ⟨_, e1, q2, q3, t_set q4 hap hj v⟩ (fun i _ => vp_updV_set hl v i)⟩ (fun cell2 h9 => ?_)) ?_ hls
  · rw [e1] at h9
    cases h9
    show cell.vm.isStatics = false
    rw [q3]; rfl
  · intro q hq
    rcases List.mem_append.mp hq with h | h
    · exact hL q h
    · rw [List.mem_singleton.mp h]; exact (hH.2.2.2.1 a _ hP).1
theorem X_putN {a k j idx N : Nat} {fs : List Value} {v : Value} {C host : String} {T : u_T} {ty : Nat → FieldType} (hd : decode M.2.1 pc = .ok (.putfield idx, 3)) (hc : xCl[k]? = some (C, T, N)) (hj : j < N) (hin : xCls C T N ty) (hw : Cond.fieldLinkNest M.1.cls idx (T j).1 (T j).2.1 (T j).2.2.1 host ∈ lw_tbl) (hfin : (T j).2.2.2 = false) (hP : P.1 a = some (xO k fs)) (hn : narrow (ty j) v = v) (hfit : fits (ty j) v = true) (hl : j < fs.length) (kk : X w M d Q (pc + 3) ls st (xs P a (xO k (fs.set j v)))) : X w M d Q pc ls (v :: .ref a :: st) P := by
  intro ok p e R s m args below meth c P0 H locs lsA F h1 h2 hH hL hls
  have hW := F.2.2.2.2.2.2.2.1
  have hts := xws (args := args) ok hW hin.1
  have hK := xKm ok hW
  have hap := va_apart (own := M.1.cls) hts (fun _ h => h) ty hin.2.1 hin.2.2 hK hc
  obtain ⟨r, hr1, cell, q1, q2, q3, q4⟩ := (hH.one hP) 0 _ rfl
  have hr : r = (C, T, N) := Option.some.inj (hr1.symm.trans hc)
  subst hr
  obtain ⟨hS, hfc, kC, hkC, hkind⟩ := hK.1 k _ hc
  obtain ⟨cf, kf, fi, f, hi, hsl⟩ := hS j hj
  have hlay := hts _ (u_in_lay hj)
  unfold u_lay at hlay
  rw [if_neg (by rw [hfin]; decide)] at hlay
  have hst := (u_facts hfc hkC (u_lays hts (fun _ h => h) hj) hi).1
  have h6 := u_store hfc hkC hkind hlay hi (hin.2.1 j hj) hn hfit
  refine va_WputK F.1 F.2.1 (f := f) F.2.2.2.2.2.1 (xwF ok hW hw) hi hst (by rw [q2]; exact h6) q1 q3 (by rw [hsl]; exact k2_hasslot (q4 j hj)) rfl rfl hd fun H' e1 e2 e3 => ?_
  rw [hsl] at e1 ⊢
  refine kk ok p e R s m args below meth c P0 H' _ lsA F h1 h2 (hH.set hP _ e2 e3 ⟨_, hc, t_OB.to (V := updV (vp_V fs) j v) ⟨_, e1, q2, q3, t_set q4 hap hj v⟩ (fun i _ => vp_updV_set hl v i)⟩ (fun cell2 h9 => ?_)) ?_ hls
  · rw [e1] at h9
    cases h9
    show cell.vm.isStatics = false
    rw [q3]; rfl
  · intro q hq
    rcases List.mem_append.mp hq with h | h
    · exact hL q h
    · rw [List.mem_singleton.mp h]; exact (hH.2.2.2.1 a _ hP).1
/-- array loads -/
theorem X_iald {a n : Nat} {f : Nat → Int32} {i : Int32} (hd : decode M.2.1 pc = .ok (.iaload, 1)) (hP : P.1 a = some (xA 0 n f)) (hi : vp_in i n) (kk : X w M d Q (pc + 1) ls (.int (f i.toNatClampNeg) :: st) P) : X w M d Q pc ls (.int i :: .ref a :: st) P := by
  intro ok p e R s m args below meth c P0 H locs lsA F h1 h2 hH hL hls
  exact va_iald F.1 F.2.1 (xKm ok F.2.2.2.2.2.2.2.1) (hH.one hP) 0 0 rfl rfl hi hd (kk ok p e R s m args below meth c P0 H locs lsA F h1 h2 hH hL hls)
theorem X_cald {a n : Nat} {f : Nat → Int32} {i : Int32} (hd : decode M.2.1 pc = .ok (.caload, 1)) (hP : P.1 a = some (xA 2 n f)) (hi : vp_in i n) (kk : X w M d Q (pc + 1) ls (.int (f i.toNatClampNeg) :: st) P) : X w M d Q pc ls (.int i :: .ref a :: st) P := by
  intro ok p e R s m args below meth c P0 H locs lsA F h1 h2 hH hL hls
  exact va_cald F.1 F.2.1 (xKm ok F.2.2.2.2.2.2.2.1) (hH.one hP) 0 2 rfl rfl hi hd (kk ok p e R s m args below meth c P0 H locs lsA F h1 h2 hH hL hls)
theorem X_zald {a n : Nat} {f : Nat → Int32} {i : Int32} (hd : decode M.2.1 pc = .ok (.baload, 1)) (hP : P.1 a = some (xA 3 n f)) (hi : vp_in i n) (kk : X w M d Q (pc + 1) ls (.int (f i.toNatClampNeg) :: st) P) : X w M d Q pc ls (.int i :: .ref a :: st) P := by
  intro ok p e R s m args below meth c P0 H locs lsA F h1 h2 hH hL hls
  exact va_zald F.1 F.2.1 (xKm ok F.2.2.2.2.2.2.2.1) (hH.one hP) 0 3 rfl rfl hi hd (kk ok p e R s m args below meth c P0 H locs lsA F h1 h2 hH hL hls)
theorem X_lald {a n : Nat} {f : Nat → Int64} {i : Int32} (hd : decode M.2.1 pc = .ok (.laload, 1)) (hP : P.1 a = some (xJ n f)) (hi : vp_in i n) (kk : X w M d Q (pc + 1) ls (.long (f i.toNatClampNeg) :: st) P) : X w M d Q pc ls (.int i :: .ref a :: st) P := by
  intro ok p e R s m args below meth c P0 H locs lsA F h1 h2 hH hL hls
  exact va_lald F.1 F.2.1 (xKm ok F.2.2.2.2.2.2.2.1) (hH.one hP) 0 1 rfl rfl hi hd (kk ok p e R s m args below meth c P0 H locs lsA F h1 h2 hH hL hls)
theorem X_aald {a n t : Nat} {f : Nat → Option Nat} {i : Int32} (hd : decode M.2.1 pc = .ok (.aaload, 1)) (ht : t = 4 ∨ t = 5) (hP : P.1 a = some (xR t n f)) (hi : vp_in i n) (kk : X w M d Q (pc + 1) ls (va_rf (f i.toNatClampNeg) :: st) P) : X w M d Q pc ls (.int i :: .ref a :: st) P := by
  intro ok p e R s m args below meth c P0 H locs lsA F h1 h2 hH hL hls
  rcases ht with rfl | rfl
  · exact va_aldq (C := RX7) F.1 F.2.1 (xKm ok F.2.2.2.2.2.2.2.1) (hH.one hP) 0 4 rfl rfl hi hd (kk ok p e R s m args below meth c P0 H locs lsA F h1 h2 hH hL hls)
  · exact va_aldq (C := RX1) F.1 F.2.1 (xKm ok F.2.2.2.2.2.2.2.1) (hH.one hP) 0 5 rfl rfl hi hd (kk ok p e R s m args below meth c P0 H locs lsA F h1 h2 hH hL hls)
theorem X_alenI {a n t : Nat} {f : Nat → Int32} (hd : decode M.2.1 pc = .ok (.arraylength, 1)) (ht : t = 0 ∨ t = 2 ∨ t = 3) (hP : P.1 a = some (xA t n f)) (kk : X w M d Q (pc + 1) ls (.int (Int32.ofNat n) :: st) P) : X w M d Q pc ls (.ref a :: st) P := by
  intro ok p e R s m args below meth c P0 H locs lsA F h1 h2 hH hL hls
  have K := kk ok p e R s m args below meth c P0 H locs lsA F h1 h2 hH hL hls
  rcases ht with rfl | rfl | rfl
  · exact va_alen F.1 F.2.1 (xKm ok F.2.2.2.2.2.2.2.1) (hH.one hP) 0 0 rfl rfl rfl hd K
  · exact va_alen F.1 F.2.1 (xKm ok F.2.2.2.2.2.2.2.1) (hH.one hP) 0 2 rfl rfl rfl hd K
  · exact va_alen F.1 F.2.1 (xKm ok F.2.2.2.2.2.2.2.1) (hH.one hP) 0 3 rfl rfl rfl hd K
/-- array stores -/
theorem xLo {locs : List Loc} {a i : Nat} {H : Heap} {e0 : xE} (hH : xHp w P H) (hP : P.1 a = some e0) (hL : ∀ q ∈ locs, w.z ≤ q.base) : ∀ q ∈ locs ++ [⟨a, i⟩], w.z ≤ q.base := fun q hq => by
  rcases List.mem_append.mp hq with h | h
  · exact hL q h
  · rw [List.mem_singleton.mp h]; exact (hH.2.2.2.1 a _ hP).1
theorem X_iast {a n : Nat} {f : Nat → Int32} {i x : Int32} (hd : decode M.2.1 pc = .ok (.iastore, 1)) (hP : P.1 a = some (xA 0 n f)) (hi : vp_in i n) (kk : X w M d Q (pc + 1) ls st (xs P a (xA 0 n (upd f i.toNatClampNeg x)))) : X w M d Q pc ls (.int x :: .int i :: .ref a :: st) P := by
  intro ok p e R s m args below meth c P0 H locs lsA F h1 h2 hH hL hls
  have hat := (hH.one hP) 0 _ rfl
  refine W.iast F.1 F.2.1 hat (((xKm ok F.2.2.2.2.2.2.2.1).2 0 _ rfl).1 n (fun j => .int (f j))) (fun q => by cases q) (by show ¬ (i < 0 ∨ (arrV _ _ _).slots.size ≤ _); rw [arrV_size]; exact hi) rfl rfl hd fun H1 e z oq => ?_
  have hcell : H1[a]? = some (vp_cell (w.ac 0) (n, .inl (upd f i.toNatClampNeg x))) := by
    rw [e, vp_cell_i, vp_cell_i, arrV_store]
    congr 2
    funext q
    by_cases hq : q = i.toNatClampNeg
    · subst hq; simp [updV, upd]
    · simp [updV, upd, hq]
  exact kk ok p _ R s m args below meth c P0 H1 _ lsA F h1 h2 (hH.set hP _ z oq hcell (fun c9 h9 => by rw [hcell] at h9; cases h9; rfl)) (xLo hH hP hL) hls
theorem X_last {a n : Nat} {f : Nat → Int64} {i : Int32} {x : Int64} (hd : decode M.2.1 pc = .ok (.lastore, 1)) (hP : P.1 a = some (xJ n f)) (hi : vp_in i n) (kk : X w M d Q (pc + 1) ls st (xs P a (xJ n (vp_updL f i.toNatClampNeg x)))) : X w M d Q pc ls (.long x :: .int i :: .ref a :: st) P := by
  intro ok p e R s m args below meth c P0 H locs lsA F h1 h2 hH hL hls
  have hat := (hH.one hP) 0 _ rfl
  refine W.last F.1 F.2.1 hat (((xKm ok F.2.2.2.2.2.2.2.1).2 1 _ rfl).1 n (fun j => .long (f j))) (fun q => by cases q) (by show ¬ (i < 0 ∨ (arrV _ _ _).slots.size ≤ _); rw [arrV_size]; exact hi) rfl rfl hd fun H1 e z oq => ?_
  have hcell : H1[a]? = some (vp_cell (w.ac 1) (n, .inr (.inl (vp_updL f i.toNatClampNeg x)))) := by
    rw [e, vp_cell_l, vp_cell_l, arrV_store]
    congr 2
    funext q
    by_cases hq : q = i.toNatClampNeg
    · subst hq; simp [updV, vp_updL]
    · simp [updV, vp_updL, hq]
  exact kk ok p _ R s m args below meth c P0 H1 _ lsA F h1 h2 (hH.set hP _ z oq hcell (fun c9 h9 => by rw [hcell] at h9; cases h9; rfl)) (xLo hH hP hL) hls
theorem X_cast {a n : Nat} {f : Nat → Int32} {i x : Int32} (hd : decode M.2.1 pc = .ok (.castore, 1)) (hP : P.1 a = some (xA 2 n f)) (hi : vp_in i n) (kk : X w M d Q (pc + 1) ls st (xs P a (xA 2 n (upd f i.toNatClampNeg (vp_nar .char x))))) : X w M d Q pc ls (.int x :: .int i :: .ref a :: st) P := by
  intro ok p e R s m args below meth c P0 H locs lsA F h1 h2 hH hL hls
  have hat := (hH.one hP) 0 _ rfl
  refine W.cast F.1 F.2.1 hat (((xKm ok F.2.2.2.2.2.2.2.1).2 2 _ rfl).1 n (fun j => .int (f j))) (fun q => by cases q) (by show ¬ (i < 0 ∨ (arrV _ _ _).slots.size ≤ _); rw [arrV_size]; exact hi) rfl rfl hd fun H1 e z oq => ?_
  have hcell : H1[a]? = some (vp_cell (w.ac 2) (n, .inl (upd f i.toNatClampNeg (vp_nar .char x)))) := by
    rw [e, vp_cell_i, vp_cell_i, arrV_store]
    congr 2
    funext q
    by_cases hq : q = i.toNatClampNeg
    · subst hq; simp [updV, upd, vp_nar, narrow]
    · simp [updV, upd, hq]
  exact kk ok p _ R s m args below meth c P0 H1 _ lsA F h1 h2 (hH.set hP _ z oq hcell (fun c9 h9 => by rw [hcell] at h9; cases h9; rfl)) (xLo hH hP hL) hls
theorem X_zast {a n : Nat} {f : Nat → Int32} {i x : Int32} (hd : decode M.2.1 pc = .ok (.bastore, 1)) (hP : P.1 a = some (xA 3 n f)) (hi : vp_in i n) (kk : X w M d Q (pc + 1) ls st (xs P a (xA 3 n (upd f i.toNatClampNeg (vp_nar .boolean x))))) : X w M d Q pc ls (.int x :: .int i :: .ref a :: st) P := by
  intro ok p e R s m args below meth c P0 H locs lsA F h1 h2 hH hL hls
  have hat := (hH.one hP) 0 _ rfl
  refine W.zast F.1 F.2.1 hat (((xKm ok F.2.2.2.2.2.2.2.1).2 3 _ rfl).1 n (fun j => .int (f j))) (fun q => by cases q) (by show ¬ (i < 0 ∨ (arrV _ _ _).slots.size ≤ _); rw [arrV_size]; exact hi) rfl rfl hd fun H1 e z oq => ?_
  have hcell : H1[a]? = some (vp_cell (w.ac 3) (n, .inl (upd f i.toNatClampNeg (vp_nar .boolean x)))) := by
    rw [e, vp_cell_i, vp_cell_i, arrV_store]
    congr 2
    funext q
    by_cases hq : q = i.toNatClampNeg
    · subst hq; simp [updV, upd, vp_nar, narrow]
    · simp [updV, upd, hq]
  exact kk ok p _ R s m args below meth c P0 H1 _ lsA F h1 h2 (hH.set hP _ z oq hcell (fun c9 h9 => by rw [hcell] at h9; cases h9; rfl)) (xLo hH hP hL) hls
theorem X_aast {a n t k v : Nat} {f : Nat → Option Nat} {i : Int32} {vs : List Value} (hd : decode M.2.1 pc = .ok (.aastore, 1)) (ht : (t = 4 ∧ k = 5) ∨ (t = 5 ∧ k = 1)) (hP : P.1 a = some (xR t n f)) (hv : P.1 v = some (xO k vs)) (hi : vp_in i n) (kk : X w M d Q (pc + 1) ls st (xs P a (xR t n (va_up f i.toNatClampNeg (some v))))) : X w M d Q pc ls (.ref v :: .int i :: .ref a :: st) P := by
  intro ok p e R s m args below meth c P0 H locs lsA F h1 h2 hH hL hls
  have hlt : i.toNatClampNeg < n := Nat.not_le.mp fun q => hi (Or.inr q)
  have h0 : ¬ i < 0 := fun q => hi (Or.inl q)
  have hK := xKm ok F.2.2.2.2.2.2.2.1
  have hat := (hH.one hP) 0 _ rfl
  obtain ⟨r, hr1, cellV, g1, g2, g3, -⟩ := (hH.one hv) 0 _ rfl
  obtain ⟨cl, hcl⟩ : ∃ cl : vw_C, xCl[k]? = some cl ∧ (xtys w)[t]? = some (w.ac t, .object cl.1) := by
    rcases ht with ⟨rfl, rfl⟩ | ⟨rfl, rfl⟩
    · exact ⟨_, rfl, rfl⟩
    · exact ⟨_, rfl, rfl⟩
  have hcls := (hK.1 k cl hcl.1).2
  obtain ⟨kA, comp, k1, k2, k3, -⟩ := (hK.2 t _ hcl.2).2
  have hcomp : comp = w.D.1 k := Option.some.inj (k3.symm.trans hcls.1)
  subst hcomp
  obtain ⟨kC, hkC, -⟩ := hcls.2
  refine W.aast F.1 F.2.1 hat (fun q h => by cases h) (fun h => by cases h) k1 k2 rfl hkC ⟨h0, by show _ < (arrV _ _ _).slots.size; rw [arrV_size]; exact hlt⟩ g1 (fun q h => by rw [g3] at h; cases h) (by rw [g2]; exact hkC) (by rw [g2]; exact va_assign hcls) rfl rfl hd fun H1 e z oq => ?_
  have hcell : H1[a]? = some (vp_cell (w.ac t) (n, .inr (.inr (.inr (.inr (va_up f i.toNatClampNeg (some v))))))) := by
    rw [e, vp_cell_q, vp_cell_q, arrV_store]
    congr 2
    funext q
    by_cases hq : q = i.toNatClampNeg
    · subst hq; simp [updV, va_up, va_rf]
    · simp [updV, va_up, hq]
  exact kk ok p _ R s m args below meth c P0 H1 _ lsA F h1 h2 (hH.set hP _ z oq hcell (fun c9 h9 => by rw [hcell] at h9; cases h9; rfl)) (xLo hH hP hL) hls
end XHeap
