section XEnds
variable {w : xWd} {M : xM} {d : Nat} {Q : Outcome → xH → Prop} {pc : Nat} {ls : List (Option Value)} {st : List Value} {P : xH}
/-- out of the kit's own end of a method -/
theorem xEndOf {below : List Frame} {s : State} {args : Array Value} {P0 : xH} {H : Heap} {v : Option Value} {free : Addr → Prop} (hf : ∀ q, free q → w.z ≤ q) (h1 : P0.2.1 ≤ P.2.1) (h2 : P0.2.2 ≤ P.2.2) (hH : xHp w P H) (hq : Q (.returned v) P) (t : State)
    (h : MQ below (fun _ _ o t => o = .returned v ∧ t.heap = H) args s (P.2.1 - P0.2.1) (P.2.2 - P0.2.2) free t) : xMQ w below s P0 Q t := by
  obtain ⟨o, a1, a2, ⟨rfl, hh⟩, L, ⟨-, hW, hs⟩, hL⟩ := h
  exact ⟨_, a1, a2, P, hq, by rw [hh]; exact hH, h1, h2, hW, L, hs, fun q hq => hf _ (hL q hq)⟩
theorem xMono {p : Program} {l : Launch} {e : Env} {R : Room} {s : State} {m : MethodId} {args : Array Value} {below : List Frame} {meth : Method} {c : Code} {H : Heap} {locs : List Loc} {cells slots : Nat} {Q1 Q2 : State → Prop} {g : JFrame} (h : ∀ t, Q1 t → Q2 t) (k : W p l e R s m args below meth c H locs cells slots Q1 g) : W p l e R s m args below meth c H locs cells slots Q2 g := fun T hT X => by
  obtain ⟨t, a, b⟩ := k T hT X
  exact ⟨t, a, h t b⟩
theorem X_iret {v : Int32} (hd : decode M.2.1 pc = .ok (.ireturn, 1)) (hr : M.2.2.2.1 = some .int) (hq : Q (.returned (some (.int v))) P) : X w M d Q pc ls [.int v] P := by
  intro ok p e R s m args below meth c P0 H locs lsA F h1 h2 hH hL hls
  exact xMono (xEndOf (v := some (.int v)) (free := fun q => w.z ≤ q) (args := args) (fun _ h => h) h1 h2 hH hq) (W.iret F.1 F.2.1 (by rw [F.2.2.2.1, hr]) (fun t ht _ => ⟨rfl, ht⟩) hL hd F.2.2.2.2.1)
theorem X_zret {v : Int32} {ty : FieldType} (hd : decode M.2.1 pc = .ok (.ireturn, 1)) (hr : M.2.2.2.1 = some ty) (hn : narrow ty (.int v) = .int v) (hq : Q (.returned (some (.int v))) P) : X w M d Q pc ls [.int v] P := by
  intro ok p e R s m args below meth c P0 H locs lsA F h1 h2 hH hL hls
  exact xMono (xEndOf (v := some (.int v)) (free := fun q => w.z ≤ q) (args := args) (fun _ h => h) h1 h2 hH hq) (W.zret F.1 F.2.1 (by rw [F.2.2.2.1, hr]) hn (fun t ht _ => ⟨rfl, ht⟩) hL hd F.2.2.2.2.1)
theorem X_lret {v : Int64} (hd : decode M.2.1 pc = .ok (.lreturn, 1)) (hr : M.2.2.2.1 = some .long) (hq : Q (.returned (some (.long v))) P) : X w M d Q pc ls [.long v] P := by
  intro ok p e R s m args below meth c P0 H locs lsA F h1 h2 hH hL hls
  exact xMono (xEndOf (v := some (.long v)) (free := fun q => w.z ≤ q) (args := args) (fun _ h => h) h1 h2 hH hq) (W.lret F.1 F.2.1 (by rw [F.2.2.2.1, hr]) (fun t ht _ => ⟨rfl, ht⟩) hL hd F.2.2.2.2.1)
theorem X_vret (hd : decode M.2.1 pc = .ok (.return_, 1)) (hr : M.2.2.2.1 = none) (hq : Q (.returned none) P) : X w M d Q pc ls [] P := by
  intro ok p e R s m args below meth c P0 H locs lsA F h1 h2 hH hL hls
  exact xMono (xEndOf (v := none) (free := fun q => w.z ≤ q) (args := args) (fun _ h => h) h1 h2 hH hq) (W.vret F.1 F.2.1 (by rw [F.2.2.2.1, hr]) (fun t ht _ => ⟨rfl, ht⟩) hL hd F.2.2.2.2.1)
theorem X_aret {a : Nat} {C : String} (hd : decode M.2.1 pc = .ok (.areturn, 1)) (hr : M.2.2.2.1 = some (.object C)) (hq : Q (.returned (some (.ref a))) P) : X w M d Q pc ls [.ref a] P := by
  intro ok p e R s m args below meth c P0 H locs lsA F h1 h2 hH hL hls
  exact xMono (xEndOf (v := some (.ref a)) (free := fun q => w.z ≤ q) (args := args) (fun _ h => h) h1 h2 hH hq) (W.aret F.1 F.2.1 (by rw [F.2.2.2.1, hr]) (Or.inl ⟨_, rfl⟩) (Or.inr ⟨_, rfl⟩) (fun t ht _ => ⟨rfl, ht⟩) hL hd F.2.2.2.2.1)
/-- making -/
theorem X_new {k idx N : Nat} {fs : List Value} {C : String} {T : u_T} {ty : Nat → FieldType} (hd : decode M.2.1 pc = .ok (.new idx, 3)) (hc : xCl[k]? = some (C, T, N)) (hin : xCls C T N ty) (hw1 : Cond.classLink M.1.cls idx C ∈ lw_tbl) (hw2 : Cond.instantiable C N ∈ lw_tbl) (hw3 : Cond.initialized C ∈ lw_tbl) (hfs : ∀ j, j < N → defaultValue (ty j) = vp_V fs j) (hr1 : P.2.1 + 1 ≤ w.z + 601024) (hr2 : P.2.2 + N ≤ 7293034)
    (kk : X w M d Q (pc + 3) ls (.ref P.2.1 :: st) (xal P (xO k fs) N)) : X w M d Q pc ls st P := by
  intro ok p e R s m args below meth c P0 H locs lsA F h1 h2 hH hL hls
  have hW := F.2.2.2.2.2.2.2.1
  have hK := xKm ok hW
  have hKn := hK.1 k _ hc
  obtain ⟨r1, r2⟩ := F.2.2.2.2.2.2.2.2.2.2.2.2.2
  refine W.newcK F.1 F.2.1 F.2.2.2.2.2.1 (xw ok hW hw1 rfl) (xw ok hW hw2 rfl) (xw ok hW hw3 rfl) rfl hd (by omega) (by omega) hKn.2.1 hH.1 fun H1 kC hkC e1 z1 o1 => ?_
  have hat : va_at w.D xCl (P.2.1, xe w (xO k fs)) H1 := ⟨_, hc, (u_born ty (xws (args := args) ok hW hin.1) (fun _ h => h) hKn hkC e1 hin.2.1).to hfs⟩
  have K := kk ok p e R s m args below meth c P0 H1 locs lsA F (Nat.le_succ_of_le h1) (Nat.le_trans h2 (Nat.le_add_right _ _)) (hH.push _ N z1 o1 hat (fun c9 h9 => by rw [e1] at h9; cases h9; rfl) hr1 hr2) hL hls
  have e2 : (xal P (xO k fs) N).2.1 - P0.2.1 = P.2.1 - P0.2.1 + 1 := by show P.2.1 + 1 - P0.2.1 = _; omega
  have e3 : (xal P (xO k fs) N).2.2 - P0.2.2 = P.2.2 - P0.2.2 + N := by show P.2.2 + N - P0.2.2 = _; omega
  rw [e2, e3] at K
  exact K
theorem X_newaI {t : Nat} {at9 : ArrayType} {n : Int32} {N : Nat} (hd : decode M.2.1 pc = .ok (.newarray at9, 2)) (ht : (t = 0 ∧ at9 = .int) ∨ (t = 2 ∧ at9 = .char) ∨ (t = 3 ∧ at9 = .boolean)) (hw : Cond.arrayClass (newarray.typeOf at9) ∈ lw_tbl) (hn : ¬ n < 0) (hN : n.toNatClampNeg = N) (hb : N ≤ 10000) (hr1 : P.2.1 + 1 ≤ w.z + 601024) (hr2 : P.2.2 + N ≤ 7293034)
    (kk : X w M d Q (pc + 2) ls (.ref P.2.1 :: st) (xal P (xA t N (fun _ => 0)) N)) : X w M d Q pc ls (.int n :: st) P := by
  intro ok p e R s m args below meth c P0 H locs lsA F h1 h2 hH hL hls
  have hW := F.2.2.2.2.2.2.2.1
  have hK := xKm ok hW
  obtain ⟨r1, r2⟩ := F.2.2.2.2.2.2.2.2.2.2.2.2.2
  refine va_newaK F.1 F.2.1 (xw ok hW hw rfl) rfl hd rfl hn hN (by rcases ht with ⟨-, rfl⟩ | ⟨-, rfl⟩ | ⟨-, rfl⟩ <;> simp [newarray.typeOf, componentBytes] <;> omega) (by omega) (by omega) hH.1 fun H1 cA e1 z1 o1 hAr hNm => ?_
  have hcA : cA = w.ac t := by
    rcases ht with ⟨rfl, rfl⟩ | ⟨rfl, rfl⟩ | ⟨rfl, rfl⟩
    · exact Option.some.inj (hNm.symm.trans (hK.2 0 _ rfl).2)
    · exact Option.some.inj (hNm.symm.trans (hK.2 2 _ rfl).2)
    · exact Option.some.inj (hNm.symm.trans (hK.2 3 _ rfl).2)
  subst hcA
  have hat : H1[P.2.1]? = some (vp_cell (w.ac t) (N, .inl (fun _ => 0))) := by
    rw [e1]
    rcases ht with ⟨rfl, rfl⟩ | ⟨rfl, rfl⟩ | ⟨rfl, rfl⟩ <;> rfl
  have K := kk ok p e R s m args below meth c P0 H1 locs lsA F (Nat.le_succ_of_le h1) (Nat.le_trans h2 (Nat.le_add_right _ _)) (hH.push (xA t N (fun _ => 0)) N z1 (fun q hq => o1 q hq) hat (fun c9 h9 => by rw [e1] at h9; cases h9; rfl) hr1 hr2) hL hls
  have e2 : (xal P (xA t N (fun _ => 0)) N).2.1 - P0.2.1 = P.2.1 - P0.2.1 + 1 := by show P.2.1 + 1 - P0.2.1 = _; omega
  have e3 : (xal P (xA t N (fun _ => 0)) N).2.2 - P0.2.2 = P.2.2 - P0.2.2 + N := by show P.2.2 + N - P0.2.2 = _; omega
  rw [e2, e3] at K
  exact K
theorem X_newaJ {n : Int32} {N : Nat} (hd : decode M.2.1 pc = .ok (.newarray .long, 2)) (hw : Cond.arrayClass (newarray.typeOf .long) ∈ lw_tbl) (hn : ¬ n < 0) (hN : n.toNatClampNeg = N) (hb : N ≤ 10000) (hr1 : P.2.1 + 1 ≤ w.z + 601024) (hr2 : P.2.2 + N ≤ 7293034)
    (kk : X w M d Q (pc + 2) ls (.ref P.2.1 :: st) (xal P (xJ N (fun _ => 0)) N)) : X w M d Q pc ls (.int n :: st) P := by
  intro ok p e R s m args below meth c P0 H locs lsA F h1 h2 hH hL hls
  have hW := F.2.2.2.2.2.2.2.1
  have hK := xKm ok hW
  obtain ⟨r1, r2⟩ := F.2.2.2.2.2.2.2.2.2.2.2.2.2
  refine va_newaK F.1 F.2.1 (xw ok hW hw rfl) rfl hd rfl hn hN (by simp [newarray.typeOf, componentBytes]; omega) (by omega) (by omega) hH.1 fun H1 cA e1 z1 o1 hAr hNm => ?_
  have hcA : cA = w.ac 1 := Option.some.inj (hNm.symm.trans (hK.2 1 _ rfl).2)
  subst hcA
  have hat : H1[P.2.1]? = some (vp_cell (w.ac 1) (N, .inr (.inl (fun _ => 0)))) := by
    rw [e1]
    rfl
  have K := kk ok p e R s m args below meth c P0 H1 locs lsA F (Nat.le_succ_of_le h1) (Nat.le_trans h2 (Nat.le_add_right _ _)) (hH.push (xJ N (fun _ => 0)) N z1 (fun q hq => o1 q hq) hat (fun c9 h9 => by rw [e1] at h9; cases h9; rfl) hr1 hr2) hL hls
  have e2 : (xal P (xJ N (fun _ => 0)) N).2.1 - P0.2.1 = P.2.1 - P0.2.1 + 1 := by show P.2.1 + 1 - P0.2.1 = _; omega
  have e3 : (xal P (xJ N (fun _ => 0)) N).2.2 - P0.2.2 = P.2.2 - P0.2.2 + N := by show P.2.2 + N - P0.2.2 = _; omega
  rw [e2, e3] at K
  exact K
/-- a heap that has grown by a cell -/
theorem x_grown {H H1 : Heap} {x : Cell} (h : H1 = H.push x) : H1.size = H.size + 1 ∧ H1[H.size]? = some x ∧ ∀ q : Nat, q < H.size → H1[q]? = H[q]? := by
  subst h
  exact ⟨Array.size_push .., Array.getElem?_push_size, fun q hq => by rw [Array.getElem?_push, if_neg (by omega)]⟩
theorem X_newq {t idx : Nat} {n : Int32} {N : Nat} {C : String} (hd : decode M.2.1 pc = .ok (.anewarray idx, 3)) (ht : (t = 4 ∧ C = RX7) ∨ (t = 5 ∧ C = RX1)) (hw1 : Cond.classLink M.1.cls idx C ∈ lw_tbl) (hw2 : Cond.arrayOver (.object C) ∈ lw_tbl) (hn : ¬ n < 0) (hN : n.toNatClampNeg = N) (hb : N ≤ 10000) (hr1 : P.2.1 + 1 ≤ w.z + 601024) (hr2 : P.2.2 + N ≤ 7293034)
    (kk : X w M d Q (pc + 3) ls (.ref P.2.1 :: st) (xal P (xR t N (fun _ => none)) N)) : X w M d Q pc ls (.int n :: st) P := by
  intro ok p e R s m args below meth c P0 H locs lsA F h1 h2 hH hL hls
  have hW := F.2.2.2.2.2.2.2.1
  have hK := xKm ok hW
  obtain ⟨r1, r2⟩ := F.2.2.2.2.2.2.2.2.2.2.2.2.2
  subst hN
  have hover : va_AO C s := va_AO.moved hW.alike (va_AO.of (ok.1 _ hw2))
  refine W.anew F.1 F.2.1 F.2.2.2.2.2.1 (xw ok hW hw1 rfl) (va_AO.use hover) rfl hd rfl hn (by omega) (by omega) (by omega) fun cA kA comp f1 f2 f3 f4 => ?_
  obtain ⟨H1, hH1⟩ : ∃ H1 : Heap, H1 = H.push ({ cls := cA, slots := Array.replicate n.toNatClampNeg .null, vm := .none } : Cell) := ⟨_, rfl⟩
  rw [← hH1]
  obtain ⟨z1, e1, o1⟩ := x_grown hH1
  replace e1 : H1[H.size]? = some (arrV cA n.toNatClampNeg (fun _ => .null)) := by rw [e1, arrV_new]
  have hcA : cA = w.ac t := by
    rcases ht with ⟨rfl, rfl⟩ | ⟨rfl, rfl⟩
    · obtain ⟨_, _, _, _, _, h9⟩ := (hK.2 4 _ rfl).2
      exact Option.some.inj (f1.symm.trans h9)
    · obtain ⟨_, _, _, _, _, h9⟩ := (hK.2 5 _ rfl).2
      exact Option.some.inj (f1.symm.trans h9)
  subst hcA
  rw [hH.1] at z1 e1 o1 ⊢
  have hat : H1[P.2.1]? = some (vp_cell (w.ac t) (n.toNatClampNeg, .inr (.inr (.inr (.inr (fun _ => none)))))) := by
    rw [e1]
    rfl
  have K := kk ok p e R s m args below meth c P0 H1 locs lsA F (Nat.le_succ_of_le h1) (Nat.le_trans h2 (Nat.le_add_right _ _)) (hH.push (xR t n.toNatClampNeg (fun _ => none)) n.toNatClampNeg z1 (fun q hq => o1 q hq) hat (fun c9 h9 => by rw [e1] at h9; cases h9; rfl) hr1 hr2) hL hls
  have e2 : (xal P (xR t n.toNatClampNeg (fun _ => none)) n.toNatClampNeg).2.1 - P0.2.1 = P.2.1 - P0.2.1 + 1 := by show P.2.1 + 1 - P0.2.1 = _; omega
  have e3 : (xal P (xR t n.toNatClampNeg (fun _ => none)) n.toNatClampNeg).2.2 - P0.2.2 = P.2.2 - P0.2.2 + n.toNatClampNeg := by show P.2.2 + n.toNatClampNeg - P0.2.2 = _; omega
  rw [e2, e3] at K
  exact K
/-- final fields in a constructor -/
theorem X_putF {a k j idx N : Nat} {fs : List Value} {v : Value} {C : String} {T : u_T} {ty : Nat → FieldType} (hd : decode M.2.1 pc = .ok (.putfield idx, 3)) (hc : xCl[k]? = some (C, T, N)) (hj : j < N) (hin : xCls C T N ty) (hw : Cond.fieldLink M.1.cls idx (T j).1 (T j).2.1 (T j).2.2.1 ∈ lw_tbl) (hfin : (T j).2.2.2 = true) (hin2 : M.1.name = "<init>") (hdecl : (T j).1 = M.1.cls) (hP : P.1 a = some (xO k fs)) (hn : narrow (ty j) v = v) (hfit : fits (ty j) v = true) (hl : j < fs.length) (kk : X w M d Q (pc + 3) ls st (xs P a (xO k (fs.set j v)))) : X w M d Q pc ls (v :: .ref a :: st) P := by
  intro ok p e R s m args below meth c P0 H locs lsA F h1 h2 hH hL hls
  have hW := F.2.2.2.2.2.2.2.1
  have hts := xws (args := args) ok hW hin.1
  have hK := xKm ok hW
  have hap := va_apart (own := M.1.cls) hts (fun _ h => h) ty hin.2.1 hin.2.2 hK hc
  obtain ⟨r, hr1, cell, q1, q2, q3, q4⟩ := (hH.one hP) 0 _ rfl
  have hr : r = (C, T, N) := Option.some.inj (hr1.symm.trans hc)
  subst hr
  obtain ⟨hS, hfc, kC, hkC, hkind⟩ := hK.1 k _ hc
  obtain ⟨cf, kf, fi, f, hi, hsl⟩ := hS j hj
  have hlay := hts _ (u_in_lay hj)
  unfold u_lay at hlay
  rw [if_pos hfin] at hlay
  have hst := (u_facts hfc hkC (u_lays hts (fun _ h => h) hj) hi).1
  have hown := F.2.2.2.2.2.1
  have hcf : m.cls = cf := by
    rcases Cond.laysFinal_spec hlay with ⟨_, _, co, _, _, _, -, -, l1, -, -, -, l2, -⟩
    rw [hdecl, hown] at l2
    rw [hi] at l1
    cases l2
    cases l1
    rfl
  have h6 := u_fits hfc hkC hkind (Or.inr hlay) hi (hin.2.1 j hj) hn hfit
  refine W.putFinK F.1 F.2.1 hown (xw ok hW hw rfl) hi hst hcf (F.2.2.2.2.2.2.1.trans hin2) (by rw [q2]; exact h6) q1 q3 (by rw [hsl]; exact k2_hasslot (q4 j hj)) rfl rfl hd fun H' e1 e2 e3 => ?_
  rw [hsl] at e1 ⊢
  refine kk ok p e R s m args below meth c P0 H' _ lsA F h1 h2 (hH.set hP _ e2 e3 ⟨_, hc, t_OB.to (V := updV (vp_V fs) j v) ⟨_, e1, q2, q3, t_set q4 hap hj v⟩ (fun i _ => vp_updV_set hl v i)⟩ (fun cell2 h9 => ?_)) (xLo hH hP hL) hls
  rw [e1] at h9
  cases h9
  show cell.vm.isStatics = false
  rw [q3]; rfl
end XEnds
