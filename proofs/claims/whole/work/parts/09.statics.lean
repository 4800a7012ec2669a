section XStat
variable {w : xWd} {M MC : xM} {d : Nat} {Q Qc : Outcome → xH → Prop} {pc idx : Nat} {ls : List (Option Value)} {st : List Value} {P : xH}
theorem xKeep {s : State} (h : xOld w s.heap) : ∀ a : Nat, a < w.S.heap.size → ¬ (w.z ≤ a) → s.heap[a]? = w.S.heap[a]? := fun a ha _ => h.2.1 a ha
theorem xSF {p : Program} {R : Room} {s : State} {m : MethodId} {meth : Method} {c : Code} {P0 : xH} {H : Heap} {locs : List Loc} (F : xFr w M d P0 p R s m meth c) (h1 : P0.2.1 ≤ P.2.1) (hH : xHp w P H) (hL : ∀ q ∈ locs, w.z ≤ q.base) : va_S (fun q => w.z ≤ q) s.heap H locs := xS F.2.2.2.2.2.2.2.2.2.1 (by rw [F.2.2.2.2.2.2.2.2.2.2.1, hH.1]; exact h1) hH hL
/-- the six truths of the inputs -/
theorem X_getsIn (hd : decode M.2.1 pc = .ok (.getstatic idx, 3)) (hw : Cond.fieldLink M.1.cls idx RX2 "INPUTS" "[J" ∈ lw_tbl) (k : X w M d Q (pc + 3) ls (.ref (w.ad 1) :: st) P) : X w M d Q pc ls st P := by
  intro ok p e R s m args below meth c P0 H locs lsA F h1 h2 hH hL hls
  have hW := F.2.2.2.2.2.2.2.1
  exact va_gets F.1 F.2.1 (va_Z.moved hW.alike (ok.2.2.2.2.1.1.kept (xKeep F.2.2.2.2.2.2.2.2.2.1))) (xSF F h1 hH hL) F.2.2.2.2.2.1 (xw ok hW hw rfl) (fun _ h => h) hd (k ok p e R s m args below meth c P0 H locs lsA F h1 h2 hH hL hls)
theorem X_getsInN {host : String} (hd : decode M.2.1 pc = .ok (.getstatic idx, 3)) (hw : Cond.fieldLinkNest M.1.cls idx RX2 "INPUTS" "[J" host ∈ lw_tbl) (k : X w M d Q (pc + 3) ls (.ref (w.ad 1) :: st) P) : X w M d Q pc ls st P := by
  intro ok p e R s m args below meth c P0 H locs lsA F h1 h2 hH hL hls
  have hW := F.2.2.2.2.2.2.2.1
  exact va_getsN F.1 F.2.1 (va_Z.moved hW.alike (ok.2.2.2.2.1.1.kept (xKeep F.2.2.2.2.2.2.2.2.2.1))) (xSF F h1 hH hL) F.2.2.2.2.2.1 (xwF ok hW hw) (fun _ h => h) hd (k ok p e R s m args below meth c P0 H locs lsA F h1 h2 hH hL hls)
theorem X_inld {i : Int32} (hd : decode M.2.1 pc = .ok (.laload, 1)) (hi : vp_in i 6) (k : X w M d Q (pc + 1) ls (.long (xN i.toNatClampNeg) :: st) P) : X w M d Q pc ls (.int i :: .ref (w.ad 1) :: st) P := by
  intro ok p e R s m args below meth c P0 H locs lsA F h1 h2 hH hL hls
  have hW := F.2.2.2.2.2.2.2.1
  exact va_tl F.1 F.2.1 (va_T.moved hW.alike (ok.2.2.2.2.1.2.kept (xKeep F.2.2.2.2.2.2.2.2.2.1))) (xSF F h1 hH hL) hi rfl hd (k ok p e R s m args below meth c P0 H locs lsA F h1 h2 hH hL hls)
/-- the script -/
theorem X_sld {i : Int32} (hd : decode M.2.1 pc = .ok (.iaload, 1)) (hi : vp_in i w.2.2.2.2.2.1) (k : X w M d Q (pc + 1) ls (.int (w.2.2.2.2.2.2 i.toNatClampNeg) :: st) P) : X w M d Q pc ls (.int i :: .ref (w.ad 0) :: st) P := by
  intro ok p e R s m args below meth c P0 H locs lsA F h1 h2 hH hL hls
  have hW := F.2.2.2.2.2.2.2.1
  have hz := ok.2.2.2.2.2.1.2
  have hX := va_X.moved hW.alike (ok.2.2.2.2.2.1.1.kept (H1 := s.heap) (F.2.2.2.2.2.2.2.2.2.1.2.1 _ hz))
  exact va_sld F.1 F.2.1 hX (Nat.lt_of_lt_of_le hz F.2.2.2.2.2.2.2.2.2.1.1) (Nat.not_le.mpr hz) (xSF F h1 hH hL) hi hd (k ok p e R s m args below meth c P0 H locs lsA F h1 h2 hH hL hls)
theorem X_slen (hd : decode M.2.1 pc = .ok (.arraylength, 1)) (k : X w M d Q (pc + 1) ls (.int (Int32.ofNat w.2.2.2.2.2.1) :: st) P) : X w M d Q pc ls (.ref (w.ad 0) :: st) P := by
  intro ok p e R s m args below meth c P0 H locs lsA F h1 h2 hH hL hls
  have hW := F.2.2.2.2.2.2.2.1
  have hz := ok.2.2.2.2.2.1.2
  have hX := va_X.moved hW.alike (ok.2.2.2.2.2.1.1.kept (H1 := s.heap) (F.2.2.2.2.2.2.2.2.2.1.2.1 _ hz))
  exact va_slen F.1 F.2.1 hX (Nat.lt_of_lt_of_le hz F.2.2.2.2.2.2.2.2.2.1.1) (Nat.not_le.mpr hz) (xSF F h1 hH hL) hd (k ok p e R s m args below meth c P0 H locs lsA F h1 h2 hH hL hls)
/-- texts -/
theorem X_ldcS {i : Nat} (hd : decode M.2.1 pc = .ok (.ldc (xSi.getD i 0), 2)) (ho : M.1.cls = RX5) (hi : i < 26) (k : X w M d Q (pc + 2) ls (.ref (w.ad (10 + i)) :: st) P) : X w M d Q pc ls st P := by
  intro ok p e R s m args below meth c P0 H locs lsA F h1 h2 hH hL hls
  have hW := F.2.2.2.2.2.2.2.1
  have hown := F.2.2.2.2.2.1
  rw [ho] at hown
  exact va_ldcS F.1 F.2.1 hown (vk_R.warm hW (ok.2.2.2.2.2.2.2.1 i hi)) hd (k ok p e R s m args below meth c P0 H locs lsA F h1 h2 hH hL hls)
theorem X_ldcwS {i : Nat} (hd : decode M.2.1 pc = .ok (.ldc_w (xSi.getD i 0), 3)) (ho : M.1.cls = RX5) (hi : i < 26) (k : X w M d Q (pc + 3) ls (.ref (w.ad (10 + i)) :: st) P) : X w M d Q pc ls st P := by
  intro ok p e R s m args below meth c P0 H locs lsA F h1 h2 hH hL hls T hT X9
  have hW := F.2.2.2.2.2.2.2.1
  have hown := F.2.2.2.2.2.1
  rw [ho] at hown
  have hZ := vk_R.warm hW (ok.2.2.2.2.2.2.2.1 i hi)
  obtain ⟨t, a1, b1⟩ := k ok p e R s m args below meth c P0 H locs lsA F h1 h2 hH hL hls T hT X9
  exact ⟨t, X9.ldcStringW F.1 hown (text := xSx.getD i "") (a := w.ad (10 + i)) hZ.1 hZ.2 (g := F0 m pc lsA st) rfl (by rw [F.2.1]; exact hd) t a1, b1⟩
theorem xVkS {s : State} {i : Nat} (ok : xOK w) (hW : w.S.WarmedH s.vm) (h : xOld w s.heap) (hi : i < 26) : vk_S 1 [xSl.getD i 0] [xSb.getD i []] (fun _ => w.ad (10 + i)) (fun _ => w.ad (40 + i)) (fun q => w.z ≤ q) s s.heap := vk_S.moved hW.alike ((ok.2.2.2.2.2.2.2.2.1 i hi).kept (xKeep h))
theorem X_getSv {i : Nat} (hd : decode M.2.1 pc = .ok (.getfield idx, 3)) (hw : Cond.fieldLink M.1.cls idx RJ0 "value" "[B" ∈ lw_tbl) (hi : i < 26) (k : X w M d Q (pc + 3) ls (.ref (w.ad (40 + i)) :: st) P) : X w M d Q pc ls (.ref (w.ad (10 + i)) :: st) P := by
  intro ok p e R s m args below meth c P0 H locs lsA F h1 h2 hH hL hls
  have hW := F.2.2.2.2.2.2.2.1
  exact vk_getf F.1 F.2.1 ((xVkS ok hW F.2.2.2.2.2.2.2.2.2.1 hi).1 0 Nat.one_pos).2.2.1 (xSF F h1 hH hL) F.2.2.2.2.2.1 (xw ok hW hw rfl) (fun _ h => h) hd (k ok p e R s m args below meth c P0 H locs lsA F h1 h2 hH hL hls)
theorem X_getSc {i : Nat} (hd : decode M.2.1 pc = .ok (.getfield idx, 3)) (hw : Cond.fieldLink M.1.cls idx RJ0 "coder" "B" ∈ lw_tbl) (hi : i < 26) (k : X w M d Q (pc + 3) ls (.int 0 :: st) P) : X w M d Q pc ls (.ref (w.ad (10 + i)) :: st) P := by
  intro ok p e R s m args below meth c P0 H locs lsA F h1 h2 hH hL hls
  have hW := F.2.2.2.2.2.2.2.1
  exact vk_getf F.1 F.2.1 ((xVkS ok hW F.2.2.2.2.2.2.2.2.2.1 hi).1 0 Nat.one_pos).2.1 (xSF F h1 hH hL) F.2.2.2.2.2.1 (xw ok hW hw rfl) (fun _ h => h) hd (k ok p e R s m args below meth c P0 H locs lsA F h1 h2 hH hL hls)
theorem X_blen {i : Nat} (hd : decode M.2.1 pc = .ok (.arraylength, 1)) (hi : i < 26) (k : X w M d Q (pc + 1) ls (.int (Int32.ofNat (xSl.getD i 0)) :: st) P) : X w M d Q pc ls (.ref (w.ad (40 + i)) :: st) P := by
  intro ok p e R s m args below meth c P0 H locs lsA F h1 h2 hH hL hls
  have hW := F.2.2.2.2.2.2.2.1
  exact va_tlen F.1 F.2.1 ((xVkS ok hW F.2.2.2.2.2.2.2.2.2.1 hi).1 0 Nat.one_pos).2.2.2 (xSF F h1 hH hL) rfl hd (k ok p e R s m args below meth c P0 H locs lsA F h1 h2 hH hL hls)
theorem X_bald {i : Nat} {j : Int32} (hd : decode M.2.1 pc = .ok (.baload, 1)) (hi : i < 26) (hj : vp_in j (xSl.getD i 0)) (k : X w M d Q (pc + 1) ls (.int ((xSb.getD i []).getD j.toNatClampNeg 0) :: st) P) : X w M d Q pc ls (.int j :: .ref (w.ad (40 + i)) :: st) P := by
  intro ok p e R s m args below meth c P0 H locs lsA F h1 h2 hH hL hls
  have hW := F.2.2.2.2.2.2.2.1
  exact va_tb F.1 F.2.1 ((xVkS ok hW F.2.2.2.2.2.2.2.2.2.1 hi).1 0 Nat.one_pos).2.2.2 (xSF F h1 hH hL) hj rfl hd (k ok p e R s m args below meth c P0 H locs lsA F h1 h2 hH hL hls)
theorem X_getsCS (hd : decode M.2.1 pc = .ok (.getstatic idx, 3)) (hw : Cond.fieldLink M.1.cls idx RJ0 "COMPACT_STRINGS" "Z" ∈ lw_tbl) (k : X w M d Q (pc + 3) ls (.int 1 :: st) P) : X w M d Q pc ls st P := by
  intro ok p e R s m args below meth c P0 H locs lsA F h1 h2 hH hL hls
  have hW := F.2.2.2.2.2.2.2.1
  exact va_gets F.1 F.2.1 (va_Z.moved hW.alike (ok.2.2.2.2.2.2.2.2.2.1.kept (xKeep F.2.2.2.2.2.2.2.2.2.1))) (xSF F h1 hH hL) F.2.2.2.2.2.1 (xw ok hW hw rfl) (fun _ h => h) hd (k ok p e R s m args below meth c P0 H locs lsA F h1 h2 hH hL hls)
theorem X_getsSF (hd : decode M.2.1 pc = .ok (.getstatic idx, 3)) (hw : Cond.fieldLink M.1.cls idx RJ3 "SIOOBE_FORMATTER" "Ljava/util/function/BiFunction;" ∈ lw_tbl) (k : ∀ v : Value, v.category = 1 → X w M d Q (pc + 3) ls (v :: st) P) : X w M d Q pc ls st P := by
  intro ok p e R s m args below meth c P0 H locs lsA F h1 h2 hH hL hls
  have hW := F.2.2.2.2.2.2.2.1
  rcases ok.2.2.2.2.2.2.2.2.2.2 with hZ | ⟨t, hZ⟩
  · exact va_gets F.1 F.2.1 (va_Z.moved hW.alike (hZ.kept (xKeep F.2.2.2.2.2.2.2.2.2.1))) (xSF F h1 hH hL) F.2.2.2.2.2.1 (xw ok hW hw rfl) (fun _ h => h) hd (k _ rfl ok p e R s m args below meth c P0 H locs lsA F h1 h2 hH hL hls)
  · exact va_gets F.1 F.2.1 (va_Z.moved hW.alike (hZ.kept (xKeep F.2.2.2.2.2.2.2.2.2.1))) (xSF F h1 hH hL) F.2.2.2.2.2.1 (xw ok hW hw rfl) (fun _ h => h) hd (k _ rfl ok p e R s m args below meth c P0 H locs lsA F h1 h2 hH hL hls)
theorem X_pop {v : Value} (hd : decode M.2.1 pc = .ok (.pop, 1)) (hv : v.category = 1) (k : X w M d Q (pc + 1) ls st P) : X w M d Q pc ls (v :: st) P := X_go (fun hx hb K => lv_pop hx hb hd hv K) k
/-- a call of a text's own method -/
theorem X_callVS {i n : Nat} {As : List Value} (hd : decode M.2.1 pc = .ok (.invokevirtual idx, 3)) (hc : xCal MC n) (hcl0 : MC.1.cls = RJ0) (hw1 : Cond.methodLink M.1.cls idx MC.1 ∈ lw_tbl) (hw2 : Cond.instanceMethod MC.1 ∈ lw_tbl) (hw3 : Cond.selects MC.1.cls MC.1 MC.1 ∈ lw_tbl) (hn : As.length = n) (hi : i < 26) (hC : xC w d MC (.ref (w.ad (10 + i)) :: As) P Qc) (hst : (st.map fun v => v.category).sum ≤ 8)
    (kr : ∀ v P1, Qc (.returned v) P1 → X w M (d + 1) Q (pc + 3) ls (v.toList ++ st) P1) (kt : ∀ q P1, ¬ Qc (.threw q) P1) : X w M (d + 1) Q pc ls (As.reverse ++ .ref (w.ad (10 + i)) :: st) P := by
  intro ok p e R s m args below meth c P0 H locs lsA F h1 h2 hH hL hls T9 hT X9
  have hW := F.2.2.2.2.2.2.2.1
  obtain ⟨hF1, hF2, r1, r2⟩ := F.2.2.2.2.2.2.2.2.2.2.2
  obtain ⟨cell, g1, g3, hcl⟩ := vk_recv (i := 0) (xVkS ok hW F.2.2.2.2.2.2.2.2.2.1 hi) Nat.one_pos (xSF F h1 hH hL)
  have hcl : s.vm.findClass MC.1.cls = some cell.cls := by rw [hcl0]; exact hcl
  obtain ⟨c1, c2, c3, c4, c5, c6⟩ := id hc
  have hK := x_back (R := R) (p := p) (e := e) (below := below) (s := s) (sargs := args) ok hC hW (by omega) (by omega) c1 c2 c3
  obtain ⟨R1, R2⟩ := xRoomC (P1 := P) hH h1 h2 r1 r2
  have hmth := xw (args := args) ok hW hw1 rfl
  have hinst := xw (args := args) ok hW hw2 rfl
  have hsel := xw (args := args) ok hW hw3 rfl
  have hcod := xw (args := args) ok hW c1 c2
  obtain ⟨mk, methM, hnamed, hmethM, hstM, habM⟩ := Cond.instanceMethod_spec hinst
  obtain ⟨methM', cM, hmethM', -, -, -, -, -, -, hsigM⟩ := xcw_spec hnamed hcod
  cases hmethM.symm.trans hmethM'
  obtain ⟨c2', r2', m2, q1, q2, q3, q4, kP, hkP, hkPi⟩ := Cond.selects_spec hsel
  cases hcl.symm.trans q1
  cases (State.methodFound?_of_named hnamed c4).symm.trans q2
  cases hnamed.symm.trans q3
  have hselP : selectMethod e.platform s.vm cell.cls mk = .method mk := by rw [Launch.admits_selectMethod X9.admits]; exact q4
  have hdc : decode c.code pc = .ok (.invokevirtual idx, 3) := by rw [F.2.1]; exact hd
  have hsz : lsA.size = c.maxLocals := hls.1.trans F.2.2.1.symm
  obtain ⟨vm₁, X₁, hstep₁⟩ := X9.invokevirtual F.1 F.2.2.2.2.2.1 hmth hnamed hmethM hstM hkP hkPi c4 (a := w.ad (10 + i)) (cell := cell) (by rw [hT]; exact g1)
    (fun z h => by rw [h] at g3; cases g3) hselP hmethM habM hkP hkPi (g := F0 m pc lsA (As.reverse ++ .ref (w.ad (10 + i)) :: st)) rfl (argsL := As) (rest := st) (hc.len hn _ hsigM) rfl hdc
  rcases hK m meth c ⟨T9.setVm vm₁, locs, _, _⟩ (F0 m pc lsA st) (.invokevirtual idx) mk (Value.ref (w.ad (10 + i)) :: As).toArray X₁ rfl hsz hdc (lv_room hst) (X₁.named hnamed) ⟨rfl, by show xHp w P T9.heap; rw [hT]; exact hH, R1, R2⟩ with ⟨v, ⟨U1, L1, c1', s1'⟩, X', ⟨P1, hQ, hHp, p1, p2, e1, e2, L, e3, hLL⟩, hsteps⟩ | ⟨q, ⟨U1, L1, c1', s1'⟩, X', ⟨P1, hQ, hHp, p1, p2, e1, e2, L, e3, hLL⟩, hsteps⟩
  · dsimp only [Pt.U, Pt.locs, Pt.cells, Pt.slots] at X' e1 e2 e3 hHp hsteps
    subst e1; subst e2; subst e3
    rw [show P.2.1 - P0.2.1 + (P1.2.1 - P.2.1) = P1.2.1 - P0.2.1 by omega, show P.2.2 - P0.2.2 + (P1.2.2 - P.2.2) = P1.2.2 - P0.2.2 by omega] at X'
    obtain ⟨t2, a1, b1⟩ := kr v P1 hQ ok p e R s m args below meth c P0 U1.heap (locs ++ L) lsA F (Nat.le_trans h1 p1) (Nat.le_trans h2 p2) hHp (fun q hq => (List.mem_append.mp hq).elim (hL q) (hLL q)) hls U1 rfl X'
    exact ⟨t2, hstep₁ _ fun acts => by rw [doInvoke_state]; exact hsteps.trans a1, b1⟩
  · exact absurd hQ (kt q P1)
end XStat
