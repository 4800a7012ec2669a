section
variable {w : xWd} {d : Nat} {Q : Outcome → xH → Prop} {ls : List (Option Value)} {st : List Value} {P : xH}
theorem dL_cell_0 : decode cL_cell 0 = .ok (.aload_n 3, 1) := by decide +kernel
theorem sL_cell_0 {l0 l1 l2 l4 : Option Value} {x : Nat} (k : X w mL_cell d Q 1 [l0, l1, l2, some (.ref x), l4] (.ref x :: st) P) : X w mL_cell d Q 0 [l0, l1, l2, some (.ref x), l4] st P := X_aload_n (M := mL_cell) (dL_cell_0) rfl rfl k
theorem dL_cell_1 : decode cL_cell 1 = .ok (.iconst 0, 1) := by decide +kernel
theorem sL_cell_1 (k : X w mL_cell d Q 2 ls (.int (0 : Int32) :: st) P) : X w mL_cell d Q 1 ls st P := X_iconst (M := mL_cell) (dL_cell_1) (by decide) k
theorem dL_cell_2 : decode cL_cell 2 = .ok (.aload_n 0, 1) := by decide +kernel
theorem sL_cell_2 {l1 l2 l3 l4 : Option Value} {x : Nat} (k : X w mL_cell d Q 3 [some (.ref x), l1, l2, l3, l4] (.ref x :: st) P) : X w mL_cell d Q 2 [some (.ref x), l1, l2, l3, l4] st P := X_aload_n (M := mL_cell) (dL_cell_2) rfl rfl k
theorem dL_cell_3 : decode cL_cell 3 = .ok (.iload_n 1, 1) := by decide +kernel
theorem sL_cell_3 {l0 l2 l3 l4 : Option Value} {x : Int32} (k : X w mL_cell d Q 4 [l0, some (.int x), l2, l3, l4] (.int x :: st) P) : X w mL_cell d Q 3 [l0, some (.int x), l2, l3, l4] st P := X_iload_n (M := mL_cell) (dL_cell_3) rfl rfl k
theorem dL_cell_4 : decode cL_cell 4 = .ok (.iload_n 2, 1) := by decide +kernel
theorem sL_cell_4 {l0 l1 l3 l4 : Option Value} {x : Int32} (k : X w mL_cell d Q 5 [l0, l1, some (.int x), l3, l4] (.int x :: st) P) : X w mL_cell d Q 4 [l0, l1, some (.int x), l3, l4] st P := X_iload_n (M := mL_cell) (dL_cell_4) rfl rfl k
theorem dL_cell_5 : decode cL_cell 5 = .ok (.invokevirtual 7, 3) := by decide +kernel
theorem sL_cell_5_g {b : Nat} {fs : List Value} {a0 : Int32} {a1 : Int32} {Qc : Outcome → xH → Prop} (hst : (st.map fun v => v.category).sum ≤ 8) (hP : P.1 b = some (xO 8 fs)) (hC : xC w d mX10_cell [.ref b, .int a0, .int a1] P Qc) (kr : ∀ v P1, Qc (.returned v) P1 → X w mL_cell (d + 1) Q 8 ls (v.toList ++ st) P1) (kt : ∀ q P1, Qc (.threw q) P1 → Xt w mL_cell (d + 1) Q 5 ls st P1 q) : X w mL_cell (d + 1) Q 5 ls (.int a1 :: .int a0 :: .ref b :: st) P := X_callV (M := mL_cell) (MC := mX10_cell) (As := [.int a0, .int a1]) (T := TX10) (dL_cell_5) calX10_cell xw_565 xw_566 xw_567 rfl rfl hP hC hst kr kt
theorem sL_cell_5 {b : Nat} {fs : List Value} {a0 : Int32} {a1 : Int32} {r : Int32} {P1 : xH} (hst : (st.map fun v => v.category).sum ≤ 8) (hP : P.1 b = some (xO 8 fs)) (hC : xC w d mX10_cell [.ref b, .int a0, .int a1] P (xRet (some (.int r)) P1)) (k : X w mL_cell (d + 1) Q 8 ls (.int r :: st) P1) : X w mL_cell (d + 1) Q 5 ls (.int a1 :: .int a0 :: .ref b :: st) P := X_callV (M := mL_cell) (MC := mX10_cell) (As := [.int a0, .int a1]) (T := TX10) (dL_cell_5) calX10_cell xw_565 xw_566 xw_567 rfl rfl hP hC hst (fun v P2 h => by obtain ⟨h1, rfl⟩ := h; cases h1; exact k) (fun q P2 h => by cases h.1)
theorem sL_cell_5_r {b : Nat} {fs : List Value} {a0 : Int32} {a1 : Int32} {r : Int32} {Rp : xH → Prop} (hst : (st.map fun v => v.category).sum ≤ 8) (hP : P.1 b = some (xO 8 fs)) (hC : xC w d mX10_cell [.ref b, .int a0, .int a1] P (xRl (some (.int r)) Rp)) (k : ∀ P1, Rp P1 → X w mL_cell (d + 1) Q 8 ls (.int r :: st) P1) : X w mL_cell (d + 1) Q 5 ls (.int a1 :: .int a0 :: .ref b :: st) P := X_callV (M := mL_cell) (MC := mX10_cell) (As := [.int a0, .int a1]) (T := TX10) (dL_cell_5) calX10_cell xw_565 xw_566 xw_567 rfl rfl hP hC hst (fun v P2 h => by obtain ⟨h1, hR⟩ := h; cases h1; exact k P2 hR) (fun q P2 h => by cases h.1)
theorem dL_cell_8 : decode cL_cell 8 = .ok (.i2l, 1) := by decide +kernel
theorem sL_cell_8 {x : Int32} (k : X w mL_cell d Q 9 ls (.long x.toInt64 :: st) P) : X w mL_cell d Q 8 ls (.int x :: st) P := X_i2l (M := mL_cell) (dL_cell_8) k
theorem dL_cell_9 : decode cL_cell 9 = .ok (.lastore, 1) := by decide +kernel
theorem sL_cell_9 {a n : Nat} {f : Nat → Int64} {i : Int32} {x : Int64} (hP : P.1 a = some (xJ n f)) (hi : vp_in i n) (k : X w mL_cell d Q 10 ls st (xs P a (xJ n (vp_updL f i.toNatClampNeg x)))) : X w mL_cell d Q 9 ls (.long x :: .int i :: .ref a :: st) P := X_last (M := mL_cell) (dL_cell_9) hP hi k
theorem dL_cell_10 : decode cL_cell 10 = .ok (.goto 7, 3) := by decide +kernel
theorem sL_cell_10 (k : X w mL_cell d Q 17 ls st P) : X w mL_cell d Q 10 ls st P := X_goto (M := mL_cell) (dL_cell_10) (by decide) k
theorem dL_cell_13 : decode cL_cell 13 = .ok (.astore 4, 2) := by decide +kernel
theorem sL_cell_13 {l0 l1 l2 l3 l4 : Option Value} {x : Nat} (hn : xnl l3 = true) (k : X w mL_cell d Q 15 [l0, l1, l2, l3, some (.ref x)] st P) : X w mL_cell d Q 13 [l0, l1, l2, l3, l4] (.ref x :: st) P := X_astore (M := mL_cell) (dL_cell_13) (by decide) rfl (xnl_p (ls := [l0, l1, l2, l3, l4]) (j := 3) rfl hn) k
theorem dL_cell_15 : decode cL_cell 15 = .ok (.iconst 1, 1) := by decide +kernel
theorem sL_cell_15 (k : X w mL_cell d Q 16 ls (.int (1 : Int32) :: st) P) : X w mL_cell d Q 15 ls st P := X_iconst (M := mL_cell) (dL_cell_15) (by decide) k
theorem dL_cell_16 : decode cL_cell 16 = .ok (.ireturn, 1) := by decide +kernel
theorem sL_cell_16 {v : Int32} (hq : Q (.returned (some (.int v))) P) : X w mL_cell d Q 16 ls [.int v] P := X_iret (M := mL_cell) (dL_cell_16) rfl hq
theorem dL_cell_17 : decode cL_cell 17 = .ok (.iconst 0, 1) := by decide +kernel
theorem sL_cell_17 (k : X w mL_cell d Q 18 ls (.int (0 : Int32) :: st) P) : X w mL_cell d Q 17 ls st P := X_iconst (M := mL_cell) (dL_cell_17) (by decide) k
theorem dL_cell_18 : decode cL_cell 18 = .ok (.ireturn, 1) := by decide +kernel
theorem sL_cell_18 {v : Int32} (hq : Q (.returned (some (.int v))) P) : X w mL_cell d Q 18 ls [.int v] P := X_iret (M := mL_cell) (dL_cell_18) rfl hq
theorem dL_truth_0 : decode cL_truth 0 = .ok (.aload_n 3, 1) := by decide +kernel
theorem sL_truth_0 {l0 l1 l2 l4 : Option Value} {x : Nat} (k : X w mL_truth d Q 1 [l0, l1, l2, some (.ref x), l4] (.ref x :: st) P) : X w mL_truth d Q 0 [l0, l1, l2, some (.ref x), l4] st P := X_aload_n (M := mL_truth) (dL_truth_0) rfl rfl k
theorem dL_truth_1 : decode cL_truth 1 = .ok (.iconst 0, 1) := by decide +kernel
theorem sL_truth_1 (k : X w mL_truth d Q 2 ls (.int (0 : Int32) :: st) P) : X w mL_truth d Q 1 ls st P := X_iconst (M := mL_truth) (dL_truth_1) (by decide) k
theorem dL_truth_2 : decode cL_truth 2 = .ok (.aload_n 0, 1) := by decide +kernel
theorem sL_truth_2 {l1 l2 l3 l4 : Option Value} {x : Nat} (k : X w mL_truth d Q 3 [some (.ref x), l1, l2, l3, l4] (.ref x :: st) P) : X w mL_truth d Q 2 [some (.ref x), l1, l2, l3, l4] st P := X_aload_n (M := mL_truth) (dL_truth_2) rfl rfl k
theorem dL_truth_3 : decode cL_truth 3 = .ok (.iload_n 1, 1) := by decide +kernel
theorem sL_truth_3 {l0 l2 l3 l4 : Option Value} {x : Int32} (k : X w mL_truth d Q 4 [l0, some (.int x), l2, l3, l4] (.int x :: st) P) : X w mL_truth d Q 3 [l0, some (.int x), l2, l3, l4] st P := X_iload_n (M := mL_truth) (dL_truth_3) rfl rfl k
theorem dL_truth_4 : decode cL_truth 4 = .ok (.iload_n 2, 1) := by decide +kernel
theorem sL_truth_4 {l0 l1 l3 l4 : Option Value} {x : Int32} (k : X w mL_truth d Q 5 [l0, l1, some (.int x), l3, l4] (.int x :: st) P) : X w mL_truth d Q 4 [l0, l1, some (.int x), l3, l4] st P := X_iload_n (M := mL_truth) (dL_truth_4) rfl rfl k
theorem dL_truth_5 : decode cL_truth 5 = .ok (.invokevirtual 15, 3) := by decide +kernel
theorem sL_truth_5_g {b : Nat} {fs : List Value} {a0 : Int32} {a1 : Int32} {Qc : Outcome → xH → Prop} (hst : (st.map fun v => v.category).sum ≤ 8) (hP : P.1 b = some (xO 8 fs)) (hC : xC w d mX10_truth [.ref b, .int a0, .int a1] P Qc) (kr : ∀ v P1, Qc (.returned v) P1 → X w mL_truth (d + 1) Q 8 ls (v.toList ++ st) P1) (kt : ∀ q P1, Qc (.threw q) P1 → Xt w mL_truth (d + 1) Q 5 ls st P1 q) : X w mL_truth (d + 1) Q 5 ls (.int a1 :: .int a0 :: .ref b :: st) P := X_callV (M := mL_truth) (MC := mX10_truth) (As := [.int a0, .int a1]) (T := TX10) (dL_truth_5) calX10_truth xw_568 xw_569 xw_570 rfl rfl hP hC hst kr kt
theorem sL_truth_5 {b : Nat} {fs : List Value} {a0 : Int32} {a1 : Int32} {r : Int64} {P1 : xH} (hst : (st.map fun v => v.category).sum ≤ 8) (hP : P.1 b = some (xO 8 fs)) (hC : xC w d mX10_truth [.ref b, .int a0, .int a1] P (xRet (some (.long r)) P1)) (k : X w mL_truth (d + 1) Q 8 ls (.long r :: st) P1) : X w mL_truth (d + 1) Q 5 ls (.int a1 :: .int a0 :: .ref b :: st) P := X_callV (M := mL_truth) (MC := mX10_truth) (As := [.int a0, .int a1]) (T := TX10) (dL_truth_5) calX10_truth xw_568 xw_569 xw_570 rfl rfl hP hC hst (fun v P2 h => by obtain ⟨h1, rfl⟩ := h; cases h1; exact k) (fun q P2 h => by cases h.1)
theorem sL_truth_5_r {b : Nat} {fs : List Value} {a0 : Int32} {a1 : Int32} {r : Int64} {Rp : xH → Prop} (hst : (st.map fun v => v.category).sum ≤ 8) (hP : P.1 b = some (xO 8 fs)) (hC : xC w d mX10_truth [.ref b, .int a0, .int a1] P (xRl (some (.long r)) Rp)) (k : ∀ P1, Rp P1 → X w mL_truth (d + 1) Q 8 ls (.long r :: st) P1) : X w mL_truth (d + 1) Q 5 ls (.int a1 :: .int a0 :: .ref b :: st) P := X_callV (M := mL_truth) (MC := mX10_truth) (As := [.int a0, .int a1]) (T := TX10) (dL_truth_5) calX10_truth xw_568 xw_569 xw_570 rfl rfl hP hC hst (fun v P2 h => by obtain ⟨h1, hR⟩ := h; cases h1; exact k P2 hR) (fun q P2 h => by cases h.1)
theorem dL_truth_8 : decode cL_truth 8 = .ok (.lastore, 1) := by decide +kernel
theorem sL_truth_8 {a n : Nat} {f : Nat → Int64} {i : Int32} {x : Int64} (hP : P.1 a = some (xJ n f)) (hi : vp_in i n) (k : X w mL_truth d Q 9 ls st (xs P a (xJ n (vp_updL f i.toNatClampNeg x)))) : X w mL_truth d Q 8 ls (.long x :: .int i :: .ref a :: st) P := X_last (M := mL_truth) (dL_truth_8) hP hi k
theorem dL_truth_9 : decode cL_truth 9 = .ok (.goto 7, 3) := by decide +kernel
theorem sL_truth_9 (k : X w mL_truth d Q 16 ls st P) : X w mL_truth d Q 9 ls st P := X_goto (M := mL_truth) (dL_truth_9) (by decide) k
theorem dL_truth_12 : decode cL_truth 12 = .ok (.astore 4, 2) := by decide +kernel
theorem sL_truth_12 {l0 l1 l2 l3 l4 : Option Value} {x : Nat} (hn : xnl l3 = true) (k : X w mL_truth d Q 14 [l0, l1, l2, l3, some (.ref x)] st P) : X w mL_truth d Q 12 [l0, l1, l2, l3, l4] (.ref x :: st) P := X_astore (M := mL_truth) (dL_truth_12) (by decide) rfl (xnl_p (ls := [l0, l1, l2, l3, l4]) (j := 3) rfl hn) k
theorem dL_truth_14 : decode cL_truth 14 = .ok (.iconst 1, 1) := by decide +kernel
theorem sL_truth_14 (k : X w mL_truth d Q 15 ls (.int (1 : Int32) :: st) P) : X w mL_truth d Q 14 ls st P := X_iconst (M := mL_truth) (dL_truth_14) (by decide) k
theorem dL_truth_15 : decode cL_truth 15 = .ok (.ireturn, 1) := by decide +kernel
theorem sL_truth_15 {v : Int32} (hq : Q (.returned (some (.int v))) P) : X w mL_truth d Q 15 ls [.int v] P := X_iret (M := mL_truth) (dL_truth_15) rfl hq
theorem dL_truth_16 : decode cL_truth 16 = .ok (.iconst 0, 1) := by decide +kernel
theorem sL_truth_16 (k : X w mL_truth d Q 17 ls (.int (0 : Int32) :: st) P) : X w mL_truth d Q 16 ls st P := X_iconst (M := mL_truth) (dL_truth_16) (by decide) k
theorem dL_truth_17 : decode cL_truth 17 = .ok (.ireturn, 1) := by decide +kernel
theorem sL_truth_17 {v : Int32} (hq : Q (.returned (some (.int v))) P) : X w mL_truth d Q 17 ls [.int v] P := X_iret (M := mL_truth) (dL_truth_17) rfl hq
theorem dL_sense_0 : decode cL_sense 0 = .ok (.aload 4, 2) := by decide +kernel
theorem sL_sense_0 {l0 l1 l2 l3 l5 : Option Value} {x : Nat} (k : X w mL_sense d Q 2 [l0, l1, l2, l3, some (.ref x), l5] (.ref x :: st) P) : X w mL_sense d Q 0 [l0, l1, l2, l3, some (.ref x), l5] st P := X_aload (M := mL_sense) (dL_sense_0) rfl k
theorem dL_sense_2 : decode cL_sense 2 = .ok (.iconst 0, 1) := by decide +kernel
theorem sL_sense_2 (k : X w mL_sense d Q 3 ls (.int (0 : Int32) :: st) P) : X w mL_sense d Q 2 ls st P := X_iconst (M := mL_sense) (dL_sense_2) (by decide) k
theorem dL_sense_3 : decode cL_sense 3 = .ok (.aload_n 0, 1) := by decide +kernel
theorem sL_sense_3 {l1 l2 l3 l4 l5 : Option Value} {x : Nat} (k : X w mL_sense d Q 4 [some (.ref x), l1, l2, l3, l4, l5] (.ref x :: st) P) : X w mL_sense d Q 3 [some (.ref x), l1, l2, l3, l4, l5] st P := X_aload_n (M := mL_sense) (dL_sense_3) rfl rfl k
theorem dL_sense_4 : decode cL_sense 4 = .ok (.iload_n 1, 1) := by decide +kernel
theorem sL_sense_4 {l0 l2 l3 l4 l5 : Option Value} {x : Int32} (k : X w mL_sense d Q 5 [l0, some (.int x), l2, l3, l4, l5] (.int x :: st) P) : X w mL_sense d Q 4 [l0, some (.int x), l2, l3, l4, l5] st P := X_iload_n (M := mL_sense) (dL_sense_4) rfl rfl k
theorem dL_sense_5 : decode cL_sense 5 = .ok (.iload_n 2, 1) := by decide +kernel
theorem sL_sense_5 {l0 l1 l3 l4 l5 : Option Value} {x : Int32} (k : X w mL_sense d Q 6 [l0, l1, some (.int x), l3, l4, l5] (.int x :: st) P) : X w mL_sense d Q 5 [l0, l1, some (.int x), l3, l4, l5] st P := X_iload_n (M := mL_sense) (dL_sense_5) rfl rfl k
theorem dL_sense_6 : decode cL_sense 6 = .ok (.iload_n 3, 1) := by decide +kernel
theorem sL_sense_6 {l0 l1 l2 l4 l5 : Option Value} {x : Int32} (k : X w mL_sense d Q 7 [l0, l1, l2, some (.int x), l4, l5] (.int x :: st) P) : X w mL_sense d Q 6 [l0, l1, l2, some (.int x), l4, l5] st P := X_iload_n (M := mL_sense) (dL_sense_6) rfl rfl k
theorem dL_sense_7 : decode cL_sense 7 = .ok (.invokevirtual 19, 3) := by decide +kernel
theorem sL_sense_7_g {b : Nat} {fs : List Value} {a0 : Int32} {a1 : Int32} {a2 : Int32} {Qc : Outcome → xH → Prop} (hst : (st.map fun v => v.category).sum ≤ 8) (hP : P.1 b = some (xO 8 fs)) (hC : xC w d mX10_sense [.ref b, .int a0, .int a1, .int a2] P Qc) (kr : ∀ v P1, Qc (.returned v) P1 → X w mL_sense (d + 1) Q 10 ls (v.toList ++ st) P1) (kt : ∀ q P1, Qc (.threw q) P1 → Xt w mL_sense (d + 1) Q 7 ls st P1 q) : X w mL_sense (d + 1) Q 7 ls (.int a2 :: .int a1 :: .int a0 :: .ref b :: st) P := X_callV (M := mL_sense) (MC := mX10_sense) (As := [.int a0, .int a1, .int a2]) (T := TX10) (dL_sense_7) calX10_sense xw_571 xw_572 xw_573 rfl rfl hP hC hst kr kt
theorem sL_sense_7 {b : Nat} {fs : List Value} {a0 : Int32} {a1 : Int32} {a2 : Int32} {r : Int32} {P1 : xH} (hst : (st.map fun v => v.category).sum ≤ 8) (hP : P.1 b = some (xO 8 fs)) (hC : xC w d mX10_sense [.ref b, .int a0, .int a1, .int a2] P (xRet (some (.int r)) P1)) (k : X w mL_sense (d + 1) Q 10 ls (.int r :: st) P1) : X w mL_sense (d + 1) Q 7 ls (.int a2 :: .int a1 :: .int a0 :: .ref b :: st) P := X_callV (M := mL_sense) (MC := mX10_sense) (As := [.int a0, .int a1, .int a2]) (T := TX10) (dL_sense_7) calX10_sense xw_571 xw_572 xw_573 rfl rfl hP hC hst (fun v P2 h => by obtain ⟨h1, rfl⟩ := h; cases h1; exact k) (fun q P2 h => by cases h.1)
theorem sL_sense_7_r {b : Nat} {fs : List Value} {a0 : Int32} {a1 : Int32} {a2 : Int32} {r : Int32} {Rp : xH → Prop} (hst : (st.map fun v => v.category).sum ≤ 8) (hP : P.1 b = some (xO 8 fs)) (hC : xC w d mX10_sense [.ref b, .int a0, .int a1, .int a2] P (xRl (some (.int r)) Rp)) (k : ∀ P1, Rp P1 → X w mL_sense (d + 1) Q 10 ls (.int r :: st) P1) : X w mL_sense (d + 1) Q 7 ls (.int a2 :: .int a1 :: .int a0 :: .ref b :: st) P := X_callV (M := mL_sense) (MC := mX10_sense) (As := [.int a0, .int a1, .int a2]) (T := TX10) (dL_sense_7) calX10_sense xw_571 xw_572 xw_573 rfl rfl hP hC hst (fun v P2 h => by obtain ⟨h1, hR⟩ := h; cases h1; exact k P2 hR) (fun q P2 h => by cases h.1)
theorem dL_sense_10 : decode cL_sense 10 = .ok (.i2l, 1) := by decide +kernel
theorem sL_sense_10 {x : Int32} (k : X w mL_sense d Q 11 ls (.long x.toInt64 :: st) P) : X w mL_sense d Q 10 ls (.int x :: st) P := X_i2l (M := mL_sense) (dL_sense_10) k
theorem dL_sense_11 : decode cL_sense 11 = .ok (.lastore, 1) := by decide +kernel
theorem sL_sense_11 {a n : Nat} {f : Nat → Int64} {i : Int32} {x : Int64} (hP : P.1 a = some (xJ n f)) (hi : vp_in i n) (k : X w mL_sense d Q 12 ls st (xs P a (xJ n (vp_updL f i.toNatClampNeg x)))) : X w mL_sense d Q 11 ls (.long x :: .int i :: .ref a :: st) P := X_last (M := mL_sense) (dL_sense_11) hP hi k
theorem dL_sense_12 : decode cL_sense 12 = .ok (.goto 7, 3) := by decide +kernel
theorem sL_sense_12 (k : X w mL_sense d Q 19 ls st P) : X w mL_sense d Q 12 ls st P := X_goto (M := mL_sense) (dL_sense_12) (by decide) k
theorem dL_sense_15 : decode cL_sense 15 = .ok (.astore 5, 2) := by decide +kernel
theorem sL_sense_15 {l0 l1 l2 l3 l4 l5 : Option Value} {x : Nat} (hn : xnl l4 = true) (k : X w mL_sense d Q 17 [l0, l1, l2, l3, l4, some (.ref x)] st P) : X w mL_sense d Q 15 [l0, l1, l2, l3, l4, l5] (.ref x :: st) P := X_astore (M := mL_sense) (dL_sense_15) (by decide) rfl (xnl_p (ls := [l0, l1, l2, l3, l4, l5]) (j := 4) rfl hn) k
theorem dL_sense_17 : decode cL_sense 17 = .ok (.iconst 1, 1) := by decide +kernel
theorem sL_sense_17 (k : X w mL_sense d Q 18 ls (.int (1 : Int32) :: st) P) : X w mL_sense d Q 17 ls st P := X_iconst (M := mL_sense) (dL_sense_17) (by decide) k
theorem dL_sense_18 : decode cL_sense 18 = .ok (.ireturn, 1) := by decide +kernel
theorem sL_sense_18 {v : Int32} (hq : Q (.returned (some (.int v))) P) : X w mL_sense d Q 18 ls [.int v] P := X_iret (M := mL_sense) (dL_sense_18) rfl hq
theorem dL_sense_19 : decode cL_sense 19 = .ok (.iconst 0, 1) := by decide +kernel
theorem sL_sense_19 (k : X w mL_sense d Q 20 ls (.int (0 : Int32) :: st) P) : X w mL_sense d Q 19 ls st P := X_iconst (M := mL_sense) (dL_sense_19) (by decide) k
theorem dL_sense_20 : decode cL_sense 20 = .ok (.ireturn, 1) := by decide +kernel
theorem sL_sense_20 {v : Int32} (hq : Q (.returned (some (.int v))) P) : X w mL_sense d Q 20 ls [.int v] P := X_iret (M := mL_sense) (dL_sense_20) rfl hq
theorem dL_arc_0 : decode cL_arc 0 = .ok (.aload 4, 2) := by decide +kernel
theorem sL_arc_0 {l0 l1 l2 l3 l5 : Option Value} {x : Nat} (k : X w mL_arc d Q 2 [l0, l1, l2, l3, some (.ref x), l5] (.ref x :: st) P) : X w mL_arc d Q 0 [l0, l1, l2, l3, some (.ref x), l5] st P := X_aload (M := mL_arc) (dL_arc_0) rfl k
theorem dL_arc_2 : decode cL_arc 2 = .ok (.iconst 0, 1) := by decide +kernel
theorem sL_arc_2 (k : X w mL_arc d Q 3 ls (.int (0 : Int32) :: st) P) : X w mL_arc d Q 2 ls st P := X_iconst (M := mL_arc) (dL_arc_2) (by decide) k
theorem dL_arc_3 : decode cL_arc 3 = .ok (.aload_n 0, 1) := by decide +kernel
theorem sL_arc_3 {l1 l2 l3 l4 l5 : Option Value} {x : Nat} (k : X w mL_arc d Q 4 [some (.ref x), l1, l2, l3, l4, l5] (.ref x :: st) P) : X w mL_arc d Q 3 [some (.ref x), l1, l2, l3, l4, l5] st P := X_aload_n (M := mL_arc) (dL_arc_3) rfl rfl k
theorem dL_arc_4 : decode cL_arc 4 = .ok (.iload_n 1, 1) := by decide +kernel
theorem sL_arc_4 {l0 l2 l3 l4 l5 : Option Value} {x : Int32} (k : X w mL_arc d Q 5 [l0, some (.int x), l2, l3, l4, l5] (.int x :: st) P) : X w mL_arc d Q 4 [l0, some (.int x), l2, l3, l4, l5] st P := X_iload_n (M := mL_arc) (dL_arc_4) rfl rfl k
theorem dL_arc_5 : decode cL_arc 5 = .ok (.iload_n 2, 1) := by decide +kernel
theorem sL_arc_5 {l0 l1 l3 l4 l5 : Option Value} {x : Int32} (k : X w mL_arc d Q 6 [l0, l1, some (.int x), l3, l4, l5] (.int x :: st) P) : X w mL_arc d Q 5 [l0, l1, some (.int x), l3, l4, l5] st P := X_iload_n (M := mL_arc) (dL_arc_5) rfl rfl k
theorem dL_arc_6 : decode cL_arc 6 = .ok (.iload_n 3, 1) := by decide +kernel
theorem sL_arc_6 {l0 l1 l2 l4 l5 : Option Value} {x : Int32} (k : X w mL_arc d Q 7 [l0, l1, l2, some (.int x), l4, l5] (.int x :: st) P) : X w mL_arc d Q 6 [l0, l1, l2, some (.int x), l4, l5] st P := X_iload_n (M := mL_arc) (dL_arc_6) rfl rfl k
theorem dL_arc_7 : decode cL_arc 7 = .ok (.invokevirtual 23, 3) := by decide +kernel
theorem sL_arc_7_g {b : Nat} {fs : List Value} {a0 : Int32} {a1 : Int32} {a2 : Int32} {Qc : Outcome → xH → Prop} (hst : (st.map fun v => v.category).sum ≤ 8) (hP : P.1 b = some (xO 8 fs)) (hC : xC w d mX10_arc [.ref b, .int a0, .int a1, .int a2] P Qc) (kr : ∀ v P1, Qc (.returned v) P1 → X w mL_arc (d + 1) Q 10 ls (v.toList ++ st) P1) (kt : ∀ q P1, Qc (.threw q) P1 → Xt w mL_arc (d + 1) Q 7 ls st P1 q) : X w mL_arc (d + 1) Q 7 ls (.int a2 :: .int a1 :: .int a0 :: .ref b :: st) P := X_callV (M := mL_arc) (MC := mX10_arc) (As := [.int a0, .int a1, .int a2]) (T := TX10) (dL_arc_7) calX10_arc xw_574 xw_575 xw_576 rfl rfl hP hC hst kr kt
theorem sL_arc_7 {b : Nat} {fs : List Value} {a0 : Int32} {a1 : Int32} {a2 : Int32} {r : Int32} {P1 : xH} (hst : (st.map fun v => v.category).sum ≤ 8) (hP : P.1 b = some (xO 8 fs)) (hC : xC w d mX10_arc [.ref b, .int a0, .int a1, .int a2] P (xRet (some (.int r)) P1)) (k : X w mL_arc (d + 1) Q 10 ls (.int r :: st) P1) : X w mL_arc (d + 1) Q 7 ls (.int a2 :: .int a1 :: .int a0 :: .ref b :: st) P := X_callV (M := mL_arc) (MC := mX10_arc) (As := [.int a0, .int a1, .int a2]) (T := TX10) (dL_arc_7) calX10_arc xw_574 xw_575 xw_576 rfl rfl hP hC hst (fun v P2 h => by obtain ⟨h1, rfl⟩ := h; cases h1; exact k) (fun q P2 h => by cases h.1)
theorem sL_arc_7_r {b : Nat} {fs : List Value} {a0 : Int32} {a1 : Int32} {a2 : Int32} {r : Int32} {Rp : xH → Prop} (hst : (st.map fun v => v.category).sum ≤ 8) (hP : P.1 b = some (xO 8 fs)) (hC : xC w d mX10_arc [.ref b, .int a0, .int a1, .int a2] P (xRl (some (.int r)) Rp)) (k : ∀ P1, Rp P1 → X w mL_arc (d + 1) Q 10 ls (.int r :: st) P1) : X w mL_arc (d + 1) Q 7 ls (.int a2 :: .int a1 :: .int a0 :: .ref b :: st) P := X_callV (M := mL_arc) (MC := mX10_arc) (As := [.int a0, .int a1, .int a2]) (T := TX10) (dL_arc_7) calX10_arc xw_574 xw_575 xw_576 rfl rfl hP hC hst (fun v P2 h => by obtain ⟨h1, hR⟩ := h; cases h1; exact k P2 hR) (fun q P2 h => by cases h.1)
theorem dL_arc_10 : decode cL_arc 10 = .ok (.i2l, 1) := by decide +kernel
theorem sL_arc_10 {x : Int32} (k : X w mL_arc d Q 11 ls (.long x.toInt64 :: st) P) : X w mL_arc d Q 10 ls (.int x :: st) P := X_i2l (M := mL_arc) (dL_arc_10) k
theorem dL_arc_11 : decode cL_arc 11 = .ok (.lastore, 1) := by decide +kernel
theorem sL_arc_11 {a n : Nat} {f : Nat → Int64} {i : Int32} {x : Int64} (hP : P.1 a = some (xJ n f)) (hi : vp_in i n) (k : X w mL_arc d Q 12 ls st (xs P a (xJ n (vp_updL f i.toNatClampNeg x)))) : X w mL_arc d Q 11 ls (.long x :: .int i :: .ref a :: st) P := X_last (M := mL_arc) (dL_arc_11) hP hi k
theorem dL_arc_12 : decode cL_arc 12 = .ok (.goto 7, 3) := by decide +kernel
theorem sL_arc_12 (k : X w mL_arc d Q 19 ls st P) : X w mL_arc d Q 12 ls st P := X_goto (M := mL_arc) (dL_arc_12) (by decide) k
theorem dL_arc_15 : decode cL_arc 15 = .ok (.astore 5, 2) := by decide +kernel
theorem sL_arc_15 {l0 l1 l2 l3 l4 l5 : Option Value} {x : Nat} (hn : xnl l4 = true) (k : X w mL_arc d Q 17 [l0, l1, l2, l3, l4, some (.ref x)] st P) : X w mL_arc d Q 15 [l0, l1, l2, l3, l4, l5] (.ref x :: st) P := X_astore (M := mL_arc) (dL_arc_15) (by decide) rfl (xnl_p (ls := [l0, l1, l2, l3, l4, l5]) (j := 4) rfl hn) k
theorem dL_arc_17 : decode cL_arc 17 = .ok (.iconst 1, 1) := by decide +kernel
theorem sL_arc_17 (k : X w mL_arc d Q 18 ls (.int (1 : Int32) :: st) P) : X w mL_arc d Q 17 ls st P := X_iconst (M := mL_arc) (dL_arc_17) (by decide) k
theorem dL_arc_18 : decode cL_arc 18 = .ok (.ireturn, 1) := by decide +kernel
theorem sL_arc_18 {v : Int32} (hq : Q (.returned (some (.int v))) P) : X w mL_arc d Q 18 ls [.int v] P := X_iret (M := mL_arc) (dL_arc_18) rfl hq
theorem dL_arc_19 : decode cL_arc 19 = .ok (.iconst 0, 1) := by decide +kernel
theorem sL_arc_19 (k : X w mL_arc d Q 20 ls (.int (0 : Int32) :: st) P) : X w mL_arc d Q 19 ls st P := X_iconst (M := mL_arc) (dL_arc_19) (by decide) k
theorem dL_arc_20 : decode cL_arc 20 = .ok (.ireturn, 1) := by decide +kernel
theorem sL_arc_20 {v : Int32} (hq : Q (.returned (some (.int v))) P) : X w mL_arc d Q 20 ls [.int v] P := X_iret (M := mL_arc) (dL_arc_20) rfl hq
theorem dL_delay_0 : decode cL_delay 0 = .ok (.aload 6, 2) := by decide +kernel
theorem sL_delay_0 {l0 l1 l2 l3 l4 l5 l7 : Option Value} {x : Nat} (k : X w mL_delay d Q 2 [l0, l1, l2, l3, l4, l5, some (.ref x), l7] (.ref x :: st) P) : X w mL_delay d Q 0 [l0, l1, l2, l3, l4, l5, some (.ref x), l7] st P := X_aload (M := mL_delay) (dL_delay_0) rfl k
theorem dL_delay_2 : decode cL_delay 2 = .ok (.iconst 0, 1) := by decide +kernel
theorem sL_delay_2 (k : X w mL_delay d Q 3 ls (.int (0 : Int32) :: st) P) : X w mL_delay d Q 2 ls st P := X_iconst (M := mL_delay) (dL_delay_2) (by decide) k
theorem dL_delay_3 : decode cL_delay 3 = .ok (.aload_n 0, 1) := by decide +kernel
theorem sL_delay_3 {l1 l2 l3 l4 l5 l6 l7 : Option Value} {x : Nat} (k : X w mL_delay d Q 4 [some (.ref x), l1, l2, l3, l4, l5, l6, l7] (.ref x :: st) P) : X w mL_delay d Q 3 [some (.ref x), l1, l2, l3, l4, l5, l6, l7] st P := X_aload_n (M := mL_delay) (dL_delay_3) rfl rfl k
theorem dL_delay_4 : decode cL_delay 4 = .ok (.iload_n 1, 1) := by decide +kernel
theorem sL_delay_4 {l0 l2 l3 l4 l5 l6 l7 : Option Value} {x : Int32} (k : X w mL_delay d Q 5 [l0, some (.int x), l2, l3, l4, l5, l6, l7] (.int x :: st) P) : X w mL_delay d Q 4 [l0, some (.int x), l2, l3, l4, l5, l6, l7] st P := X_iload_n (M := mL_delay) (dL_delay_4) rfl rfl k
theorem dL_delay_5 : decode cL_delay 5 = .ok (.iload_n 2, 1) := by decide +kernel
theorem sL_delay_5 {l0 l1 l3 l4 l5 l6 l7 : Option Value} {x : Int32} (k : X w mL_delay d Q 6 [l0, l1, some (.int x), l3, l4, l5, l6, l7] (.int x :: st) P) : X w mL_delay d Q 5 [l0, l1, some (.int x), l3, l4, l5, l6, l7] st P := X_iload_n (M := mL_delay) (dL_delay_5) rfl rfl k
theorem dL_delay_6 : decode cL_delay 6 = .ok (.iload_n 3, 1) := by decide +kernel
theorem sL_delay_6 {l0 l1 l2 l4 l5 l6 l7 : Option Value} {x : Int32} (k : X w mL_delay d Q 7 [l0, l1, l2, some (.int x), l4, l5, l6, l7] (.int x :: st) P) : X w mL_delay d Q 6 [l0, l1, l2, some (.int x), l4, l5, l6, l7] st P := X_iload_n (M := mL_delay) (dL_delay_6) rfl rfl k
theorem dL_delay_7 : decode cL_delay 7 = .ok (.iload 4, 2) := by decide +kernel
theorem sL_delay_7 {l0 l1 l2 l3 l5 l6 l7 : Option Value} {x : Int32} (k : X w mL_delay d Q 9 [l0, l1, l2, l3, some (.int x), l5, l6, l7] (.int x :: st) P) : X w mL_delay d Q 7 [l0, l1, l2, l3, some (.int x), l5, l6, l7] st P := X_iload (M := mL_delay) (dL_delay_7) rfl k
theorem dL_delay_9 : decode cL_delay 9 = .ok (.iload 5, 2) := by decide +kernel
theorem sL_delay_9 {l0 l1 l2 l3 l4 l6 l7 : Option Value} {x : Int32} (k : X w mL_delay d Q 11 [l0, l1, l2, l3, l4, some (.int x), l6, l7] (.int x :: st) P) : X w mL_delay d Q 9 [l0, l1, l2, l3, l4, some (.int x), l6, l7] st P := X_iload (M := mL_delay) (dL_delay_9) rfl k
theorem dL_delay_11 : decode cL_delay 11 = .ok (.invokevirtual 26, 3) := by decide +kernel
theorem sL_delay_11_g {b : Nat} {fs : List Value} {a0 : Int32} {a1 : Int32} {a2 : Int32} {a3 : Int32} {a4 : Int32} {Qc : Outcome → xH → Prop} (hst : (st.map fun v => v.category).sum ≤ 8) (hP : P.1 b = some (xO 8 fs)) (hC : xC w d mX10_delay [.ref b, .int a0, .int a1, .int a2, .int a3, .int a4] P Qc) (kr : ∀ v P1, Qc (.returned v) P1 → X w mL_delay (d + 1) Q 14 ls (v.toList ++ st) P1) (kt : ∀ q P1, Qc (.threw q) P1 → Xt w mL_delay (d + 1) Q 11 ls st P1 q) : X w mL_delay (d + 1) Q 11 ls (.int a4 :: .int a3 :: .int a2 :: .int a1 :: .int a0 :: .ref b :: st) P := X_callV (M := mL_delay) (MC := mX10_delay) (As := [.int a0, .int a1, .int a2, .int a3, .int a4]) (T := TX10) (dL_delay_11) calX10_delay xw_577 xw_578 xw_579 rfl rfl hP hC hst kr kt
theorem sL_delay_11 {b : Nat} {fs : List Value} {a0 : Int32} {a1 : Int32} {a2 : Int32} {a3 : Int32} {a4 : Int32} {r : Int32} {P1 : xH} (hst : (st.map fun v => v.category).sum ≤ 8) (hP : P.1 b = some (xO 8 fs)) (hC : xC w d mX10_delay [.ref b, .int a0, .int a1, .int a2, .int a3, .int a4] P (xRet (some (.int r)) P1)) (k : X w mL_delay (d + 1) Q 14 ls (.int r :: st) P1) : X w mL_delay (d + 1) Q 11 ls (.int a4 :: .int a3 :: .int a2 :: .int a1 :: .int a0 :: .ref b :: st) P := X_callV (M := mL_delay) (MC := mX10_delay) (As := [.int a0, .int a1, .int a2, .int a3, .int a4]) (T := TX10) (dL_delay_11) calX10_delay xw_577 xw_578 xw_579 rfl rfl hP hC hst (fun v P2 h => by obtain ⟨h1, rfl⟩ := h; cases h1; exact k) (fun q P2 h => by cases h.1)
theorem sL_delay_11_r {b : Nat} {fs : List Value} {a0 : Int32} {a1 : Int32} {a2 : Int32} {a3 : Int32} {a4 : Int32} {r : Int32} {Rp : xH → Prop} (hst : (st.map fun v => v.category).sum ≤ 8) (hP : P.1 b = some (xO 8 fs)) (hC : xC w d mX10_delay [.ref b, .int a0, .int a1, .int a2, .int a3, .int a4] P (xRl (some (.int r)) Rp)) (k : ∀ P1, Rp P1 → X w mL_delay (d + 1) Q 14 ls (.int r :: st) P1) : X w mL_delay (d + 1) Q 11 ls (.int a4 :: .int a3 :: .int a2 :: .int a1 :: .int a0 :: .ref b :: st) P := X_callV (M := mL_delay) (MC := mX10_delay) (As := [.int a0, .int a1, .int a2, .int a3, .int a4]) (T := TX10) (dL_delay_11) calX10_delay xw_577 xw_578 xw_579 rfl rfl hP hC hst (fun v P2 h => by obtain ⟨h1, hR⟩ := h; cases h1; exact k P2 hR) (fun q P2 h => by cases h.1)
theorem dL_delay_14 : decode cL_delay 14 = .ok (.i2l, 1) := by decide +kernel
theorem sL_delay_14 {x : Int32} (k : X w mL_delay d Q 15 ls (.long x.toInt64 :: st) P) : X w mL_delay d Q 14 ls (.int x :: st) P := X_i2l (M := mL_delay) (dL_delay_14) k
theorem dL_delay_15 : decode cL_delay 15 = .ok (.lastore, 1) := by decide +kernel
theorem sL_delay_15 {a n : Nat} {f : Nat → Int64} {i : Int32} {x : Int64} (hP : P.1 a = some (xJ n f)) (hi : vp_in i n) (k : X w mL_delay d Q 16 ls st (xs P a (xJ n (vp_updL f i.toNatClampNeg x)))) : X w mL_delay d Q 15 ls (.long x :: .int i :: .ref a :: st) P := X_last (M := mL_delay) (dL_delay_15) hP hi k
theorem dL_delay_16 : decode cL_delay 16 = .ok (.goto 11, 3) := by decide +kernel
theorem sL_delay_16 (k : X w mL_delay d Q 27 ls st P) : X w mL_delay d Q 16 ls st P := X_goto (M := mL_delay) (dL_delay_16) (by decide) k
theorem dL_delay_19 : decode cL_delay 19 = .ok (.astore 7, 2) := by decide +kernel
theorem sL_delay_19 {l0 l1 l2 l3 l4 l5 l6 l7 : Option Value} {x : Nat} (hn : xnl l6 = true) (k : X w mL_delay d Q 21 [l0, l1, l2, l3, l4, l5, l6, some (.ref x)] st P) : X w mL_delay d Q 19 [l0, l1, l2, l3, l4, l5, l6, l7] (.ref x :: st) P := X_astore (M := mL_delay) (dL_delay_19) (by decide) rfl (xnl_p (ls := [l0, l1, l2, l3, l4, l5, l6, l7]) (j := 6) rfl hn) k
theorem dL_delay_21 : decode cL_delay 21 = .ok (.iconst 1, 1) := by decide +kernel
theorem sL_delay_21 (k : X w mL_delay d Q 22 ls (.int (1 : Int32) :: st) P) : X w mL_delay d Q 21 ls st P := X_iconst (M := mL_delay) (dL_delay_21) (by decide) k
theorem dL_delay_22 : decode cL_delay 22 = .ok (.ireturn, 1) := by decide +kernel
theorem sL_delay_22 {v : Int32} (hq : Q (.returned (some (.int v))) P) : X w mL_delay d Q 22 ls [.int v] P := X_iret (M := mL_delay) (dL_delay_22) rfl hq
theorem dL_delay_23 : decode cL_delay 23 = .ok (.astore 7, 2) := by decide +kernel
theorem sL_delay_23 {l0 l1 l2 l3 l4 l5 l6 l7 : Option Value} {x : Nat} (hn : xnl l6 = true) (k : X w mL_delay d Q 25 [l0, l1, l2, l3, l4, l5, l6, some (.ref x)] st P) : X w mL_delay d Q 23 [l0, l1, l2, l3, l4, l5, l6, l7] (.ref x :: st) P := X_astore (M := mL_delay) (dL_delay_23) (by decide) rfl (xnl_p (ls := [l0, l1, l2, l3, l4, l5, l6, l7]) (j := 6) rfl hn) k
theorem dL_delay_25 : decode cL_delay 25 = .ok (.iconst 2, 1) := by decide +kernel
theorem sL_delay_25 (k : X w mL_delay d Q 26 ls (.int (2 : Int32) :: st) P) : X w mL_delay d Q 25 ls st P := X_iconst (M := mL_delay) (dL_delay_25) (by decide) k
theorem dL_delay_26 : decode cL_delay 26 = .ok (.ireturn, 1) := by decide +kernel
theorem sL_delay_26 {v : Int32} (hq : Q (.returned (some (.int v))) P) : X w mL_delay d Q 26 ls [.int v] P := X_iret (M := mL_delay) (dL_delay_26) rfl hq
theorem dL_delay_27 : decode cL_delay 27 = .ok (.iconst 0, 1) := by decide +kernel
theorem sL_delay_27 (k : X w mL_delay d Q 28 ls (.int (0 : Int32) :: st) P) : X w mL_delay d Q 27 ls st P := X_iconst (M := mL_delay) (dL_delay_27) (by decide) k
theorem dL_delay_28 : decode cL_delay 28 = .ok (.ireturn, 1) := by decide +kernel
theorem sL_delay_28 {v : Int32} (hq : Q (.returned (some (.int v))) P) : X w mL_delay d Q 28 ls [.int v] P := X_iret (M := mL_delay) (dL_delay_28) rfl hq
theorem dL_power_0 : decode cL_power 0 = .ok (.aload_n 3, 1) := by decide +kernel
theorem sL_power_0 {l0 l1 l2 l4 : Option Value} {x : Nat} (k : X w mL_power d Q 1 [l0, l1, l2, some (.ref x), l4] (.ref x :: st) P) : X w mL_power d Q 0 [l0, l1, l2, some (.ref x), l4] st P := X_aload_n (M := mL_power) (dL_power_0) rfl rfl k
theorem dL_power_1 : decode cL_power 1 = .ok (.iconst 0, 1) := by decide +kernel
theorem sL_power_1 (k : X w mL_power d Q 2 ls (.int (0 : Int32) :: st) P) : X w mL_power d Q 1 ls st P := X_iconst (M := mL_power) (dL_power_1) (by decide) k
theorem dL_power_2 : decode cL_power 2 = .ok (.aload_n 0, 1) := by decide +kernel
theorem sL_power_2 {l1 l2 l3 l4 : Option Value} {x : Nat} (k : X w mL_power d Q 3 [some (.ref x), l1, l2, l3, l4] (.ref x :: st) P) : X w mL_power d Q 2 [some (.ref x), l1, l2, l3, l4] st P := X_aload_n (M := mL_power) (dL_power_2) rfl rfl k
theorem dL_power_3 : decode cL_power 3 = .ok (.iload_n 1, 1) := by decide +kernel
theorem sL_power_3 {l0 l2 l3 l4 : Option Value} {x : Int32} (k : X w mL_power d Q 4 [l0, some (.int x), l2, l3, l4] (.int x :: st) P) : X w mL_power d Q 3 [l0, some (.int x), l2, l3, l4] st P := X_iload_n (M := mL_power) (dL_power_3) rfl rfl k
theorem dL_power_4 : decode cL_power 4 = .ok (.iload_n 2, 1) := by decide +kernel
theorem sL_power_4 {l0 l1 l3 l4 : Option Value} {x : Int32} (k : X w mL_power d Q 5 [l0, l1, some (.int x), l3, l4] (.int x :: st) P) : X w mL_power d Q 4 [l0, l1, some (.int x), l3, l4] st P := X_iload_n (M := mL_power) (dL_power_4) rfl rfl k
theorem dL_power_5 : decode cL_power 5 = .ok (.invokevirtual 32, 3) := by decide +kernel
theorem sL_power_5_g {b : Nat} {fs : List Value} {a0 : Int32} {a1 : Int32} {Qc : Outcome → xH → Prop} (hst : (st.map fun v => v.category).sum ≤ 8) (hP : P.1 b = some (xO 8 fs)) (hC : xC w d mX10_power [.ref b, .int a0, .int a1] P Qc) (kr : ∀ v P1, Qc (.returned v) P1 → X w mL_power (d + 1) Q 8 ls (v.toList ++ st) P1) (kt : ∀ q P1, Qc (.threw q) P1 → Xt w mL_power (d + 1) Q 5 ls st P1 q) : X w mL_power (d + 1) Q 5 ls (.int a1 :: .int a0 :: .ref b :: st) P := X_callV (M := mL_power) (MC := mX10_power) (As := [.int a0, .int a1]) (T := TX10) (dL_power_5) calX10_power xw_580 xw_581 xw_582 rfl rfl hP hC hst kr kt
theorem sL_power_5 {b : Nat} {fs : List Value} {a0 : Int32} {a1 : Int32} {r : Int32} {P1 : xH} (hst : (st.map fun v => v.category).sum ≤ 8) (hP : P.1 b = some (xO 8 fs)) (hC : xC w d mX10_power [.ref b, .int a0, .int a1] P (xRet (some (.int r)) P1)) (k : X w mL_power (d + 1) Q 8 ls (.int r :: st) P1) : X w mL_power (d + 1) Q 5 ls (.int a1 :: .int a0 :: .ref b :: st) P := X_callV (M := mL_power) (MC := mX10_power) (As := [.int a0, .int a1]) (T := TX10) (dL_power_5) calX10_power xw_580 xw_581 xw_582 rfl rfl hP hC hst (fun v P2 h => by obtain ⟨h1, rfl⟩ := h; cases h1; exact k) (fun q P2 h => by cases h.1)
theorem sL_power_5_r {b : Nat} {fs : List Value} {a0 : Int32} {a1 : Int32} {r : Int32} {Rp : xH → Prop} (hst : (st.map fun v => v.category).sum ≤ 8) (hP : P.1 b = some (xO 8 fs)) (hC : xC w d mX10_power [.ref b, .int a0, .int a1] P (xRl (some (.int r)) Rp)) (k : ∀ P1, Rp P1 → X w mL_power (d + 1) Q 8 ls (.int r :: st) P1) : X w mL_power (d + 1) Q 5 ls (.int a1 :: .int a0 :: .ref b :: st) P := X_callV (M := mL_power) (MC := mX10_power) (As := [.int a0, .int a1]) (T := TX10) (dL_power_5) calX10_power xw_580 xw_581 xw_582 rfl rfl hP hC hst (fun v P2 h => by obtain ⟨h1, hR⟩ := h; cases h1; exact k P2 hR) (fun q P2 h => by cases h.1)
theorem dL_power_8 : decode cL_power 8 = .ok (.i2l, 1) := by decide +kernel
theorem sL_power_8 {x : Int32} (k : X w mL_power d Q 9 ls (.long x.toInt64 :: st) P) : X w mL_power d Q 8 ls (.int x :: st) P := X_i2l (M := mL_power) (dL_power_8) k
theorem dL_power_9 : decode cL_power 9 = .ok (.lastore, 1) := by decide +kernel
theorem sL_power_9 {a n : Nat} {f : Nat → Int64} {i : Int32} {x : Int64} (hP : P.1 a = some (xJ n f)) (hi : vp_in i n) (k : X w mL_power d Q 10 ls st (xs P a (xJ n (vp_updL f i.toNatClampNeg x)))) : X w mL_power d Q 9 ls (.long x :: .int i :: .ref a :: st) P := X_last (M := mL_power) (dL_power_9) hP hi k
theorem dL_power_10 : decode cL_power 10 = .ok (.goto 7, 3) := by decide +kernel
theorem sL_power_10 (k : X w mL_power d Q 17 ls st P) : X w mL_power d Q 10 ls st P := X_goto (M := mL_power) (dL_power_10) (by decide) k
theorem dL_power_13 : decode cL_power 13 = .ok (.astore 4, 2) := by decide +kernel
theorem sL_power_13 {l0 l1 l2 l3 l4 : Option Value} {x : Nat} (hn : xnl l3 = true) (k : X w mL_power d Q 15 [l0, l1, l2, l3, some (.ref x)] st P) : X w mL_power d Q 13 [l0, l1, l2, l3, l4] (.ref x :: st) P := X_astore (M := mL_power) (dL_power_13) (by decide) rfl (xnl_p (ls := [l0, l1, l2, l3, l4]) (j := 3) rfl hn) k
theorem dL_power_15 : decode cL_power 15 = .ok (.iconst 1, 1) := by decide +kernel
theorem sL_power_15 (k : X w mL_power d Q 16 ls (.int (1 : Int32) :: st) P) : X w mL_power d Q 15 ls st P := X_iconst (M := mL_power) (dL_power_15) (by decide) k
theorem dL_power_16 : decode cL_power 16 = .ok (.ireturn, 1) := by decide +kernel
theorem sL_power_16 {v : Int32} (hq : Q (.returned (some (.int v))) P) : X w mL_power d Q 16 ls [.int v] P := X_iret (M := mL_power) (dL_power_16) rfl hq
theorem dL_power_17 : decode cL_power 17 = .ok (.iconst 0, 1) := by decide +kernel
theorem sL_power_17 (k : X w mL_power d Q 18 ls (.int (0 : Int32) :: st) P) : X w mL_power d Q 17 ls st P := X_iconst (M := mL_power) (dL_power_17) (by decide) k
theorem dL_power_18 : decode cL_power 18 = .ok (.ireturn, 1) := by decide +kernel
theorem sL_power_18 {v : Int32} (hq : Q (.returned (some (.int v))) P) : X w mL_power d Q 18 ls [.int v] P := X_iret (M := mL_power) (dL_power_18) rfl hq
theorem dL_alike_0 : decode cL_alike 0 = .ok (.aload_n 3, 1) := by decide +kernel
theorem sL_alike_0 {l0 l1 l2 l4 : Option Value} {x : Nat} (k : X w mL_alike d Q 1 [l0, l1, l2, some (.ref x), l4] (.ref x :: st) P) : X w mL_alike d Q 0 [l0, l1, l2, some (.ref x), l4] st P := X_aload_n (M := mL_alike) (dL_alike_0) rfl rfl k
theorem dL_alike_1 : decode cL_alike 1 = .ok (.iconst 0, 1) := by decide +kernel
theorem sL_alike_1 (k : X w mL_alike d Q 2 ls (.int (0 : Int32) :: st) P) : X w mL_alike d Q 1 ls st P := X_iconst (M := mL_alike) (dL_alike_1) (by decide) k
theorem dL_alike_2 : decode cL_alike 2 = .ok (.aload_n 0, 1) := by decide +kernel
theorem sL_alike_2 {l1 l2 l3 l4 : Option Value} {x : Nat} (k : X w mL_alike d Q 3 [some (.ref x), l1, l2, l3, l4] (.ref x :: st) P) : X w mL_alike d Q 2 [some (.ref x), l1, l2, l3, l4] st P := X_aload_n (M := mL_alike) (dL_alike_2) rfl rfl k
theorem dL_alike_3 : decode cL_alike 3 = .ok (.iload_n 1, 1) := by decide +kernel
theorem sL_alike_3 {l0 l2 l3 l4 : Option Value} {x : Int32} (k : X w mL_alike d Q 4 [l0, some (.int x), l2, l3, l4] (.int x :: st) P) : X w mL_alike d Q 3 [l0, some (.int x), l2, l3, l4] st P := X_iload_n (M := mL_alike) (dL_alike_3) rfl rfl k
theorem dL_alike_4 : decode cL_alike 4 = .ok (.iload_n 2, 1) := by decide +kernel
theorem sL_alike_4 {l0 l1 l3 l4 : Option Value} {x : Int32} (k : X w mL_alike d Q 5 [l0, l1, some (.int x), l3, l4] (.int x :: st) P) : X w mL_alike d Q 4 [l0, l1, some (.int x), l3, l4] st P := X_iload_n (M := mL_alike) (dL_alike_4) rfl rfl k
theorem dL_alike_5 : decode cL_alike 5 = .ok (.invokevirtual 35, 3) := by decide +kernel
theorem sL_alike_5_g {b : Nat} {fs : List Value} {a0 : Int32} {a1 : Int32} {Qc : Outcome → xH → Prop} (hst : (st.map fun v => v.category).sum ≤ 8) (hP : P.1 b = some (xO 8 fs)) (hC : xC w d mX10_alike [.ref b, .int a0, .int a1] P Qc) (kr : ∀ v P1, Qc (.returned v) P1 → X w mL_alike (d + 1) Q 8 ls (v.toList ++ st) P1) (kt : ∀ q P1, Qc (.threw q) P1 → Xt w mL_alike (d + 1) Q 5 ls st P1 q) : X w mL_alike (d + 1) Q 5 ls (.int a1 :: .int a0 :: .ref b :: st) P := X_callV (M := mL_alike) (MC := mX10_alike) (As := [.int a0, .int a1]) (T := TX10) (dL_alike_5) calX10_alike xw_583 xw_584 xw_585 rfl rfl hP hC hst kr kt
theorem sL_alike_5 {b : Nat} {fs : List Value} {a0 : Int32} {a1 : Int32} {r : Int32} {P1 : xH} (hst : (st.map fun v => v.category).sum ≤ 8) (hP : P.1 b = some (xO 8 fs)) (hC : xC w d mX10_alike [.ref b, .int a0, .int a1] P (xRet (some (.int r)) P1)) (k : X w mL_alike (d + 1) Q 8 ls (.int r :: st) P1) : X w mL_alike (d + 1) Q 5 ls (.int a1 :: .int a0 :: .ref b :: st) P := X_callV (M := mL_alike) (MC := mX10_alike) (As := [.int a0, .int a1]) (T := TX10) (dL_alike_5) calX10_alike xw_583 xw_584 xw_585 rfl rfl hP hC hst (fun v P2 h => by obtain ⟨h1, rfl⟩ := h; cases h1; exact k) (fun q P2 h => by cases h.1)
theorem sL_alike_5_r {b : Nat} {fs : List Value} {a0 : Int32} {a1 : Int32} {r : Int32} {Rp : xH → Prop} (hst : (st.map fun v => v.category).sum ≤ 8) (hP : P.1 b = some (xO 8 fs)) (hC : xC w d mX10_alike [.ref b, .int a0, .int a1] P (xRl (some (.int r)) Rp)) (k : ∀ P1, Rp P1 → X w mL_alike (d + 1) Q 8 ls (.int r :: st) P1) : X w mL_alike (d + 1) Q 5 ls (.int a1 :: .int a0 :: .ref b :: st) P := X_callV (M := mL_alike) (MC := mX10_alike) (As := [.int a0, .int a1]) (T := TX10) (dL_alike_5) calX10_alike xw_583 xw_584 xw_585 rfl rfl hP hC hst (fun v P2 h => by obtain ⟨h1, hR⟩ := h; cases h1; exact k P2 hR) (fun q P2 h => by cases h.1)
theorem dL_alike_8 : decode cL_alike 8 = .ok (.ifCond .eq 7, 3) := by decide +kernel
theorem sL_alike_8 {x : Int32} (kt : x = 0 → X w mL_alike d Q 15 ls st P) (kf : ¬ x = 0 → X w mL_alike d Q 11 ls st P) : X w mL_alike d Q 8 ls (.int x :: st) P := X_if_eq (M := mL_alike) (dL_alike_8) (by decide) kt kf
theorem dL_alike_11 : decode cL_alike 11 = .ok (.lconst 1, 1) := by decide +kernel
theorem sL_alike_11 (k : X w mL_alike d Q 12 ls (.long (1 : Int64) :: st) P) : X w mL_alike d Q 11 ls st P := X_lconst (M := mL_alike) (dL_alike_11) (by decide) k
theorem dL_alike_12 : decode cL_alike 12 = .ok (.goto 4, 3) := by decide +kernel
theorem sL_alike_12 (k : X w mL_alike d Q 16 ls st P) : X w mL_alike d Q 12 ls st P := X_goto (M := mL_alike) (dL_alike_12) (by decide) k
theorem dL_alike_15 : decode cL_alike 15 = .ok (.lconst 0, 1) := by decide +kernel
theorem sL_alike_15 (k : X w mL_alike d Q 16 ls (.long (0 : Int64) :: st) P) : X w mL_alike d Q 15 ls st P := X_lconst (M := mL_alike) (dL_alike_15) (by decide) k
theorem dL_alike_16 : decode cL_alike 16 = .ok (.lastore, 1) := by decide +kernel
theorem sL_alike_16 {a n : Nat} {f : Nat → Int64} {i : Int32} {x : Int64} (hP : P.1 a = some (xJ n f)) (hi : vp_in i n) (k : X w mL_alike d Q 17 ls st (xs P a (xJ n (vp_updL f i.toNatClampNeg x)))) : X w mL_alike d Q 16 ls (.long x :: .int i :: .ref a :: st) P := X_last (M := mL_alike) (dL_alike_16) hP hi k
theorem dL_alike_17 : decode cL_alike 17 = .ok (.goto 7, 3) := by decide +kernel
theorem sL_alike_17 (k : X w mL_alike d Q 24 ls st P) : X w mL_alike d Q 17 ls st P := X_goto (M := mL_alike) (dL_alike_17) (by decide) k
theorem dL_alike_20 : decode cL_alike 20 = .ok (.astore 4, 2) := by decide +kernel
theorem sL_alike_20 {l0 l1 l2 l3 l4 : Option Value} {x : Nat} (hn : xnl l3 = true) (k : X w mL_alike d Q 22 [l0, l1, l2, l3, some (.ref x)] st P) : X w mL_alike d Q 20 [l0, l1, l2, l3, l4] (.ref x :: st) P := X_astore (M := mL_alike) (dL_alike_20) (by decide) rfl (xnl_p (ls := [l0, l1, l2, l3, l4]) (j := 3) rfl hn) k
theorem dL_alike_22 : decode cL_alike 22 = .ok (.iconst 1, 1) := by decide +kernel
theorem sL_alike_22 (k : X w mL_alike d Q 23 ls (.int (1 : Int32) :: st) P) : X w mL_alike d Q 22 ls st P := X_iconst (M := mL_alike) (dL_alike_22) (by decide) k
theorem dL_alike_23 : decode cL_alike 23 = .ok (.ireturn, 1) := by decide +kernel
theorem sL_alike_23 {v : Int32} (hq : Q (.returned (some (.int v))) P) : X w mL_alike d Q 23 ls [.int v] P := X_iret (M := mL_alike) (dL_alike_23) rfl hq
theorem dL_alike_24 : decode cL_alike 24 = .ok (.iconst 0, 1) := by decide +kernel
theorem sL_alike_24 (k : X w mL_alike d Q 25 ls (.int (0 : Int32) :: st) P) : X w mL_alike d Q 24 ls st P := X_iconst (M := mL_alike) (dL_alike_24) (by decide) k
theorem dL_alike_25 : decode cL_alike 25 = .ok (.ireturn, 1) := by decide +kernel
theorem sL_alike_25 {v : Int32} (hq : Q (.returned (some (.int v))) P) : X w mL_alike d Q 25 ls [.int v] P := X_iret (M := mL_alike) (dL_alike_25) rfl hq
theorem dL_order_0 : decode cL_order 0 = .ok (.aload 4, 2) := by decide +kernel
theorem sL_order_0 {l0 l1 l2 l3 l5 : Option Value} {x : Nat} (k : X w mL_order d Q 2 [l0, l1, l2, l3, some (.ref x), l5] (.ref x :: st) P) : X w mL_order d Q 0 [l0, l1, l2, l3, some (.ref x), l5] st P := X_aload (M := mL_order) (dL_order_0) rfl k
theorem dL_order_2 : decode cL_order 2 = .ok (.iconst 0, 1) := by decide +kernel
theorem sL_order_2 (k : X w mL_order d Q 3 ls (.int (0 : Int32) :: st) P) : X w mL_order d Q 2 ls st P := X_iconst (M := mL_order) (dL_order_2) (by decide) k
theorem dL_order_3 : decode cL_order 3 = .ok (.aload_n 0, 1) := by decide +kernel
theorem sL_order_3 {l1 l2 l3 l4 l5 : Option Value} {x : Nat} (k : X w mL_order d Q 4 [some (.ref x), l1, l2, l3, l4, l5] (.ref x :: st) P) : X w mL_order d Q 3 [some (.ref x), l1, l2, l3, l4, l5] st P := X_aload_n (M := mL_order) (dL_order_3) rfl rfl k
theorem dL_order_4 : decode cL_order 4 = .ok (.iload_n 1, 1) := by decide +kernel
theorem sL_order_4 {l0 l2 l3 l4 l5 : Option Value} {x : Int32} (k : X w mL_order d Q 5 [l0, some (.int x), l2, l3, l4, l5] (.int x :: st) P) : X w mL_order d Q 4 [l0, some (.int x), l2, l3, l4, l5] st P := X_iload_n (M := mL_order) (dL_order_4) rfl rfl k
theorem dL_order_5 : decode cL_order 5 = .ok (.iload_n 2, 1) := by decide +kernel
theorem sL_order_5 {l0 l1 l3 l4 l5 : Option Value} {x : Int32} (k : X w mL_order d Q 6 [l0, l1, some (.int x), l3, l4, l5] (.int x :: st) P) : X w mL_order d Q 5 [l0, l1, some (.int x), l3, l4, l5] st P := X_iload_n (M := mL_order) (dL_order_5) rfl rfl k
theorem dL_order_6 : decode cL_order 6 = .ok (.iload_n 3, 1) := by decide +kernel
theorem sL_order_6 {l0 l1 l2 l4 l5 : Option Value} {x : Int32} (k : X w mL_order d Q 7 [l0, l1, l2, some (.int x), l4, l5] (.int x :: st) P) : X w mL_order d Q 6 [l0, l1, l2, some (.int x), l4, l5] st P := X_iload_n (M := mL_order) (dL_order_6) rfl rfl k
theorem dL_order_7 : decode cL_order 7 = .ok (.invokevirtual 39, 3) := by decide +kernel
theorem sL_order_7_g {b : Nat} {fs : List Value} {a0 : Int32} {a1 : Int32} {a2 : Int32} {Qc : Outcome → xH → Prop} (hst : (st.map fun v => v.category).sum ≤ 8) (hP : P.1 b = some (xO 8 fs)) (hC : xC w d mX10_order [.ref b, .int a0, .int a1, .int a2] P Qc) (kr : ∀ v P1, Qc (.returned v) P1 → X w mL_order (d + 1) Q 10 ls (v.toList ++ st) P1) (kt : ∀ q P1, Qc (.threw q) P1 → Xt w mL_order (d + 1) Q 7 ls st P1 q) : X w mL_order (d + 1) Q 7 ls (.int a2 :: .int a1 :: .int a0 :: .ref b :: st) P := X_callV (M := mL_order) (MC := mX10_order) (As := [.int a0, .int a1, .int a2]) (T := TX10) (dL_order_7) calX10_order xw_586 xw_587 xw_588 rfl rfl hP hC hst kr kt
theorem sL_order_7 {b : Nat} {fs : List Value} {a0 : Int32} {a1 : Int32} {a2 : Int32} {r : Int32} {P1 : xH} (hst : (st.map fun v => v.category).sum ≤ 8) (hP : P.1 b = some (xO 8 fs)) (hC : xC w d mX10_order [.ref b, .int a0, .int a1, .int a2] P (xRet (some (.int r)) P1)) (k : X w mL_order (d + 1) Q 10 ls (.int r :: st) P1) : X w mL_order (d + 1) Q 7 ls (.int a2 :: .int a1 :: .int a0 :: .ref b :: st) P := X_callV (M := mL_order) (MC := mX10_order) (As := [.int a0, .int a1, .int a2]) (T := TX10) (dL_order_7) calX10_order xw_586 xw_587 xw_588 rfl rfl hP hC hst (fun v P2 h => by obtain ⟨h1, rfl⟩ := h; cases h1; exact k) (fun q P2 h => by cases h.1)
theorem sL_order_7_r {b : Nat} {fs : List Value} {a0 : Int32} {a1 : Int32} {a2 : Int32} {r : Int32} {Rp : xH → Prop} (hst : (st.map fun v => v.category).sum ≤ 8) (hP : P.1 b = some (xO 8 fs)) (hC : xC w d mX10_order [.ref b, .int a0, .int a1, .int a2] P (xRl (some (.int r)) Rp)) (k : ∀ P1, Rp P1 → X w mL_order (d + 1) Q 10 ls (.int r :: st) P1) : X w mL_order (d + 1) Q 7 ls (.int a2 :: .int a1 :: .int a0 :: .ref b :: st) P := X_callV (M := mL_order) (MC := mX10_order) (As := [.int a0, .int a1, .int a2]) (T := TX10) (dL_order_7) calX10_order xw_586 xw_587 xw_588 rfl rfl hP hC hst (fun v P2 h => by obtain ⟨h1, hR⟩ := h; cases h1; exact k P2 hR) (fun q P2 h => by cases h.1)
theorem dL_order_10 : decode cL_order 10 = .ok (.i2l, 1) := by decide +kernel
theorem sL_order_10 {x : Int32} (k : X w mL_order d Q 11 ls (.long x.toInt64 :: st) P) : X w mL_order d Q 10 ls (.int x :: st) P := X_i2l (M := mL_order) (dL_order_10) k
theorem dL_order_11 : decode cL_order 11 = .ok (.lastore, 1) := by decide +kernel
theorem sL_order_11 {a n : Nat} {f : Nat → Int64} {i : Int32} {x : Int64} (hP : P.1 a = some (xJ n f)) (hi : vp_in i n) (k : X w mL_order d Q 12 ls st (xs P a (xJ n (vp_updL f i.toNatClampNeg x)))) : X w mL_order d Q 11 ls (.long x :: .int i :: .ref a :: st) P := X_last (M := mL_order) (dL_order_11) hP hi k
theorem dL_order_12 : decode cL_order 12 = .ok (.goto 7, 3) := by decide +kernel
theorem sL_order_12 (k : X w mL_order d Q 19 ls st P) : X w mL_order d Q 12 ls st P := X_goto (M := mL_order) (dL_order_12) (by decide) k
theorem dL_order_15 : decode cL_order 15 = .ok (.astore 5, 2) := by decide +kernel
theorem sL_order_15 {l0 l1 l2 l3 l4 l5 : Option Value} {x : Nat} (hn : xnl l4 = true) (k : X w mL_order d Q 17 [l0, l1, l2, l3, l4, some (.ref x)] st P) : X w mL_order d Q 15 [l0, l1, l2, l3, l4, l5] (.ref x :: st) P := X_astore (M := mL_order) (dL_order_15) (by decide) rfl (xnl_p (ls := [l0, l1, l2, l3, l4, l5]) (j := 4) rfl hn) k
theorem dL_order_17 : decode cL_order 17 = .ok (.iconst 1, 1) := by decide +kernel
theorem sL_order_17 (k : X w mL_order d Q 18 ls (.int (1 : Int32) :: st) P) : X w mL_order d Q 17 ls st P := X_iconst (M := mL_order) (dL_order_17) (by decide) k
theorem dL_order_18 : decode cL_order 18 = .ok (.ireturn, 1) := by decide +kernel
theorem sL_order_18 {v : Int32} (hq : Q (.returned (some (.int v))) P) : X w mL_order d Q 18 ls [.int v] P := X_iret (M := mL_order) (dL_order_18) rfl hq
theorem dL_order_19 : decode cL_order 19 = .ok (.iconst 0, 1) := by decide +kernel
theorem sL_order_19 (k : X w mL_order d Q 20 ls (.int (0 : Int32) :: st) P) : X w mL_order d Q 19 ls st P := X_iconst (M := mL_order) (dL_order_19) (by decide) k
theorem dL_order_20 : decode cL_order 20 = .ok (.ireturn, 1) := by decide +kernel
theorem sL_order_20 {v : Int32} (hq : Q (.returned (some (.int v))) P) : X w mL_order d Q 20 ls [.int v] P := X_iret (M := mL_order) (dL_order_20) rfl hq
theorem dL_family_0 : decode cL_family 0 = .ok (.aload_n 3, 1) := by decide +kernel
theorem sL_family_0 {l0 l1 l2 l4 : Option Value} {x : Nat} (k : X w mL_family d Q 1 [l0, l1, l2, some (.ref x), l4] (.ref x :: st) P) : X w mL_family d Q 0 [l0, l1, l2, some (.ref x), l4] st P := X_aload_n (M := mL_family) (dL_family_0) rfl rfl k
theorem dL_family_1 : decode cL_family 1 = .ok (.iconst 0, 1) := by decide +kernel
theorem sL_family_1 (k : X w mL_family d Q 2 ls (.int (0 : Int32) :: st) P) : X w mL_family d Q 1 ls st P := X_iconst (M := mL_family) (dL_family_1) (by decide) k
theorem dL_family_2 : decode cL_family 2 = .ok (.aload_n 0, 1) := by decide +kernel
theorem sL_family_2 {l1 l2 l3 l4 : Option Value} {x : Nat} (k : X w mL_family d Q 3 [some (.ref x), l1, l2, l3, l4] (.ref x :: st) P) : X w mL_family d Q 2 [some (.ref x), l1, l2, l3, l4] st P := X_aload_n (M := mL_family) (dL_family_2) rfl rfl k
theorem dL_family_3 : decode cL_family 3 = .ok (.iload_n 1, 1) := by decide +kernel
theorem sL_family_3 {l0 l2 l3 l4 : Option Value} {x : Int32} (k : X w mL_family d Q 4 [l0, some (.int x), l2, l3, l4] (.int x :: st) P) : X w mL_family d Q 3 [l0, some (.int x), l2, l3, l4] st P := X_iload_n (M := mL_family) (dL_family_3) rfl rfl k
theorem dL_family_4 : decode cL_family 4 = .ok (.iload_n 2, 1) := by decide +kernel
theorem sL_family_4 {l0 l1 l3 l4 : Option Value} {x : Int32} (k : X w mL_family d Q 5 [l0, l1, some (.int x), l3, l4] (.int x :: st) P) : X w mL_family d Q 4 [l0, l1, some (.int x), l3, l4] st P := X_iload_n (M := mL_family) (dL_family_4) rfl rfl k
theorem dL_family_5 : decode cL_family 5 = .ok (.invokevirtual 42, 3) := by decide +kernel
theorem sL_family_5_g {b : Nat} {fs : List Value} {a0 : Int32} {a1 : Int32} {Qc : Outcome → xH → Prop} (hst : (st.map fun v => v.category).sum ≤ 8) (hP : P.1 b = some (xO 8 fs)) (hC : xC w d mX10_family [.ref b, .int a0, .int a1] P Qc) (kr : ∀ v P1, Qc (.returned v) P1 → X w mL_family (d + 1) Q 8 ls (v.toList ++ st) P1) (kt : ∀ q P1, Qc (.threw q) P1 → Xt w mL_family (d + 1) Q 5 ls st P1 q) : X w mL_family (d + 1) Q 5 ls (.int a1 :: .int a0 :: .ref b :: st) P := X_callV (M := mL_family) (MC := mX10_family) (As := [.int a0, .int a1]) (T := TX10) (dL_family_5) calX10_family xw_589 xw_590 xw_591 rfl rfl hP hC hst kr kt
theorem sL_family_5 {b : Nat} {fs : List Value} {a0 : Int32} {a1 : Int32} {r : Int32} {P1 : xH} (hst : (st.map fun v => v.category).sum ≤ 8) (hP : P.1 b = some (xO 8 fs)) (hC : xC w d mX10_family [.ref b, .int a0, .int a1] P (xRet (some (.int r)) P1)) (k : X w mL_family (d + 1) Q 8 ls (.int r :: st) P1) : X w mL_family (d + 1) Q 5 ls (.int a1 :: .int a0 :: .ref b :: st) P := X_callV (M := mL_family) (MC := mX10_family) (As := [.int a0, .int a1]) (T := TX10) (dL_family_5) calX10_family xw_589 xw_590 xw_591 rfl rfl hP hC hst (fun v P2 h => by obtain ⟨h1, rfl⟩ := h; cases h1; exact k) (fun q P2 h => by cases h.1)
theorem sL_family_5_r {b : Nat} {fs : List Value} {a0 : Int32} {a1 : Int32} {r : Int32} {Rp : xH → Prop} (hst : (st.map fun v => v.category).sum ≤ 8) (hP : P.1 b = some (xO 8 fs)) (hC : xC w d mX10_family [.ref b, .int a0, .int a1] P (xRl (some (.int r)) Rp)) (k : ∀ P1, Rp P1 → X w mL_family (d + 1) Q 8 ls (.int r :: st) P1) : X w mL_family (d + 1) Q 5 ls (.int a1 :: .int a0 :: .ref b :: st) P := X_callV (M := mL_family) (MC := mX10_family) (As := [.int a0, .int a1]) (T := TX10) (dL_family_5) calX10_family xw_589 xw_590 xw_591 rfl rfl hP hC hst (fun v P2 h => by obtain ⟨h1, hR⟩ := h; cases h1; exact k P2 hR) (fun q P2 h => by cases h.1)
theorem dL_family_8 : decode cL_family 8 = .ok (.i2l, 1) := by decide +kernel
theorem sL_family_8 {x : Int32} (k : X w mL_family d Q 9 ls (.long x.toInt64 :: st) P) : X w mL_family d Q 8 ls (.int x :: st) P := X_i2l (M := mL_family) (dL_family_8) k
theorem dL_family_9 : decode cL_family 9 = .ok (.lastore, 1) := by decide +kernel
theorem sL_family_9 {a n : Nat} {f : Nat → Int64} {i : Int32} {x : Int64} (hP : P.1 a = some (xJ n f)) (hi : vp_in i n) (k : X w mL_family d Q 10 ls st (xs P a (xJ n (vp_updL f i.toNatClampNeg x)))) : X w mL_family d Q 9 ls (.long x :: .int i :: .ref a :: st) P := X_last (M := mL_family) (dL_family_9) hP hi k
theorem dL_family_10 : decode cL_family 10 = .ok (.goto 7, 3) := by decide +kernel
theorem sL_family_10 (k : X w mL_family d Q 17 ls st P) : X w mL_family d Q 10 ls st P := X_goto (M := mL_family) (dL_family_10) (by decide) k
theorem dL_family_13 : decode cL_family 13 = .ok (.astore 4, 2) := by decide +kernel
theorem sL_family_13 {l0 l1 l2 l3 l4 : Option Value} {x : Nat} (hn : xnl l3 = true) (k : X w mL_family d Q 15 [l0, l1, l2, l3, some (.ref x)] st P) : X w mL_family d Q 13 [l0, l1, l2, l3, l4] (.ref x :: st) P := X_astore (M := mL_family) (dL_family_13) (by decide) rfl (xnl_p (ls := [l0, l1, l2, l3, l4]) (j := 3) rfl hn) k
theorem dL_family_15 : decode cL_family 15 = .ok (.iconst 1, 1) := by decide +kernel
theorem sL_family_15 (k : X w mL_family d Q 16 ls (.int (1 : Int32) :: st) P) : X w mL_family d Q 15 ls st P := X_iconst (M := mL_family) (dL_family_15) (by decide) k
theorem dL_family_16 : decode cL_family 16 = .ok (.ireturn, 1) := by decide +kernel
theorem sL_family_16 {v : Int32} (hq : Q (.returned (some (.int v))) P) : X w mL_family d Q 16 ls [.int v] P := X_iret (M := mL_family) (dL_family_16) rfl hq
theorem dL_family_17 : decode cL_family 17 = .ok (.iconst 0, 1) := by decide +kernel
theorem sL_family_17 (k : X w mL_family d Q 18 ls (.int (0 : Int32) :: st) P) : X w mL_family d Q 17 ls st P := X_iconst (M := mL_family) (dL_family_17) (by decide) k
theorem dL_family_18 : decode cL_family 18 = .ok (.ireturn, 1) := by decide +kernel
theorem sL_family_18 {v : Int32} (hq : Q (.returned (some (.int v))) P) : X w mL_family d Q 18 ls [.int v] P := X_iret (M := mL_family) (dL_family_18) rfl hq
theorem dL_best_0 : decode cL_best 0 = .ok (.aload_n 3, 1) := by decide +kernel
theorem sL_best_0 {l0 l1 l2 l4 : Option Value} {x : Nat} (k : X w mL_best d Q 1 [l0, l1, l2, some (.ref x), l4] (.ref x :: st) P) : X w mL_best d Q 0 [l0, l1, l2, some (.ref x), l4] st P := X_aload_n (M := mL_best) (dL_best_0) rfl rfl k
theorem dL_best_1 : decode cL_best 1 = .ok (.iconst 0, 1) := by decide +kernel
theorem sL_best_1 (k : X w mL_best d Q 2 ls (.int (0 : Int32) :: st) P) : X w mL_best d Q 1 ls st P := X_iconst (M := mL_best) (dL_best_1) (by decide) k
theorem dL_best_2 : decode cL_best 2 = .ok (.aload_n 0, 1) := by decide +kernel
theorem sL_best_2 {l1 l2 l3 l4 : Option Value} {x : Nat} (k : X w mL_best d Q 3 [some (.ref x), l1, l2, l3, l4] (.ref x :: st) P) : X w mL_best d Q 2 [some (.ref x), l1, l2, l3, l4] st P := X_aload_n (M := mL_best) (dL_best_2) rfl rfl k
theorem dL_best_3 : decode cL_best 3 = .ok (.iload_n 1, 1) := by decide +kernel
theorem sL_best_3 {l0 l2 l3 l4 : Option Value} {x : Int32} (k : X w mL_best d Q 4 [l0, some (.int x), l2, l3, l4] (.int x :: st) P) : X w mL_best d Q 3 [l0, some (.int x), l2, l3, l4] st P := X_iload_n (M := mL_best) (dL_best_3) rfl rfl k
theorem dL_best_4 : decode cL_best 4 = .ok (.iload_n 2, 1) := by decide +kernel
theorem sL_best_4 {l0 l1 l3 l4 : Option Value} {x : Int32} (k : X w mL_best d Q 5 [l0, l1, some (.int x), l3, l4] (.int x :: st) P) : X w mL_best d Q 4 [l0, l1, some (.int x), l3, l4] st P := X_iload_n (M := mL_best) (dL_best_4) rfl rfl k
theorem dL_best_5 : decode cL_best 5 = .ok (.invokevirtual 45, 3) := by decide +kernel
theorem sL_best_5_g {b : Nat} {fs : List Value} {a0 : Int32} {a1 : Int32} {Qc : Outcome → xH → Prop} (hst : (st.map fun v => v.category).sum ≤ 8) (hP : P.1 b = some (xO 8 fs)) (hC : xC w d mX10_best [.ref b, .int a0, .int a1] P Qc) (kr : ∀ v P1, Qc (.returned v) P1 → X w mL_best (d + 1) Q 8 ls (v.toList ++ st) P1) (kt : ∀ q P1, Qc (.threw q) P1 → Xt w mL_best (d + 1) Q 5 ls st P1 q) : X w mL_best (d + 1) Q 5 ls (.int a1 :: .int a0 :: .ref b :: st) P := X_callV (M := mL_best) (MC := mX10_best) (As := [.int a0, .int a1]) (T := TX10) (dL_best_5) calX10_best xw_592 xw_593 xw_594 rfl rfl hP hC hst kr kt
theorem sL_best_5 {b : Nat} {fs : List Value} {a0 : Int32} {a1 : Int32} {r : Int32} {P1 : xH} (hst : (st.map fun v => v.category).sum ≤ 8) (hP : P.1 b = some (xO 8 fs)) (hC : xC w d mX10_best [.ref b, .int a0, .int a1] P (xRet (some (.int r)) P1)) (k : X w mL_best (d + 1) Q 8 ls (.int r :: st) P1) : X w mL_best (d + 1) Q 5 ls (.int a1 :: .int a0 :: .ref b :: st) P := X_callV (M := mL_best) (MC := mX10_best) (As := [.int a0, .int a1]) (T := TX10) (dL_best_5) calX10_best xw_592 xw_593 xw_594 rfl rfl hP hC hst (fun v P2 h => by obtain ⟨h1, rfl⟩ := h; cases h1; exact k) (fun q P2 h => by cases h.1)
theorem sL_best_5_r {b : Nat} {fs : List Value} {a0 : Int32} {a1 : Int32} {r : Int32} {Rp : xH → Prop} (hst : (st.map fun v => v.category).sum ≤ 8) (hP : P.1 b = some (xO 8 fs)) (hC : xC w d mX10_best [.ref b, .int a0, .int a1] P (xRl (some (.int r)) Rp)) (k : ∀ P1, Rp P1 → X w mL_best (d + 1) Q 8 ls (.int r :: st) P1) : X w mL_best (d + 1) Q 5 ls (.int a1 :: .int a0 :: .ref b :: st) P := X_callV (M := mL_best) (MC := mX10_best) (As := [.int a0, .int a1]) (T := TX10) (dL_best_5) calX10_best xw_592 xw_593 xw_594 rfl rfl hP hC hst (fun v P2 h => by obtain ⟨h1, hR⟩ := h; cases h1; exact k P2 hR) (fun q P2 h => by cases h.1)
theorem dL_best_8 : decode cL_best 8 = .ok (.i2l, 1) := by decide +kernel
theorem sL_best_8 {x : Int32} (k : X w mL_best d Q 9 ls (.long x.toInt64 :: st) P) : X w mL_best d Q 8 ls (.int x :: st) P := X_i2l (M := mL_best) (dL_best_8) k
theorem dL_best_9 : decode cL_best 9 = .ok (.lastore, 1) := by decide +kernel
theorem sL_best_9 {a n : Nat} {f : Nat → Int64} {i : Int32} {x : Int64} (hP : P.1 a = some (xJ n f)) (hi : vp_in i n) (k : X w mL_best d Q 10 ls st (xs P a (xJ n (vp_updL f i.toNatClampNeg x)))) : X w mL_best d Q 9 ls (.long x :: .int i :: .ref a :: st) P := X_last (M := mL_best) (dL_best_9) hP hi k
theorem dL_best_10 : decode cL_best 10 = .ok (.goto 11, 3) := by decide +kernel
theorem sL_best_10 (k : X w mL_best d Q 21 ls st P) : X w mL_best d Q 10 ls st P := X_goto (M := mL_best) (dL_best_10) (by decide) k
theorem dL_best_13 : decode cL_best 13 = .ok (.astore 4, 2) := by decide +kernel
theorem sL_best_13 {l0 l1 l2 l3 l4 : Option Value} {x : Nat} (hn : xnl l3 = true) (k : X w mL_best d Q 15 [l0, l1, l2, l3, some (.ref x)] st P) : X w mL_best d Q 13 [l0, l1, l2, l3, l4] (.ref x :: st) P := X_astore (M := mL_best) (dL_best_13) (by decide) rfl (xnl_p (ls := [l0, l1, l2, l3, l4]) (j := 3) rfl hn) k
theorem dL_best_15 : decode cL_best 15 = .ok (.iconst 1, 1) := by decide +kernel
theorem sL_best_15 (k : X w mL_best d Q 16 ls (.int (1 : Int32) :: st) P) : X w mL_best d Q 15 ls st P := X_iconst (M := mL_best) (dL_best_15) (by decide) k
theorem dL_best_16 : decode cL_best 16 = .ok (.ireturn, 1) := by decide +kernel
theorem sL_best_16 {v : Int32} (hq : Q (.returned (some (.int v))) P) : X w mL_best d Q 16 ls [.int v] P := X_iret (M := mL_best) (dL_best_16) rfl hq
theorem dL_best_17 : decode cL_best 17 = .ok (.astore 4, 2) := by decide +kernel
theorem sL_best_17 {l0 l1 l2 l3 l4 : Option Value} {x : Nat} (hn : xnl l3 = true) (k : X w mL_best d Q 19 [l0, l1, l2, l3, some (.ref x)] st P) : X w mL_best d Q 17 [l0, l1, l2, l3, l4] (.ref x :: st) P := X_astore (M := mL_best) (dL_best_17) (by decide) rfl (xnl_p (ls := [l0, l1, l2, l3, l4]) (j := 3) rfl hn) k
theorem dL_best_19 : decode cL_best 19 = .ok (.iconst 2, 1) := by decide +kernel
theorem sL_best_19 (k : X w mL_best d Q 20 ls (.int (2 : Int32) :: st) P) : X w mL_best d Q 19 ls st P := X_iconst (M := mL_best) (dL_best_19) (by decide) k
theorem dL_best_20 : decode cL_best 20 = .ok (.ireturn, 1) := by decide +kernel
theorem sL_best_20 {v : Int32} (hq : Q (.returned (some (.int v))) P) : X w mL_best d Q 20 ls [.int v] P := X_iret (M := mL_best) (dL_best_20) rfl hq
theorem dL_best_21 : decode cL_best 21 = .ok (.iconst 0, 1) := by decide +kernel
theorem sL_best_21 (k : X w mL_best d Q 22 ls (.int (0 : Int32) :: st) P) : X w mL_best d Q 21 ls st P := X_iconst (M := mL_best) (dL_best_21) (by decide) k
theorem dL_best_22 : decode cL_best 22 = .ok (.ireturn, 1) := by decide +kernel
theorem sL_best_22 {v : Int32} (hq : Q (.returned (some (.int v))) P) : X w mL_best d Q 22 ls [.int v] P := X_iret (M := mL_best) (dL_best_22) rfl hq
theorem dL_letter_0 : decode cL_letter 0 = .ok (.aload 4, 2) := by decide +kernel
theorem sL_letter_0 {l0 l1 l2 l3 l5 : Option Value} {x : Nat} (k : X w mL_letter d Q 2 [l0, l1, l2, l3, some (.ref x), l5] (.ref x :: st) P) : X w mL_letter d Q 0 [l0, l1, l2, l3, some (.ref x), l5] st P := X_aload (M := mL_letter) (dL_letter_0) rfl k
theorem dL_letter_2 : decode cL_letter 2 = .ok (.iconst 0, 1) := by decide +kernel
theorem sL_letter_2 (k : X w mL_letter d Q 3 ls (.int (0 : Int32) :: st) P) : X w mL_letter d Q 2 ls st P := X_iconst (M := mL_letter) (dL_letter_2) (by decide) k
theorem dL_letter_3 : decode cL_letter 3 = .ok (.aload_n 0, 1) := by decide +kernel
theorem sL_letter_3 {l1 l2 l3 l4 l5 : Option Value} {x : Nat} (k : X w mL_letter d Q 4 [some (.ref x), l1, l2, l3, l4, l5] (.ref x :: st) P) : X w mL_letter d Q 3 [some (.ref x), l1, l2, l3, l4, l5] st P := X_aload_n (M := mL_letter) (dL_letter_3) rfl rfl k
theorem dL_letter_4 : decode cL_letter 4 = .ok (.iload_n 1, 1) := by decide +kernel
theorem sL_letter_4 {l0 l2 l3 l4 l5 : Option Value} {x : Int32} (k : X w mL_letter d Q 5 [l0, some (.int x), l2, l3, l4, l5] (.int x :: st) P) : X w mL_letter d Q 4 [l0, some (.int x), l2, l3, l4, l5] st P := X_iload_n (M := mL_letter) (dL_letter_4) rfl rfl k
theorem dL_letter_5 : decode cL_letter 5 = .ok (.iload_n 2, 1) := by decide +kernel
theorem sL_letter_5 {l0 l1 l3 l4 l5 : Option Value} {x : Int32} (k : X w mL_letter d Q 6 [l0, l1, some (.int x), l3, l4, l5] (.int x :: st) P) : X w mL_letter d Q 5 [l0, l1, some (.int x), l3, l4, l5] st P := X_iload_n (M := mL_letter) (dL_letter_5) rfl rfl k
theorem dL_letter_6 : decode cL_letter 6 = .ok (.iload_n 3, 1) := by decide +kernel
theorem sL_letter_6 {l0 l1 l2 l4 l5 : Option Value} {x : Int32} (k : X w mL_letter d Q 7 [l0, l1, l2, some (.int x), l4, l5] (.int x :: st) P) : X w mL_letter d Q 6 [l0, l1, l2, some (.int x), l4, l5] st P := X_iload_n (M := mL_letter) (dL_letter_6) rfl rfl k
theorem dL_letter_7 : decode cL_letter 7 = .ok (.invokevirtual 48, 3) := by decide +kernel
theorem sL_letter_7_g {b : Nat} {fs : List Value} {a0 : Int32} {a1 : Int32} {a2 : Int32} {Qc : Outcome → xH → Prop} (hst : (st.map fun v => v.category).sum ≤ 8) (hP : P.1 b = some (xO 8 fs)) (hC : xC w d mX10_letter [.ref b, .int a0, .int a1, .int a2] P Qc) (kr : ∀ v P1, Qc (.returned v) P1 → X w mL_letter (d + 1) Q 10 ls (v.toList ++ st) P1) (kt : ∀ q P1, Qc (.threw q) P1 → Xt w mL_letter (d + 1) Q 7 ls st P1 q) : X w mL_letter (d + 1) Q 7 ls (.int a2 :: .int a1 :: .int a0 :: .ref b :: st) P := X_callV (M := mL_letter) (MC := mX10_letter) (As := [.int a0, .int a1, .int a2]) (T := TX10) (dL_letter_7) calX10_letter xw_595 xw_596 xw_597 rfl rfl hP hC hst kr kt
theorem sL_letter_7 {b : Nat} {fs : List Value} {a0 : Int32} {a1 : Int32} {a2 : Int32} {r : Int32} {P1 : xH} (hst : (st.map fun v => v.category).sum ≤ 8) (hP : P.1 b = some (xO 8 fs)) (hC : xC w d mX10_letter [.ref b, .int a0, .int a1, .int a2] P (xRet (some (.int r)) P1)) (k : X w mL_letter (d + 1) Q 10 ls (.int r :: st) P1) : X w mL_letter (d + 1) Q 7 ls (.int a2 :: .int a1 :: .int a0 :: .ref b :: st) P := X_callV (M := mL_letter) (MC := mX10_letter) (As := [.int a0, .int a1, .int a2]) (T := TX10) (dL_letter_7) calX10_letter xw_595 xw_596 xw_597 rfl rfl hP hC hst (fun v P2 h => by obtain ⟨h1, rfl⟩ := h; cases h1; exact k) (fun q P2 h => by cases h.1)
theorem sL_letter_7_r {b : Nat} {fs : List Value} {a0 : Int32} {a1 : Int32} {a2 : Int32} {r : Int32} {Rp : xH → Prop} (hst : (st.map fun v => v.category).sum ≤ 8) (hP : P.1 b = some (xO 8 fs)) (hC : xC w d mX10_letter [.ref b, .int a0, .int a1, .int a2] P (xRl (some (.int r)) Rp)) (k : ∀ P1, Rp P1 → X w mL_letter (d + 1) Q 10 ls (.int r :: st) P1) : X w mL_letter (d + 1) Q 7 ls (.int a2 :: .int a1 :: .int a0 :: .ref b :: st) P := X_callV (M := mL_letter) (MC := mX10_letter) (As := [.int a0, .int a1, .int a2]) (T := TX10) (dL_letter_7) calX10_letter xw_595 xw_596 xw_597 rfl rfl hP hC hst (fun v P2 h => by obtain ⟨h1, hR⟩ := h; cases h1; exact k P2 hR) (fun q P2 h => by cases h.1)
theorem dL_letter_10 : decode cL_letter 10 = .ok (.i2l, 1) := by decide +kernel
theorem sL_letter_10 {x : Int32} (k : X w mL_letter d Q 11 ls (.long x.toInt64 :: st) P) : X w mL_letter d Q 10 ls (.int x :: st) P := X_i2l (M := mL_letter) (dL_letter_10) k
theorem dL_letter_11 : decode cL_letter 11 = .ok (.lastore, 1) := by decide +kernel
theorem sL_letter_11 {a n : Nat} {f : Nat → Int64} {i : Int32} {x : Int64} (hP : P.1 a = some (xJ n f)) (hi : vp_in i n) (k : X w mL_letter d Q 12 ls st (xs P a (xJ n (vp_updL f i.toNatClampNeg x)))) : X w mL_letter d Q 11 ls (.long x :: .int i :: .ref a :: st) P := X_last (M := mL_letter) (dL_letter_11) hP hi k
theorem dL_letter_12 : decode cL_letter 12 = .ok (.goto 7, 3) := by decide +kernel
theorem sL_letter_12 (k : X w mL_letter d Q 19 ls st P) : X w mL_letter d Q 12 ls st P := X_goto (M := mL_letter) (dL_letter_12) (by decide) k
theorem dL_letter_15 : decode cL_letter 15 = .ok (.astore 5, 2) := by decide +kernel
theorem sL_letter_15 {l0 l1 l2 l3 l4 l5 : Option Value} {x : Nat} (hn : xnl l4 = true) (k : X w mL_letter d Q 17 [l0, l1, l2, l3, l4, some (.ref x)] st P) : X w mL_letter d Q 15 [l0, l1, l2, l3, l4, l5] (.ref x :: st) P := X_astore (M := mL_letter) (dL_letter_15) (by decide) rfl (xnl_p (ls := [l0, l1, l2, l3, l4, l5]) (j := 4) rfl hn) k
theorem dL_letter_17 : decode cL_letter 17 = .ok (.iconst 1, 1) := by decide +kernel
theorem sL_letter_17 (k : X w mL_letter d Q 18 ls (.int (1 : Int32) :: st) P) : X w mL_letter d Q 17 ls st P := X_iconst (M := mL_letter) (dL_letter_17) (by decide) k
theorem dL_letter_18 : decode cL_letter 18 = .ok (.ireturn, 1) := by decide +kernel
theorem sL_letter_18 {v : Int32} (hq : Q (.returned (some (.int v))) P) : X w mL_letter d Q 18 ls [.int v] P := X_iret (M := mL_letter) (dL_letter_18) rfl hq
theorem dL_letter_19 : decode cL_letter 19 = .ok (.iconst 0, 1) := by decide +kernel
theorem sL_letter_19 (k : X w mL_letter d Q 20 ls (.int (0 : Int32) :: st) P) : X w mL_letter d Q 19 ls st P := X_iconst (M := mL_letter) (dL_letter_19) (by decide) k
theorem dL_letter_20 : decode cL_letter 20 = .ok (.ireturn, 1) := by decide +kernel
theorem sL_letter_20 {v : Int32} (hq : Q (.returned (some (.int v))) P) : X w mL_letter d Q 20 ls [.int v] P := X_iret (M := mL_letter) (dL_letter_20) rfl hq
theorem dL_count_0 : decode cL_count 0 = .ok (.aload_n 2, 1) := by decide +kernel
theorem sL_count_0 {l0 l1 l3 : Option Value} {x : Nat} (k : X w mL_count d Q 1 [l0, l1, some (.ref x), l3] (.ref x :: st) P) : X w mL_count d Q 0 [l0, l1, some (.ref x), l3] st P := X_aload_n (M := mL_count) (dL_count_0) rfl rfl k
theorem dL_count_1 : decode cL_count 1 = .ok (.iconst 0, 1) := by decide +kernel
theorem sL_count_1 (k : X w mL_count d Q 2 ls (.int (0 : Int32) :: st) P) : X w mL_count d Q 1 ls st P := X_iconst (M := mL_count) (dL_count_1) (by decide) k
theorem dL_count_2 : decode cL_count 2 = .ok (.aload_n 0, 1) := by decide +kernel
theorem sL_count_2 {l1 l2 l3 : Option Value} {x : Nat} (k : X w mL_count d Q 3 [some (.ref x), l1, l2, l3] (.ref x :: st) P) : X w mL_count d Q 2 [some (.ref x), l1, l2, l3] st P := X_aload_n (M := mL_count) (dL_count_2) rfl rfl k
theorem dL_count_3 : decode cL_count 3 = .ok (.iload_n 1, 1) := by decide +kernel
theorem sL_count_3 {l0 l2 l3 : Option Value} {x : Int32} (k : X w mL_count d Q 4 [l0, some (.int x), l2, l3] (.int x :: st) P) : X w mL_count d Q 3 [l0, some (.int x), l2, l3] st P := X_iload_n (M := mL_count) (dL_count_3) rfl rfl k
theorem dL_count_4 : decode cL_count 4 = .ok (.invokevirtual 51, 3) := by decide +kernel
theorem sL_count_4_g {b : Nat} {fs : List Value} {a0 : Int32} {Qc : Outcome → xH → Prop} (hst : (st.map fun v => v.category).sum ≤ 8) (hP : P.1 b = some (xO 8 fs)) (hC : xC w d mX10_count [.ref b, .int a0] P Qc) (kr : ∀ v P1, Qc (.returned v) P1 → X w mL_count (d + 1) Q 7 ls (v.toList ++ st) P1) (kt : ∀ q P1, Qc (.threw q) P1 → Xt w mL_count (d + 1) Q 4 ls st P1 q) : X w mL_count (d + 1) Q 4 ls (.int a0 :: .ref b :: st) P := X_callV (M := mL_count) (MC := mX10_count) (As := [.int a0]) (T := TX10) (dL_count_4) calX10_count xw_598 xw_599 xw_600 rfl rfl hP hC hst kr kt
theorem sL_count_4 {b : Nat} {fs : List Value} {a0 : Int32} {r : Int32} {P1 : xH} (hst : (st.map fun v => v.category).sum ≤ 8) (hP : P.1 b = some (xO 8 fs)) (hC : xC w d mX10_count [.ref b, .int a0] P (xRet (some (.int r)) P1)) (k : X w mL_count (d + 1) Q 7 ls (.int r :: st) P1) : X w mL_count (d + 1) Q 4 ls (.int a0 :: .ref b :: st) P := X_callV (M := mL_count) (MC := mX10_count) (As := [.int a0]) (T := TX10) (dL_count_4) calX10_count xw_598 xw_599 xw_600 rfl rfl hP hC hst (fun v P2 h => by obtain ⟨h1, rfl⟩ := h; cases h1; exact k) (fun q P2 h => by cases h.1)
theorem sL_count_4_r {b : Nat} {fs : List Value} {a0 : Int32} {r : Int32} {Rp : xH → Prop} (hst : (st.map fun v => v.category).sum ≤ 8) (hP : P.1 b = some (xO 8 fs)) (hC : xC w d mX10_count [.ref b, .int a0] P (xRl (some (.int r)) Rp)) (k : ∀ P1, Rp P1 → X w mL_count (d + 1) Q 7 ls (.int r :: st) P1) : X w mL_count (d + 1) Q 4 ls (.int a0 :: .ref b :: st) P := X_callV (M := mL_count) (MC := mX10_count) (As := [.int a0]) (T := TX10) (dL_count_4) calX10_count xw_598 xw_599 xw_600 rfl rfl hP hC hst (fun v P2 h => by obtain ⟨h1, hR⟩ := h; cases h1; exact k P2 hR) (fun q P2 h => by cases h.1)
theorem dL_count_7 : decode cL_count 7 = .ok (.i2l, 1) := by decide +kernel
theorem sL_count_7 {x : Int32} (k : X w mL_count d Q 8 ls (.long x.toInt64 :: st) P) : X w mL_count d Q 7 ls (.int x :: st) P := X_i2l (M := mL_count) (dL_count_7) k
theorem dL_count_8 : decode cL_count 8 = .ok (.lastore, 1) := by decide +kernel
theorem sL_count_8 {a n : Nat} {f : Nat → Int64} {i : Int32} {x : Int64} (hP : P.1 a = some (xJ n f)) (hi : vp_in i n) (k : X w mL_count d Q 9 ls st (xs P a (xJ n (vp_updL f i.toNatClampNeg x)))) : X w mL_count d Q 8 ls (.long x :: .int i :: .ref a :: st) P := X_last (M := mL_count) (dL_count_8) hP hi k
theorem dL_count_9 : decode cL_count 9 = .ok (.goto 6, 3) := by decide +kernel
theorem sL_count_9 (k : X w mL_count d Q 15 ls st P) : X w mL_count d Q 9 ls st P := X_goto (M := mL_count) (dL_count_9) (by decide) k
theorem dL_count_12 : decode cL_count 12 = .ok (.astore_n 3, 1) := by decide +kernel
theorem sL_count_12 {l0 l1 l2 l3 : Option Value} {x : Nat} (hn : xnl l2 = true) (k : X w mL_count d Q 13 [l0, l1, l2, some (.ref x)] st P) : X w mL_count d Q 12 [l0, l1, l2, l3] (.ref x :: st) P := X_astore_n (M := mL_count) (dL_count_12) rfl (by decide) rfl (xnl_p (ls := [l0, l1, l2, l3]) (j := 2) rfl hn) k
theorem dL_count_13 : decode cL_count 13 = .ok (.iconst 1, 1) := by decide +kernel
theorem sL_count_13 (k : X w mL_count d Q 14 ls (.int (1 : Int32) :: st) P) : X w mL_count d Q 13 ls st P := X_iconst (M := mL_count) (dL_count_13) (by decide) k
theorem dL_count_14 : decode cL_count 14 = .ok (.ireturn, 1) := by decide +kernel
theorem sL_count_14 {v : Int32} (hq : Q (.returned (some (.int v))) P) : X w mL_count d Q 14 ls [.int v] P := X_iret (M := mL_count) (dL_count_14) rfl hq
theorem dL_count_15 : decode cL_count 15 = .ok (.iconst 0, 1) := by decide +kernel
theorem sL_count_15 (k : X w mL_count d Q 16 ls (.int (0 : Int32) :: st) P) : X w mL_count d Q 15 ls st P := X_iconst (M := mL_count) (dL_count_15) (by decide) k
theorem dL_count_16 : decode cL_count 16 = .ok (.ireturn, 1) := by decide +kernel
theorem sL_count_16 {v : Int32} (hq : Q (.returned (some (.int v))) P) : X w mL_count d Q 16 ls [.int v] P := X_iret (M := mL_count) (dL_count_16) rfl hq
theorem dL_law_0 : decode cL_law 0 = .ok (.new 8, 3) := by decide +kernel
theorem sL_law_0 (hr1 : P.2.1 + 1 ≤ w.z + 601024) (hr2 : P.2.2 + 6 ≤ 7293034) (k : X w mL_law d Q 3 ls (.ref P.2.1 :: st) (xal P (xO 8 [.null, .int 0, .null, .null, .null, .null]) 6)) : X w mL_law d Q 0 ls st P := X_new (M := mL_law) (T := TX10) (dL_law_0) rfl x_c10 xw_601 xw_602 xw_603 xd_X10 hr1 hr2 k
theorem dL_law_3 : decode cL_law 3 = .ok (.dup, 1) := by decide +kernel
theorem sL_law_3 {v : Value} (hv : v.category = 1) (k : X w mL_law d Q 4 ls (v :: v :: st) P) : X w mL_law d Q 3 ls (v :: st) P := X_dup (M := mL_law) (dL_law_3) hv k
theorem dL_law_4 : decode cL_law 4 = .ok (.invokespecial 55, 3) := by decide +kernel
theorem sL_law_4 {b : Nat}  {P1 : xH} (hst : (st.map fun v => v.category).sum ≤ 8) (hC : xC w d mX10_init [.ref b] P (xRet none P1)) (k : X w mL_law (d + 1) Q 7 ls st P1) : X w mL_law (d + 1) Q 4 ls (.ref b :: st) P := X_callI (M := mL_law) (MC := mX10_init) (As := []) (dL_law_4) calX10_init rfl rfl xw_604 xw_605 rfl hC (fun q P1 h => by cases h.1) hst (fun v P2 h => by obtain ⟨h1, rfl⟩ := h; cases h1; exact k)
theorem sL_law_4_r {b : Nat}  {Rp : xH → Prop} (hst : (st.map fun v => v.category).sum ≤ 8) (hC : xC w d mX10_init [.ref b] P (xRl none Rp)) (k : ∀ P1, Rp P1 → X w mL_law (d + 1) Q 7 ls st P1) : X w mL_law (d + 1) Q 4 ls (.ref b :: st) P := X_callI (M := mL_law) (MC := mX10_init) (As := []) (dL_law_4) calX10_init rfl rfl xw_604 xw_605 rfl hC (fun q P1 h => by cases h.1) hst (fun v P2 h => by obtain ⟨h1, hR⟩ := h; cases h1; exact k P2 hR)
theorem dL_law_7 : decode cL_law 7 = .ok (.astore_n 1, 1) := by decide +kernel
theorem sL_law_7 {l0 l1 l2 l3 l4 l5 l6 l7 : Option Value} {x : Nat} (hn : xnl l0 = true) (k : X w mL_law d Q 8 [l0, some (.ref x), l2, l3, l4, l5, l6, l7] st P) : X w mL_law d Q 7 [l0, l1, l2, l3, l4, l5, l6, l7] (.ref x :: st) P := X_astore_n (M := mL_law) (dL_law_7) rfl (by decide) rfl (xnl_p (ls := [l0, l1, l2, l3, l4, l5, l6, l7]) (j := 0) rfl hn) k
theorem dL_law_8 : decode cL_law 8 = .ok (.new 56, 3) := by decide +kernel
theorem sL_law_8 (hr1 : P.2.1 + 1 ≤ w.z + 601024) (hr2 : P.2.2 + 37 ≤ 7293034) (k : X w mL_law d Q 11 ls (.ref P.2.1 :: st) (xal P (xO 9 [.int 0, .int 0, .null, .int 0, .null, .null, .null, .null, .null, .null, .null, .null, .null, .null, .null, .null, .null, .null, .null, .null, .null, .null, .null, .int 0, .int 0, .int 0, .long 0, .int 0, .int 0, .int 0, .int 0, .null, .int 0, .null, .int 0, .null, .null]) 37)) : X w mL_law d Q 8 ls st P := X_new (M := mL_law) (T := TX11) (dL_law_8) rfl x_c11 xw_606 xw_607 xw_608 xd_X11 hr1 hr2 k
theorem dL_law_11 : decode cL_law 11 = .ok (.dup, 1) := by decide +kernel
theorem sL_law_11 {v : Value} (hv : v.category = 1) (k : X w mL_law d Q 12 ls (v :: v :: st) P) : X w mL_law d Q 11 ls (v :: st) P := X_dup (M := mL_law) (dL_law_11) hv k
theorem dL_law_12 : decode cL_law 12 = .ok (.invokespecial 58, 3) := by decide +kernel
theorem sL_law_12 {b : Nat}  {P1 : xH} (hst : (st.map fun v => v.category).sum ≤ 8) (hC : xC w d mX11_init [.ref b] P (xRet none P1)) (k : X w mL_law (d + 1) Q 15 ls st P1) : X w mL_law (d + 1) Q 12 ls (.ref b :: st) P := X_callI (M := mL_law) (MC := mX11_init) (As := []) (dL_law_12) calX11_init rfl rfl xw_609 xw_610 rfl hC (fun q P1 h => by cases h.1) hst (fun v P2 h => by obtain ⟨h1, rfl⟩ := h; cases h1; exact k)
theorem sL_law_12_r {b : Nat}  {Rp : xH → Prop} (hst : (st.map fun v => v.category).sum ≤ 8) (hC : xC w d mX11_init [.ref b] P (xRl none Rp)) (k : ∀ P1, Rp P1 → X w mL_law (d + 1) Q 15 ls st P1) : X w mL_law (d + 1) Q 12 ls (.ref b :: st) P := X_callI (M := mL_law) (MC := mX11_init) (As := []) (dL_law_12) calX11_init rfl rfl xw_609 xw_610 rfl hC (fun q P1 h => by cases h.1) hst (fun v P2 h => by obtain ⟨h1, hR⟩ := h; cases h1; exact k P2 hR)
theorem dL_law_15 : decode cL_law 15 = .ok (.astore_n 2, 1) := by decide +kernel
theorem sL_law_15 {l0 l1 l2 l3 l4 l5 l6 l7 : Option Value} {x : Nat} (hn : xnl l1 = true) (k : X w mL_law d Q 16 [l0, l1, some (.ref x), l3, l4, l5, l6, l7] st P) : X w mL_law d Q 15 [l0, l1, l2, l3, l4, l5, l6, l7] (.ref x :: st) P := X_astore_n (M := mL_law) (dL_law_15) rfl (by decide) rfl (xnl_p (ls := [l0, l1, l2, l3, l4, l5, l6, l7]) (j := 1) rfl hn) k
theorem dL_law_16 : decode cL_law 16 = .ok (.iconst 1, 1) := by decide +kernel
theorem sL_law_16 (k : X w mL_law d Q 17 ls (.int (1 : Int32) :: st) P) : X w mL_law d Q 16 ls st P := X_iconst (M := mL_law) (dL_law_16) (by decide) k
theorem dL_law_17 : decode cL_law 17 = .ok (.newarray .long, 2) := by decide +kernel
theorem sL_law_17 {n : Int32} {N : Nat} (hn : ¬ n < 0) (hN : n.toNatClampNeg = N) (hb : N ≤ 10000) (hr1 : P.2.1 + 1 ≤ w.z + 601024) (hr2 : P.2.2 + N ≤ 7293034) (k : X w mL_law d Q 19 ls (.ref P.2.1 :: st) (xal P (xJ N (fun _ => 0)) N)) : X w mL_law d Q 17 ls (.int n :: st) P := X_newaJ (M := mL_law) (dL_law_17) xw_60 hn hN hb hr1 hr2 k
theorem dL_law_19 : decode cL_law 19 = .ok (.astore_n 3, 1) := by decide +kernel
theorem sL_law_19 {l0 l1 l2 l3 l4 l5 l6 l7 : Option Value} {x : Nat} (hn : xnl l2 = true) (k : X w mL_law d Q 20 [l0, l1, l2, some (.ref x), l4, l5, l6, l7] st P) : X w mL_law d Q 19 [l0, l1, l2, l3, l4, l5, l6, l7] (.ref x :: st) P := X_astore_n (M := mL_law) (dL_law_19) rfl (by decide) rfl (xnl_p (ls := [l0, l1, l2, l3, l4, l5, l6, l7]) (j := 2) rfl hn) k
theorem dL_law_20 : decode cL_law 20 = .ok (.iconst 0, 1) := by decide +kernel
theorem sL_law_20 (k : X w mL_law d Q 21 ls (.int (0 : Int32) :: st) P) : X w mL_law d Q 20 ls st P := X_iconst (M := mL_law) (dL_law_20) (by decide) k
theorem dL_law_21 : decode cL_law 21 = .ok (.istore 4, 2) := by decide +kernel
theorem sL_law_21 {l0 l1 l2 l3 l4 l5 l6 l7 : Option Value} {x : Int32} (hn : xnl l3 = true) (k : X w mL_law d Q 23 [l0, l1, l2, l3, some (.int x), l5, l6, l7] st P) : X w mL_law d Q 21 [l0, l1, l2, l3, l4, l5, l6, l7] (.int x :: st) P := X_istore (M := mL_law) (dL_law_21) (by decide) rfl (xnl_p (ls := [l0, l1, l2, l3, l4, l5, l6, l7]) (j := 3) rfl hn) k
theorem dL_law_23 : decode cL_law 23 = .ok (.iload 4, 2) := by decide +kernel
theorem sL_law_23 {l0 l1 l2 l3 l5 l6 l7 : Option Value} {x : Int32} (k : X w mL_law d Q 25 [l0, l1, l2, l3, some (.int x), l5, l6, l7] (.int x :: st) P) : X w mL_law d Q 23 [l0, l1, l2, l3, some (.int x), l5, l6, l7] st P := X_iload (M := mL_law) (dL_law_23) rfl k
theorem dL_law_25 : decode cL_law 25 = .ok (.aload_n 0, 1) := by decide +kernel
theorem sL_law_25 {l1 l2 l3 l4 l5 l6 l7 : Option Value} {x : Nat} (k : X w mL_law d Q 26 [some (.ref x), l1, l2, l3, l4, l5, l6, l7] (.ref x :: st) P) : X w mL_law d Q 25 [some (.ref x), l1, l2, l3, l4, l5, l6, l7] st P := X_aload_n (M := mL_law) (dL_law_25) rfl rfl k
theorem dL_law_26 : decode cL_law 26 = .ok (.arraylength, 1) := by decide +kernel
theorem sL_law_26 (k : X w mL_law d Q 27 ls (.int (Int32.ofNat w.2.2.2.2.2.1) :: st) P) : X w mL_law d Q 26 ls (.ref (w.ad 0) :: st) P := X_slen (M := mL_law) (dL_law_26) k
theorem dL_law_27 : decode cL_law 27 = .ok (.bipush 6, 2) := by decide +kernel
theorem sL_law_27 (k : X w mL_law d Q 29 ls (.int (6 : Int32) :: st) P) : X w mL_law d Q 27 ls st P := X_bipush (M := mL_law) (dL_law_27) (by decide) k
theorem dL_law_29 : decode cL_law 29 = .ok (.isub, 1) := by decide +kernel
theorem sL_law_29 {x y : Int32} (k : X w mL_law d Q 30 ls (.int (x - y) :: st) P) : X w mL_law d Q 29 ls (.int y :: .int x :: st) P := X_isub (M := mL_law) (dL_law_29) k
theorem dL_law_30 : decode cL_law 30 = .ok (.if_icmp .gt 1065, 3) := by decide +kernel
theorem sL_law_30 {x y : Int32} (kt : y < x → X w mL_law d Q 1095 ls st P) (kf : ¬ y < x → X w mL_law d Q 33 ls st P) : X w mL_law d Q 30 ls (.int y :: .int x :: st) P := X_icmp_gt (M := mL_law) (dL_law_30) (by decide) kt kf
theorem dL_law_33 : decode cL_law 33 = .ok (.aload_n 0, 1) := by decide +kernel
theorem sL_law_33 {l1 l2 l3 l4 l5 l6 l7 : Option Value} {x : Nat} (k : X w mL_law d Q 34 [some (.ref x), l1, l2, l3, l4, l5, l6, l7] (.ref x :: st) P) : X w mL_law d Q 33 [some (.ref x), l1, l2, l3, l4, l5, l6, l7] st P := X_aload_n (M := mL_law) (dL_law_33) rfl rfl k
theorem dL_law_34 : decode cL_law 34 = .ok (.iload 4, 2) := by decide +kernel
theorem sL_law_34 {l0 l1 l2 l3 l5 l6 l7 : Option Value} {x : Int32} (k : X w mL_law d Q 36 [l0, l1, l2, l3, some (.int x), l5, l6, l7] (.int x :: st) P) : X w mL_law d Q 34 [l0, l1, l2, l3, some (.int x), l5, l6, l7] st P := X_iload (M := mL_law) (dL_law_34) rfl k
theorem dL_law_36 : decode cL_law 36 = .ok (.iaload, 1) := by decide +kernel
theorem sL_law_36 {a n : Nat} {f : Nat → Int32} {i : Int32} (hP : P.1 a = some (xA 0 n f)) (hi : vp_in i n) (k : X w mL_law d Q 37 ls (.int (f i.toNatClampNeg) :: st) P) : X w mL_law d Q 36 ls (.int i :: .ref a :: st) P := X_iald (M := mL_law) (dL_law_36) hP hi k
theorem dL_law_37 : decode cL_law 37 = .ok (.bipush 15, 2) := by decide +kernel
theorem sL_law_37 (k : X w mL_law d Q 39 ls (.int (15 : Int32) :: st) P) : X w mL_law d Q 37 ls st P := X_bipush (M := mL_law) (dL_law_37) (by decide) k
theorem dL_law_39 : decode cL_law 39 = .ok (.iand, 1) := by decide +kernel
theorem sL_law_39 {x y : Int32} (k : X w mL_law d Q 40 ls (.int (x &&& y) :: st) P) : X w mL_law d Q 39 ls (.int y :: .int x :: st) P := X_iand (M := mL_law) (dL_law_39) k
theorem dL_law_40 : decode cL_law 40 = .ok (.tableswitch 1049 0 14 #[76, 101, 126, 139, 207, 274, 354, 434, 554, 622, 697, 777, 845, 913, 993], 76) := by decide +kernel
theorem dL_law_116 : decode cL_law 116 = .ok (.aload_n 1, 1) := by decide +kernel
theorem sL_law_116 {l0 l2 l3 l4 l5 l6 l7 : Option Value} {x : Nat} (k : X w mL_law d Q 117 [l0, some (.ref x), l2, l3, l4, l5, l6, l7] (.ref x :: st) P) : X w mL_law d Q 116 [l0, some (.ref x), l2, l3, l4, l5, l6, l7] st P := X_aload_n (M := mL_law) (dL_law_116) rfl rfl k
theorem dL_law_117 : decode cL_law 117 = .ok (.aload_n 0, 1) := by decide +kernel
theorem sL_law_117 {l1 l2 l3 l4 l5 l6 l7 : Option Value} {x : Nat} (k : X w mL_law d Q 118 [some (.ref x), l1, l2, l3, l4, l5, l6, l7] (.ref x :: st) P) : X w mL_law d Q 117 [some (.ref x), l1, l2, l3, l4, l5, l6, l7] st P := X_aload_n (M := mL_law) (dL_law_117) rfl rfl k
theorem dL_law_118 : decode cL_law 118 = .ok (.iload 4, 2) := by decide +kernel
theorem sL_law_118 {l0 l1 l2 l3 l5 l6 l7 : Option Value} {x : Int32} (k : X w mL_law d Q 120 [l0, l1, l2, l3, some (.int x), l5, l6, l7] (.int x :: st) P) : X w mL_law d Q 118 [l0, l1, l2, l3, some (.int x), l5, l6, l7] st P := X_iload (M := mL_law) (dL_law_118) rfl k
theorem dL_law_120 : decode cL_law 120 = .ok (.iconst 1, 1) := by decide +kernel
theorem sL_law_120 (k : X w mL_law d Q 121 ls (.int (1 : Int32) :: st) P) : X w mL_law d Q 120 ls st P := X_iconst (M := mL_law) (dL_law_120) (by decide) k
theorem dL_law_121 : decode cL_law 121 = .ok (.iadd, 1) := by decide +kernel
theorem sL_law_121 {x y : Int32} (k : X w mL_law d Q 122 ls (.int (x + y) :: st) P) : X w mL_law d Q 121 ls (.int y :: .int x :: st) P := X_iadd (M := mL_law) (dL_law_121) k
theorem dL_law_122 : decode cL_law 122 = .ok (.iaload, 1) := by decide +kernel
theorem sL_law_122 {a n : Nat} {f : Nat → Int32} {i : Int32} (hP : P.1 a = some (xA 0 n f)) (hi : vp_in i n) (k : X w mL_law d Q 123 ls (.int (f i.toNatClampNeg) :: st) P) : X w mL_law d Q 122 ls (.int i :: .ref a :: st) P := X_iald (M := mL_law) (dL_law_122) hP hi k
theorem dL_law_123 : decode cL_law 123 = .ok (.invokevirtual 59, 3) := by decide +kernel
theorem sL_law_123_g {b : Nat} {fs : List Value} {a0 : Int32} {Qc : Outcome → xH → Prop} (hst : (st.map fun v => v.category).sum ≤ 8) (hP : P.1 b = some (xO 8 fs)) (hC : xC w d mX10_unit [.ref b, .int a0] P Qc) (kr : ∀ v P1, Qc (.returned v) P1 → X w mL_law (d + 1) Q 126 ls (v.toList ++ st) P1) (kt : ∀ q P1, Qc (.threw q) P1 → Xt w mL_law (d + 1) Q 123 ls st P1 q) : X w mL_law (d + 1) Q 123 ls (.int a0 :: .ref b :: st) P := X_callV (M := mL_law) (MC := mX10_unit) (As := [.int a0]) (T := TX10) (dL_law_123) calX10_unit xw_611 xw_612 xw_613 rfl rfl hP hC hst kr kt
theorem sL_law_123 {b : Nat} {fs : List Value} {a0 : Int32} {r : Int32} {P1 : xH} (hst : (st.map fun v => v.category).sum ≤ 8) (hP : P.1 b = some (xO 8 fs)) (hC : xC w d mX10_unit [.ref b, .int a0] P (xRet (some (.int r)) P1)) (k : X w mL_law (d + 1) Q 126 ls (.int r :: st) P1) : X w mL_law (d + 1) Q 123 ls (.int a0 :: .ref b :: st) P := X_callV (M := mL_law) (MC := mX10_unit) (As := [.int a0]) (T := TX10) (dL_law_123) calX10_unit xw_611 xw_612 xw_613 rfl rfl hP hC hst (fun v P2 h => by obtain ⟨h1, rfl⟩ := h; cases h1; exact k) (fun q P2 h => by cases h.1)
theorem sL_law_123_r {b : Nat} {fs : List Value} {a0 : Int32} {r : Int32} {Rp : xH → Prop} (hst : (st.map fun v => v.category).sum ≤ 8) (hP : P.1 b = some (xO 8 fs)) (hC : xC w d mX10_unit [.ref b, .int a0] P (xRl (some (.int r)) Rp)) (k : ∀ P1, Rp P1 → X w mL_law (d + 1) Q 126 ls (.int r :: st) P1) : X w mL_law (d + 1) Q 123 ls (.int a0 :: .ref b :: st) P := X_callV (M := mL_law) (MC := mX10_unit) (As := [.int a0]) (T := TX10) (dL_law_123) calX10_unit xw_611 xw_612 xw_613 rfl rfl hP hC hst (fun v P2 h => by obtain ⟨h1, hR⟩ := h; cases h1; exact k P2 hR) (fun q P2 h => by cases h.1)
theorem sL_law_123_t {b : Nat} {fs : List Value} {a0 : Int32} {q : Nat} {P1 : xH} (hst : (st.map fun v => v.category).sum ≤ 8) (hP : P.1 b = some (xO 8 fs)) (hC : xC w d mX10_unit [.ref b, .int a0] P (xThr q P1)) (hq : Q (.threw q) P1) : X w mL_law (d + 1) Q 123 ls (.int a0 :: .ref b :: st) P := X_callV (M := mL_law) (MC := mX10_unit) (As := [.int a0]) (T := TX10) (dL_law_123) calX10_unit xw_611 xw_612 xw_613 rfl rfl hP hC hst (fun v P2 h => by cases h.1) (fun q2 P2 h => by obtain ⟨h1, rfl⟩ := h; cases h1; exact Xt_out rfl hq)
theorem dL_law_126 : decode cL_law 126 = .ok (.aload_n 2, 1) := by decide +kernel
theorem sL_law_126 {l0 l1 l3 l4 l5 l6 l7 : Option Value} {x : Nat} (k : X w mL_law d Q 127 [l0, l1, some (.ref x), l3, l4, l5, l6, l7] (.ref x :: st) P) : X w mL_law d Q 126 [l0, l1, some (.ref x), l3, l4, l5, l6, l7] st P := X_aload_n (M := mL_law) (dL_law_126) rfl rfl k
theorem dL_law_127 : decode cL_law 127 = .ok (.aload_n 0, 1) := by decide +kernel
theorem sL_law_127 {l1 l2 l3 l4 l5 l6 l7 : Option Value} {x : Nat} (k : X w mL_law d Q 128 [some (.ref x), l1, l2, l3, l4, l5, l6, l7] (.ref x :: st) P) : X w mL_law d Q 127 [some (.ref x), l1, l2, l3, l4, l5, l6, l7] st P := X_aload_n (M := mL_law) (dL_law_127) rfl rfl k
theorem dL_law_128 : decode cL_law 128 = .ok (.iload 4, 2) := by decide +kernel
theorem sL_law_128 {l0 l1 l2 l3 l5 l6 l7 : Option Value} {x : Int32} (k : X w mL_law d Q 130 [l0, l1, l2, l3, some (.int x), l5, l6, l7] (.int x :: st) P) : X w mL_law d Q 128 [l0, l1, l2, l3, some (.int x), l5, l6, l7] st P := X_iload (M := mL_law) (dL_law_128) rfl k
theorem dL_law_130 : decode cL_law 130 = .ok (.iconst 1, 1) := by decide +kernel
theorem sL_law_130 (k : X w mL_law d Q 131 ls (.int (1 : Int32) :: st) P) : X w mL_law d Q 130 ls st P := X_iconst (M := mL_law) (dL_law_130) (by decide) k
theorem dL_law_131 : decode cL_law 131 = .ok (.iadd, 1) := by decide +kernel
theorem sL_law_131 {x y : Int32} (k : X w mL_law d Q 132 ls (.int (x + y) :: st) P) : X w mL_law d Q 131 ls (.int y :: .int x :: st) P := X_iadd (M := mL_law) (dL_law_131) k
theorem dL_law_132 : decode cL_law 132 = .ok (.iaload, 1) := by decide +kernel
theorem sL_law_132 {a n : Nat} {f : Nat → Int32} {i : Int32} (hP : P.1 a = some (xA 0 n f)) (hi : vp_in i n) (k : X w mL_law d Q 133 ls (.int (f i.toNatClampNeg) :: st) P) : X w mL_law d Q 132 ls (.int i :: .ref a :: st) P := X_iald (M := mL_law) (dL_law_132) hP hi k
theorem dL_law_133 : decode cL_law 133 = .ok (.invokevirtual 63, 3) := by decide +kernel
theorem sL_law_133_g {b : Nat} {fs : List Value} {a0 : Int32} {Qc : Outcome → xH → Prop} (hst : (st.map fun v => v.category).sum ≤ 8) (hP : P.1 b = some (xO 9 fs)) (hC : xC w d mX11_unit [.ref b, .int a0] P Qc) (kr : ∀ v P1, Qc (.returned v) P1 → X w mL_law (d + 1) Q 136 ls (v.toList ++ st) P1) (kt : ∀ q P1, Qc (.threw q) P1 → Xt w mL_law (d + 1) Q 133 ls st P1 q) : X w mL_law (d + 1) Q 133 ls (.int a0 :: .ref b :: st) P := X_callV (M := mL_law) (MC := mX11_unit) (As := [.int a0]) (T := TX11) (dL_law_133) calX11_unit xw_614 xw_615 xw_616 rfl rfl hP hC hst kr kt
theorem sL_law_133 {b : Nat} {fs : List Value} {a0 : Int32} {r : Int32} {P1 : xH} (hst : (st.map fun v => v.category).sum ≤ 8) (hP : P.1 b = some (xO 9 fs)) (hC : xC w d mX11_unit [.ref b, .int a0] P (xRet (some (.int r)) P1)) (k : X w mL_law (d + 1) Q 136 ls (.int r :: st) P1) : X w mL_law (d + 1) Q 133 ls (.int a0 :: .ref b :: st) P := X_callV (M := mL_law) (MC := mX11_unit) (As := [.int a0]) (T := TX11) (dL_law_133) calX11_unit xw_614 xw_615 xw_616 rfl rfl hP hC hst (fun v P2 h => by obtain ⟨h1, rfl⟩ := h; cases h1; exact k) (fun q P2 h => by cases h.1)
theorem sL_law_133_r {b : Nat} {fs : List Value} {a0 : Int32} {r : Int32} {Rp : xH → Prop} (hst : (st.map fun v => v.category).sum ≤ 8) (hP : P.1 b = some (xO 9 fs)) (hC : xC w d mX11_unit [.ref b, .int a0] P (xRl (some (.int r)) Rp)) (k : ∀ P1, Rp P1 → X w mL_law (d + 1) Q 136 ls (.int r :: st) P1) : X w mL_law (d + 1) Q 133 ls (.int a0 :: .ref b :: st) P := X_callV (M := mL_law) (MC := mX11_unit) (As := [.int a0]) (T := TX11) (dL_law_133) calX11_unit xw_614 xw_615 xw_616 rfl rfl hP hC hst (fun v P2 h => by obtain ⟨h1, hR⟩ := h; cases h1; exact k P2 hR) (fun q P2 h => by cases h.1)
theorem sL_law_133_t {b : Nat} {fs : List Value} {a0 : Int32} {q : Nat} {P1 : xH} (hst : (st.map fun v => v.category).sum ≤ 8) (hP : P.1 b = some (xO 9 fs)) (hC : xC w d mX11_unit [.ref b, .int a0] P (xThr q P1)) (hq : Q (.threw q) P1) : X w mL_law (d + 1) Q 133 ls (.int a0 :: .ref b :: st) P := X_callV (M := mL_law) (MC := mX11_unit) (As := [.int a0]) (T := TX11) (dL_law_133) calX11_unit xw_614 xw_615 xw_616 rfl rfl hP hC hst (fun v P2 h => by cases h.1) (fun q2 P2 h => by obtain ⟨h1, rfl⟩ := h; cases h1; exact Xt_out rfl hq)
theorem dL_law_136 : decode cL_law 136 = .ok (.if_icmp .eq 953, 3) := by decide +kernel
theorem sL_law_136 {x y : Int32} (kt : x = y → X w mL_law d Q 1089 ls st P) (kf : ¬ x = y → X w mL_law d Q 139 ls st P) : X w mL_law d Q 136 ls (.int y :: .int x :: st) P := X_icmp_eq (M := mL_law) (dL_law_136) (by decide) kt kf
theorem dL_law_139 : decode cL_law 139 = .ok (.iconst 0, 1) := by decide +kernel
theorem sL_law_139 (k : X w mL_law d Q 140 ls (.int (0 : Int32) :: st) P) : X w mL_law d Q 139 ls st P := X_iconst (M := mL_law) (dL_law_139) (by decide) k
theorem dL_law_140 : decode cL_law 140 = .ok (.ireturn, 1) := by decide +kernel
theorem sL_law_140 {v : Int32} (hb : v = 0 ∨ v = 1) (hq : Q (.returned (some (.int v))) P) : X w mL_law d Q 140 ls [.int v] P := X_zret (M := mL_law) (ty := .boolean) (dL_law_140) rfl (xz_n hb) hq
theorem dL_law_141 : decode cL_law 141 = .ok (.aload_n 1, 1) := by decide +kernel
theorem sL_law_141 {l0 l2 l3 l4 l5 l6 l7 : Option Value} {x : Nat} (k : X w mL_law d Q 142 [l0, some (.ref x), l2, l3, l4, l5, l6, l7] (.ref x :: st) P) : X w mL_law d Q 141 [l0, some (.ref x), l2, l3, l4, l5, l6, l7] st P := X_aload_n (M := mL_law) (dL_law_141) rfl rfl k
theorem dL_law_142 : decode cL_law 142 = .ok (.aload_n 0, 1) := by decide +kernel
theorem sL_law_142 {l1 l2 l3 l4 l5 l6 l7 : Option Value} {x : Nat} (k : X w mL_law d Q 143 [some (.ref x), l1, l2, l3, l4, l5, l6, l7] (.ref x :: st) P) : X w mL_law d Q 142 [some (.ref x), l1, l2, l3, l4, l5, l6, l7] st P := X_aload_n (M := mL_law) (dL_law_142) rfl rfl k
theorem dL_law_143 : decode cL_law 143 = .ok (.iload 4, 2) := by decide +kernel
theorem sL_law_143 {l0 l1 l2 l3 l5 l6 l7 : Option Value} {x : Int32} (k : X w mL_law d Q 145 [l0, l1, l2, l3, some (.int x), l5, l6, l7] (.int x :: st) P) : X w mL_law d Q 143 [l0, l1, l2, l3, some (.int x), l5, l6, l7] st P := X_iload (M := mL_law) (dL_law_143) rfl k
theorem dL_law_145 : decode cL_law 145 = .ok (.iconst 1, 1) := by decide +kernel
theorem sL_law_145 (k : X w mL_law d Q 146 ls (.int (1 : Int32) :: st) P) : X w mL_law d Q 145 ls st P := X_iconst (M := mL_law) (dL_law_145) (by decide) k
theorem dL_law_146 : decode cL_law 146 = .ok (.iadd, 1) := by decide +kernel
theorem sL_law_146 {x y : Int32} (k : X w mL_law d Q 147 ls (.int (x + y) :: st) P) : X w mL_law d Q 146 ls (.int y :: .int x :: st) P := X_iadd (M := mL_law) (dL_law_146) k
theorem dL_law_147 : decode cL_law 147 = .ok (.iaload, 1) := by decide +kernel
theorem sL_law_147 {a n : Nat} {f : Nat → Int32} {i : Int32} (hP : P.1 a = some (xA 0 n f)) (hi : vp_in i n) (k : X w mL_law d Q 148 ls (.int (f i.toNatClampNeg) :: st) P) : X w mL_law d Q 147 ls (.int i :: .ref a :: st) P := X_iald (M := mL_law) (dL_law_147) hP hi k
theorem dL_law_148 : decode cL_law 148 = .ok (.invokevirtual 64, 3) := by decide +kernel
theorem sL_law_148_g {b : Nat} {fs : List Value} {a0 : Int32} {Qc : Outcome → xH → Prop} (hst : (st.map fun v => v.category).sum ≤ 8) (hP : P.1 b = some (xO 8 fs)) (hC : xC w d mX10_units [.ref b, .int a0] P Qc) (kr : ∀ v P1, Qc (.returned v) P1 → X w mL_law (d + 1) Q 151 ls (v.toList ++ st) P1) (kt : ∀ q P1, Qc (.threw q) P1 → Xt w mL_law (d + 1) Q 148 ls st P1 q) : X w mL_law (d + 1) Q 148 ls (.int a0 :: .ref b :: st) P := X_callV (M := mL_law) (MC := mX10_units) (As := [.int a0]) (T := TX10) (dL_law_148) calX10_units xw_617 xw_618 xw_619 rfl rfl hP hC hst kr kt
theorem sL_law_148 {b : Nat} {fs : List Value} {a0 : Int32} {r : Int32} {P1 : xH} (hst : (st.map fun v => v.category).sum ≤ 8) (hP : P.1 b = some (xO 8 fs)) (hC : xC w d mX10_units [.ref b, .int a0] P (xRet (some (.int r)) P1)) (k : X w mL_law (d + 1) Q 151 ls (.int r :: st) P1) : X w mL_law (d + 1) Q 148 ls (.int a0 :: .ref b :: st) P := X_callV (M := mL_law) (MC := mX10_units) (As := [.int a0]) (T := TX10) (dL_law_148) calX10_units xw_617 xw_618 xw_619 rfl rfl hP hC hst (fun v P2 h => by obtain ⟨h1, rfl⟩ := h; cases h1; exact k) (fun q P2 h => by cases h.1)
theorem sL_law_148_r {b : Nat} {fs : List Value} {a0 : Int32} {r : Int32} {Rp : xH → Prop} (hst : (st.map fun v => v.category).sum ≤ 8) (hP : P.1 b = some (xO 8 fs)) (hC : xC w d mX10_units [.ref b, .int a0] P (xRl (some (.int r)) Rp)) (k : ∀ P1, Rp P1 → X w mL_law (d + 1) Q 151 ls (.int r :: st) P1) : X w mL_law (d + 1) Q 148 ls (.int a0 :: .ref b :: st) P := X_callV (M := mL_law) (MC := mX10_units) (As := [.int a0]) (T := TX10) (dL_law_148) calX10_units xw_617 xw_618 xw_619 rfl rfl hP hC hst (fun v P2 h => by obtain ⟨h1, hR⟩ := h; cases h1; exact k P2 hR) (fun q P2 h => by cases h.1)
theorem sL_law_148_t {b : Nat} {fs : List Value} {a0 : Int32} {q : Nat} {P1 : xH} (hst : (st.map fun v => v.category).sum ≤ 8) (hP : P.1 b = some (xO 8 fs)) (hC : xC w d mX10_units [.ref b, .int a0] P (xThr q P1)) (hq : Q (.threw q) P1) : X w mL_law (d + 1) Q 148 ls (.int a0 :: .ref b :: st) P := X_callV (M := mL_law) (MC := mX10_units) (As := [.int a0]) (T := TX10) (dL_law_148) calX10_units xw_617 xw_618 xw_619 rfl rfl hP hC hst (fun v P2 h => by cases h.1) (fun q2 P2 h => by obtain ⟨h1, rfl⟩ := h; cases h1; exact Xt_out rfl hq)
theorem dL_law_151 : decode cL_law 151 = .ok (.aload_n 2, 1) := by decide +kernel
theorem sL_law_151 {l0 l1 l3 l4 l5 l6 l7 : Option Value} {x : Nat} (k : X w mL_law d Q 152 [l0, l1, some (.ref x), l3, l4, l5, l6, l7] (.ref x :: st) P) : X w mL_law d Q 151 [l0, l1, some (.ref x), l3, l4, l5, l6, l7] st P := X_aload_n (M := mL_law) (dL_law_151) rfl rfl k
theorem dL_law_152 : decode cL_law 152 = .ok (.aload_n 0, 1) := by decide +kernel
theorem sL_law_152 {l1 l2 l3 l4 l5 l6 l7 : Option Value} {x : Nat} (k : X w mL_law d Q 153 [some (.ref x), l1, l2, l3, l4, l5, l6, l7] (.ref x :: st) P) : X w mL_law d Q 152 [some (.ref x), l1, l2, l3, l4, l5, l6, l7] st P := X_aload_n (M := mL_law) (dL_law_152) rfl rfl k
theorem dL_law_153 : decode cL_law 153 = .ok (.iload 4, 2) := by decide +kernel
theorem sL_law_153 {l0 l1 l2 l3 l5 l6 l7 : Option Value} {x : Int32} (k : X w mL_law d Q 155 [l0, l1, l2, l3, some (.int x), l5, l6, l7] (.int x :: st) P) : X w mL_law d Q 153 [l0, l1, l2, l3, some (.int x), l5, l6, l7] st P := X_iload (M := mL_law) (dL_law_153) rfl k
theorem dL_law_155 : decode cL_law 155 = .ok (.iconst 1, 1) := by decide +kernel
theorem sL_law_155 (k : X w mL_law d Q 156 ls (.int (1 : Int32) :: st) P) : X w mL_law d Q 155 ls st P := X_iconst (M := mL_law) (dL_law_155) (by decide) k
theorem dL_law_156 : decode cL_law 156 = .ok (.iadd, 1) := by decide +kernel
theorem sL_law_156 {x y : Int32} (k : X w mL_law d Q 157 ls (.int (x + y) :: st) P) : X w mL_law d Q 156 ls (.int y :: .int x :: st) P := X_iadd (M := mL_law) (dL_law_156) k
theorem dL_law_157 : decode cL_law 157 = .ok (.iaload, 1) := by decide +kernel
theorem sL_law_157 {a n : Nat} {f : Nat → Int32} {i : Int32} (hP : P.1 a = some (xA 0 n f)) (hi : vp_in i n) (k : X w mL_law d Q 158 ls (.int (f i.toNatClampNeg) :: st) P) : X w mL_law d Q 157 ls (.int i :: .ref a :: st) P := X_iald (M := mL_law) (dL_law_157) hP hi k
theorem dL_law_158 : decode cL_law 158 = .ok (.invokevirtual 67, 3) := by decide +kernel
theorem sL_law_158_g {b : Nat} {fs : List Value} {a0 : Int32} {Qc : Outcome → xH → Prop} (hst : (st.map fun v => v.category).sum ≤ 8) (hP : P.1 b = some (xO 9 fs)) (hC : xC w d mX11_units [.ref b, .int a0] P Qc) (kr : ∀ v P1, Qc (.returned v) P1 → X w mL_law (d + 1) Q 161 ls (v.toList ++ st) P1) (kt : ∀ q P1, Qc (.threw q) P1 → Xt w mL_law (d + 1) Q 158 ls st P1 q) : X w mL_law (d + 1) Q 158 ls (.int a0 :: .ref b :: st) P := X_callV (M := mL_law) (MC := mX11_units) (As := [.int a0]) (T := TX11) (dL_law_158) calX11_units xw_620 xw_621 xw_622 rfl rfl hP hC hst kr kt
theorem sL_law_158 {b : Nat} {fs : List Value} {a0 : Int32} {r : Int32} {P1 : xH} (hst : (st.map fun v => v.category).sum ≤ 8) (hP : P.1 b = some (xO 9 fs)) (hC : xC w d mX11_units [.ref b, .int a0] P (xRet (some (.int r)) P1)) (k : X w mL_law (d + 1) Q 161 ls (.int r :: st) P1) : X w mL_law (d + 1) Q 158 ls (.int a0 :: .ref b :: st) P := X_callV (M := mL_law) (MC := mX11_units) (As := [.int a0]) (T := TX11) (dL_law_158) calX11_units xw_620 xw_621 xw_622 rfl rfl hP hC hst (fun v P2 h => by obtain ⟨h1, rfl⟩ := h; cases h1; exact k) (fun q P2 h => by cases h.1)
theorem sL_law_158_r {b : Nat} {fs : List Value} {a0 : Int32} {r : Int32} {Rp : xH → Prop} (hst : (st.map fun v => v.category).sum ≤ 8) (hP : P.1 b = some (xO 9 fs)) (hC : xC w d mX11_units [.ref b, .int a0] P (xRl (some (.int r)) Rp)) (k : ∀ P1, Rp P1 → X w mL_law (d + 1) Q 161 ls (.int r :: st) P1) : X w mL_law (d + 1) Q 158 ls (.int a0 :: .ref b :: st) P := X_callV (M := mL_law) (MC := mX11_units) (As := [.int a0]) (T := TX11) (dL_law_158) calX11_units xw_620 xw_621 xw_622 rfl rfl hP hC hst (fun v P2 h => by obtain ⟨h1, hR⟩ := h; cases h1; exact k P2 hR) (fun q P2 h => by cases h.1)
theorem sL_law_158_t {b : Nat} {fs : List Value} {a0 : Int32} {q : Nat} {P1 : xH} (hst : (st.map fun v => v.category).sum ≤ 8) (hP : P.1 b = some (xO 9 fs)) (hC : xC w d mX11_units [.ref b, .int a0] P (xThr q P1)) (hq : Q (.threw q) P1) : X w mL_law (d + 1) Q 158 ls (.int a0 :: .ref b :: st) P := X_callV (M := mL_law) (MC := mX11_units) (As := [.int a0]) (T := TX11) (dL_law_158) calX11_units xw_620 xw_621 xw_622 rfl rfl hP hC hst (fun v P2 h => by cases h.1) (fun q2 P2 h => by obtain ⟨h1, rfl⟩ := h; cases h1; exact Xt_out rfl hq)
theorem dL_law_161 : decode cL_law 161 = .ok (.if_icmp .eq 928, 3) := by decide +kernel
theorem sL_law_161 {x y : Int32} (kt : x = y → X w mL_law d Q 1089 ls st P) (kf : ¬ x = y → X w mL_law d Q 164 ls st P) : X w mL_law d Q 161 ls (.int y :: .int x :: st) P := X_icmp_eq (M := mL_law) (dL_law_161) (by decide) kt kf
theorem dL_law_164 : decode cL_law 164 = .ok (.iconst 0, 1) := by decide +kernel
theorem sL_law_164 (k : X w mL_law d Q 165 ls (.int (0 : Int32) :: st) P) : X w mL_law d Q 164 ls st P := X_iconst (M := mL_law) (dL_law_164) (by decide) k
theorem dL_law_165 : decode cL_law 165 = .ok (.ireturn, 1) := by decide +kernel
theorem sL_law_165 {v : Int32} (hb : v = 0 ∨ v = 1) (hq : Q (.returned (some (.int v))) P) : X w mL_law d Q 165 ls [.int v] P := X_zret (M := mL_law) (ty := .boolean) (dL_law_165) rfl (xz_n hb) hq
theorem dL_law_166 : decode cL_law 166 = .ok (.aload_n 1, 1) := by decide +kernel
theorem sL_law_166 {l0 l2 l3 l4 l5 l6 l7 : Option Value} {x : Nat} (k : X w mL_law d Q 167 [l0, some (.ref x), l2, l3, l4, l5, l6, l7] (.ref x :: st) P) : X w mL_law d Q 166 [l0, some (.ref x), l2, l3, l4, l5, l6, l7] st P := X_aload_n (M := mL_law) (dL_law_166) rfl rfl k
theorem dL_law_167 : decode cL_law 167 = .ok (.invokevirtual 68, 3) := by decide +kernel
theorem sL_law_167_g {b : Nat} {fs : List Value}  {Qc : Outcome → xH → Prop} (hst : (st.map fun v => v.category).sum ≤ 8) (hP : P.1 b = some (xO 8 fs)) (hC : xC w d mX10_read [.ref b] P Qc) (kr : ∀ v P1, Qc (.returned v) P1 → X w mL_law (d + 1) Q 170 ls (v.toList ++ st) P1) (kt : ∀ q P1, Qc (.threw q) P1 → Xt w mL_law (d + 1) Q 167 ls st P1 q) : X w mL_law (d + 1) Q 167 ls (.ref b :: st) P := X_callV (M := mL_law) (MC := mX10_read) (As := []) (T := TX10) (dL_law_167) calX10_read xw_623 xw_624 xw_625 rfl rfl hP hC hst kr kt
theorem sL_law_167 {b : Nat} {fs : List Value}  {r : Int32} {P1 : xH} (hst : (st.map fun v => v.category).sum ≤ 8) (hP : P.1 b = some (xO 8 fs)) (hC : xC w d mX10_read [.ref b] P (xRet (some (.int r)) P1)) (k : X w mL_law (d + 1) Q 170 ls (.int r :: st) P1) : X w mL_law (d + 1) Q 167 ls (.ref b :: st) P := X_callV (M := mL_law) (MC := mX10_read) (As := []) (T := TX10) (dL_law_167) calX10_read xw_623 xw_624 xw_625 rfl rfl hP hC hst (fun v P2 h => by obtain ⟨h1, rfl⟩ := h; cases h1; exact k) (fun q P2 h => by cases h.1)
theorem sL_law_167_r {b : Nat} {fs : List Value}  {r : Int32} {Rp : xH → Prop} (hst : (st.map fun v => v.category).sum ≤ 8) (hP : P.1 b = some (xO 8 fs)) (hC : xC w d mX10_read [.ref b] P (xRl (some (.int r)) Rp)) (k : ∀ P1, Rp P1 → X w mL_law (d + 1) Q 170 ls (.int r :: st) P1) : X w mL_law (d + 1) Q 167 ls (.ref b :: st) P := X_callV (M := mL_law) (MC := mX10_read) (As := []) (T := TX10) (dL_law_167) calX10_read xw_623 xw_624 xw_625 rfl rfl hP hC hst (fun v P2 h => by obtain ⟨h1, hR⟩ := h; cases h1; exact k P2 hR) (fun q P2 h => by cases h.1)
theorem sL_law_167_t {b : Nat} {fs : List Value}  {q : Nat} {P1 : xH} (hst : (st.map fun v => v.category).sum ≤ 8) (hP : P.1 b = some (xO 8 fs)) (hC : xC w d mX10_read [.ref b] P (xThr q P1)) (hq : Q (.threw q) P1) : X w mL_law (d + 1) Q 167 ls (.ref b :: st) P := X_callV (M := mL_law) (MC := mX10_read) (As := []) (T := TX10) (dL_law_167) calX10_read xw_623 xw_624 xw_625 rfl rfl hP hC hst (fun v P2 h => by cases h.1) (fun q2 P2 h => by obtain ⟨h1, rfl⟩ := h; cases h1; exact Xt_out rfl hq)
theorem dL_law_170 : decode cL_law 170 = .ok (.aload_n 2, 1) := by decide +kernel
theorem sL_law_170 {l0 l1 l3 l4 l5 l6 l7 : Option Value} {x : Nat} (k : X w mL_law d Q 171 [l0, l1, some (.ref x), l3, l4, l5, l6, l7] (.ref x :: st) P) : X w mL_law d Q 170 [l0, l1, some (.ref x), l3, l4, l5, l6, l7] st P := X_aload_n (M := mL_law) (dL_law_170) rfl rfl k
theorem dL_law_171 : decode cL_law 171 = .ok (.invokevirtual 72, 3) := by decide +kernel
theorem sL_law_171_g {b : Nat} {fs : List Value}  {Qc : Outcome → xH → Prop} (hst : (st.map fun v => v.category).sum ≤ 8) (hP : P.1 b = some (xO 9 fs)) (hC : xC w d mX11_read [.ref b] P Qc) (kr : ∀ v P1, Qc (.returned v) P1 → X w mL_law (d + 1) Q 174 ls (v.toList ++ st) P1) (kt : ∀ q P1, Qc (.threw q) P1 → Xt w mL_law (d + 1) Q 171 ls st P1 q) : X w mL_law (d + 1) Q 171 ls (.ref b :: st) P := X_callV (M := mL_law) (MC := mX11_read) (As := []) (T := TX11) (dL_law_171) calX11_read xw_626 xw_627 xw_628 rfl rfl hP hC hst kr kt
theorem sL_law_171 {b : Nat} {fs : List Value}  {r : Int32} {P1 : xH} (hst : (st.map fun v => v.category).sum ≤ 8) (hP : P.1 b = some (xO 9 fs)) (hC : xC w d mX11_read [.ref b] P (xRet (some (.int r)) P1)) (k : X w mL_law (d + 1) Q 174 ls (.int r :: st) P1) : X w mL_law (d + 1) Q 171 ls (.ref b :: st) P := X_callV (M := mL_law) (MC := mX11_read) (As := []) (T := TX11) (dL_law_171) calX11_read xw_626 xw_627 xw_628 rfl rfl hP hC hst (fun v P2 h => by obtain ⟨h1, rfl⟩ := h; cases h1; exact k) (fun q P2 h => by cases h.1)
theorem sL_law_171_r {b : Nat} {fs : List Value}  {r : Int32} {Rp : xH → Prop} (hst : (st.map fun v => v.category).sum ≤ 8) (hP : P.1 b = some (xO 9 fs)) (hC : xC w d mX11_read [.ref b] P (xRl (some (.int r)) Rp)) (k : ∀ P1, Rp P1 → X w mL_law (d + 1) Q 174 ls (.int r :: st) P1) : X w mL_law (d + 1) Q 171 ls (.ref b :: st) P := X_callV (M := mL_law) (MC := mX11_read) (As := []) (T := TX11) (dL_law_171) calX11_read xw_626 xw_627 xw_628 rfl rfl hP hC hst (fun v P2 h => by obtain ⟨h1, hR⟩ := h; cases h1; exact k P2 hR) (fun q P2 h => by cases h.1)
theorem sL_law_171_t {b : Nat} {fs : List Value}  {q : Nat} {P1 : xH} (hst : (st.map fun v => v.category).sum ≤ 8) (hP : P.1 b = some (xO 9 fs)) (hC : xC w d mX11_read [.ref b] P (xThr q P1)) (hq : Q (.threw q) P1) : X w mL_law (d + 1) Q 171 ls (.ref b :: st) P := X_callV (M := mL_law) (MC := mX11_read) (As := []) (T := TX11) (dL_law_171) calX11_read xw_626 xw_627 xw_628 rfl rfl hP hC hst (fun v P2 h => by cases h.1) (fun q2 P2 h => by obtain ⟨h1, rfl⟩ := h; cases h1; exact Xt_out rfl hq)
theorem dL_law_174 : decode cL_law 174 = .ok (.if_icmp .eq 915, 3) := by decide +kernel
theorem sL_law_174 {x y : Int32} (kt : x = y → X w mL_law d Q 1089 ls st P) (kf : ¬ x = y → X w mL_law d Q 177 ls st P) : X w mL_law d Q 174 ls (.int y :: .int x :: st) P := X_icmp_eq (M := mL_law) (dL_law_174) (by decide) kt kf
theorem dL_law_177 : decode cL_law 177 = .ok (.iconst 0, 1) := by decide +kernel
theorem sL_law_177 (k : X w mL_law d Q 178 ls (.int (0 : Int32) :: st) P) : X w mL_law d Q 177 ls st P := X_iconst (M := mL_law) (dL_law_177) (by decide) k
theorem dL_law_178 : decode cL_law 178 = .ok (.ireturn, 1) := by decide +kernel
theorem sL_law_178 {v : Int32} (hb : v = 0 ∨ v = 1) (hq : Q (.returned (some (.int v))) P) : X w mL_law d Q 178 ls [.int v] P := X_zret (M := mL_law) (ty := .boolean) (dL_law_178) rfl (xz_n hb) hq
theorem dL_law_179 : decode cL_law 179 = .ok (.aload_n 1, 1) := by decide +kernel
theorem sL_law_179 {l0 l2 l3 l4 l5 l6 l7 : Option Value} {x : Nat} (k : X w mL_law d Q 180 [l0, some (.ref x), l2, l3, l4, l5, l6, l7] (.ref x :: st) P) : X w mL_law d Q 179 [l0, some (.ref x), l2, l3, l4, l5, l6, l7] st P := X_aload_n (M := mL_law) (dL_law_179) rfl rfl k
theorem dL_law_180 : decode cL_law 180 = .ok (.aload_n 0, 1) := by decide +kernel
theorem sL_law_180 {l1 l2 l3 l4 l5 l6 l7 : Option Value} {x : Nat} (k : X w mL_law d Q 181 [some (.ref x), l1, l2, l3, l4, l5, l6, l7] (.ref x :: st) P) : X w mL_law d Q 180 [some (.ref x), l1, l2, l3, l4, l5, l6, l7] st P := X_aload_n (M := mL_law) (dL_law_180) rfl rfl k
theorem dL_law_181 : decode cL_law 181 = .ok (.iload 4, 2) := by decide +kernel
theorem sL_law_181 {l0 l1 l2 l3 l5 l6 l7 : Option Value} {x : Int32} (k : X w mL_law d Q 183 [l0, l1, l2, l3, some (.int x), l5, l6, l7] (.int x :: st) P) : X w mL_law d Q 181 [l0, l1, l2, l3, some (.int x), l5, l6, l7] st P := X_iload (M := mL_law) (dL_law_181) rfl k
theorem dL_law_183 : decode cL_law 183 = .ok (.iconst 1, 1) := by decide +kernel
theorem sL_law_183 (k : X w mL_law d Q 184 ls (.int (1 : Int32) :: st) P) : X w mL_law d Q 183 ls st P := X_iconst (M := mL_law) (dL_law_183) (by decide) k
theorem dL_law_184 : decode cL_law 184 = .ok (.iadd, 1) := by decide +kernel
theorem sL_law_184 {x y : Int32} (k : X w mL_law d Q 185 ls (.int (x + y) :: st) P) : X w mL_law d Q 184 ls (.int y :: .int x :: st) P := X_iadd (M := mL_law) (dL_law_184) k
theorem dL_law_185 : decode cL_law 185 = .ok (.iaload, 1) := by decide +kernel
theorem sL_law_185 {a n : Nat} {f : Nat → Int32} {i : Int32} (hP : P.1 a = some (xA 0 n f)) (hi : vp_in i n) (k : X w mL_law d Q 186 ls (.int (f i.toNatClampNeg) :: st) P) : X w mL_law d Q 185 ls (.int i :: .ref a :: st) P := X_iald (M := mL_law) (dL_law_185) hP hi k
theorem dL_law_186 : decode cL_law 186 = .ok (.aload_n 0, 1) := by decide +kernel
theorem sL_law_186 {l1 l2 l3 l4 l5 l6 l7 : Option Value} {x : Nat} (k : X w mL_law d Q 187 [some (.ref x), l1, l2, l3, l4, l5, l6, l7] (.ref x :: st) P) : X w mL_law d Q 186 [some (.ref x), l1, l2, l3, l4, l5, l6, l7] st P := X_aload_n (M := mL_law) (dL_law_186) rfl rfl k
theorem dL_law_187 : decode cL_law 187 = .ok (.iload 4, 2) := by decide +kernel
theorem sL_law_187 {l0 l1 l2 l3 l5 l6 l7 : Option Value} {x : Int32} (k : X w mL_law d Q 189 [l0, l1, l2, l3, some (.int x), l5, l6, l7] (.int x :: st) P) : X w mL_law d Q 187 [l0, l1, l2, l3, some (.int x), l5, l6, l7] st P := X_iload (M := mL_law) (dL_law_187) rfl k
theorem dL_law_189 : decode cL_law 189 = .ok (.iconst 2, 1) := by decide +kernel
theorem sL_law_189 (k : X w mL_law d Q 190 ls (.int (2 : Int32) :: st) P) : X w mL_law d Q 189 ls st P := X_iconst (M := mL_law) (dL_law_189) (by decide) k
theorem dL_law_190 : decode cL_law 190 = .ok (.iadd, 1) := by decide +kernel
theorem sL_law_190 {x y : Int32} (k : X w mL_law d Q 191 ls (.int (x + y) :: st) P) : X w mL_law d Q 190 ls (.int y :: .int x :: st) P := X_iadd (M := mL_law) (dL_law_190) k
theorem dL_law_191 : decode cL_law 191 = .ok (.iaload, 1) := by decide +kernel
theorem sL_law_191 {a n : Nat} {f : Nat → Int32} {i : Int32} (hP : P.1 a = some (xA 0 n f)) (hi : vp_in i n) (k : X w mL_law d Q 192 ls (.int (f i.toNatClampNeg) :: st) P) : X w mL_law d Q 191 ls (.int i :: .ref a :: st) P := X_iald (M := mL_law) (dL_law_191) hP hi k
theorem dL_law_192 : decode cL_law 192 = .ok (.aload_n 3, 1) := by decide +kernel
theorem sL_law_192 {l0 l1 l2 l4 l5 l6 l7 : Option Value} {x : Nat} (k : X w mL_law d Q 193 [l0, l1, l2, some (.ref x), l4, l5, l6, l7] (.ref x :: st) P) : X w mL_law d Q 192 [l0, l1, l2, some (.ref x), l4, l5, l6, l7] st P := X_aload_n (M := mL_law) (dL_law_192) rfl rfl k
theorem dL_law_193 : decode cL_law 193 = .ok (.invokestatic 73, 3) := by decide +kernel
theorem sL_law_193_g {a0 : Nat} {a1 : Int32} {a2 : Int32} {a3 : Nat} {Qc : Outcome → xH → Prop} (hst : (st.map fun v => v.category).sum ≤ 8) (hC : xC w d mL_cell [.ref a0, .int a1, .int a2, .ref a3] P Qc) (kr : ∀ v P1, Qc (.returned v) P1 → X w mL_law (d + 1) Q 196 ls (v.toList ++ st) P1) (kt : ∀ q P1, Qc (.threw q) P1 → Xt w mL_law (d + 1) Q 193 ls st P1 q) : X w mL_law (d + 1) Q 193 ls (.ref a3 :: .int a2 :: .int a1 :: .ref a0 :: st) P := X_callS (M := mL_law) (MC := mL_cell) (As := [.ref a0, .int a1, .int a2, .ref a3]) (dL_law_193) calL_cell xw_629 xw_630 rfl hC hst kr kt
theorem sL_law_193 {a0 : Nat} {a1 : Int32} {a2 : Int32} {a3 : Nat} {r : Int32} {P1 : xH} (hst : (st.map fun v => v.category).sum ≤ 8) (hC : xC w d mL_cell [.ref a0, .int a1, .int a2, .ref a3] P (xRet (some (.int r)) P1)) (k : X w mL_law (d + 1) Q 196 ls (.int r :: st) P1) : X w mL_law (d + 1) Q 193 ls (.ref a3 :: .int a2 :: .int a1 :: .ref a0 :: st) P := X_callS (M := mL_law) (MC := mL_cell) (As := [.ref a0, .int a1, .int a2, .ref a3]) (dL_law_193) calL_cell xw_629 xw_630 rfl hC hst (fun v P2 h => by obtain ⟨h1, rfl⟩ := h; cases h1; exact k) (fun q P2 h => by cases h.1)
theorem sL_law_193_r {a0 : Nat} {a1 : Int32} {a2 : Int32} {a3 : Nat} {r : Int32} {Rp : xH → Prop} (hst : (st.map fun v => v.category).sum ≤ 8) (hC : xC w d mL_cell [.ref a0, .int a1, .int a2, .ref a3] P (xRl (some (.int r)) Rp)) (k : ∀ P1, Rp P1 → X w mL_law (d + 1) Q 196 ls (.int r :: st) P1) : X w mL_law (d + 1) Q 193 ls (.ref a3 :: .int a2 :: .int a1 :: .ref a0 :: st) P := X_callS (M := mL_law) (MC := mL_cell) (As := [.ref a0, .int a1, .int a2, .ref a3]) (dL_law_193) calL_cell xw_629 xw_630 rfl hC hst (fun v P2 h => by obtain ⟨h1, hR⟩ := h; cases h1; exact k P2 hR) (fun q P2 h => by cases h.1)
theorem sL_law_193_t {a0 : Nat} {a1 : Int32} {a2 : Int32} {a3 : Nat} {q : Nat} {P1 : xH} (hst : (st.map fun v => v.category).sum ≤ 8) (hC : xC w d mL_cell [.ref a0, .int a1, .int a2, .ref a3] P (xThr q P1)) (hq : Q (.threw q) P1) : X w mL_law (d + 1) Q 193 ls (.ref a3 :: .int a2 :: .int a1 :: .ref a0 :: st) P := X_callS (M := mL_law) (MC := mL_cell) (As := [.ref a0, .int a1, .int a2, .ref a3]) (dL_law_193) calL_cell xw_629 xw_630 rfl hC hst (fun v P2 h => by cases h.1) (fun q2 P2 h => by obtain ⟨h1, rfl⟩ := h; cases h1; exact Xt_out rfl hq)
theorem dL_law_196 : decode cL_law 196 = .ok (.istore 5, 2) := by decide +kernel
theorem sL_law_196 {l0 l1 l2 l3 l4 l5 l6 l7 : Option Value} {x : Int32} (hn : xnl l4 = true) (k : X w mL_law d Q 198 [l0, l1, l2, l3, l4, some (.int x), l6, l7] st P) : X w mL_law d Q 196 [l0, l1, l2, l3, l4, l5, l6, l7] (.int x :: st) P := X_istore (M := mL_law) (dL_law_196) (by decide) rfl (xnl_p (ls := [l0, l1, l2, l3, l4, l5, l6, l7]) (j := 4) rfl hn) k
theorem dL_law_198 : decode cL_law 198 = .ok (.aload_n 2, 1) := by decide +kernel
theorem sL_law_198 {l0 l1 l3 l4 l5 l6 l7 : Option Value} {x : Nat} (k : X w mL_law d Q 199 [l0, l1, some (.ref x), l3, l4, l5, l6, l7] (.ref x :: st) P) : X w mL_law d Q 198 [l0, l1, some (.ref x), l3, l4, l5, l6, l7] st P := X_aload_n (M := mL_law) (dL_law_198) rfl rfl k
theorem dL_law_199 : decode cL_law 199 = .ok (.aload_n 0, 1) := by decide +kernel
theorem sL_law_199 {l1 l2 l3 l4 l5 l6 l7 : Option Value} {x : Nat} (k : X w mL_law d Q 200 [some (.ref x), l1, l2, l3, l4, l5, l6, l7] (.ref x :: st) P) : X w mL_law d Q 199 [some (.ref x), l1, l2, l3, l4, l5, l6, l7] st P := X_aload_n (M := mL_law) (dL_law_199) rfl rfl k
theorem dL_law_200 : decode cL_law 200 = .ok (.iload 4, 2) := by decide +kernel
theorem sL_law_200 {l0 l1 l2 l3 l5 l6 l7 : Option Value} {x : Int32} (k : X w mL_law d Q 202 [l0, l1, l2, l3, some (.int x), l5, l6, l7] (.int x :: st) P) : X w mL_law d Q 200 [l0, l1, l2, l3, some (.int x), l5, l6, l7] st P := X_iload (M := mL_law) (dL_law_200) rfl k
theorem dL_law_202 : decode cL_law 202 = .ok (.iconst 1, 1) := by decide +kernel
theorem sL_law_202 (k : X w mL_law d Q 203 ls (.int (1 : Int32) :: st) P) : X w mL_law d Q 202 ls st P := X_iconst (M := mL_law) (dL_law_202) (by decide) k
theorem dL_law_203 : decode cL_law 203 = .ok (.iadd, 1) := by decide +kernel
theorem sL_law_203 {x y : Int32} (k : X w mL_law d Q 204 ls (.int (x + y) :: st) P) : X w mL_law d Q 203 ls (.int y :: .int x :: st) P := X_iadd (M := mL_law) (dL_law_203) k
theorem dL_law_204 : decode cL_law 204 = .ok (.iaload, 1) := by decide +kernel
theorem sL_law_204 {a n : Nat} {f : Nat → Int32} {i : Int32} (hP : P.1 a = some (xA 0 n f)) (hi : vp_in i n) (k : X w mL_law d Q 205 ls (.int (f i.toNatClampNeg) :: st) P) : X w mL_law d Q 204 ls (.int i :: .ref a :: st) P := X_iald (M := mL_law) (dL_law_204) hP hi k
theorem dL_law_205 : decode cL_law 205 = .ok (.aload_n 0, 1) := by decide +kernel
theorem sL_law_205 {l1 l2 l3 l4 l5 l6 l7 : Option Value} {x : Nat} (k : X w mL_law d Q 206 [some (.ref x), l1, l2, l3, l4, l5, l6, l7] (.ref x :: st) P) : X w mL_law d Q 205 [some (.ref x), l1, l2, l3, l4, l5, l6, l7] st P := X_aload_n (M := mL_law) (dL_law_205) rfl rfl k
theorem dL_law_206 : decode cL_law 206 = .ok (.iload 4, 2) := by decide +kernel
theorem sL_law_206 {l0 l1 l2 l3 l5 l6 l7 : Option Value} {x : Int32} (k : X w mL_law d Q 208 [l0, l1, l2, l3, some (.int x), l5, l6, l7] (.int x :: st) P) : X w mL_law d Q 206 [l0, l1, l2, l3, some (.int x), l5, l6, l7] st P := X_iload (M := mL_law) (dL_law_206) rfl k
theorem dL_law_208 : decode cL_law 208 = .ok (.iconst 2, 1) := by decide +kernel
theorem sL_law_208 (k : X w mL_law d Q 209 ls (.int (2 : Int32) :: st) P) : X w mL_law d Q 208 ls st P := X_iconst (M := mL_law) (dL_law_208) (by decide) k
theorem dL_law_209 : decode cL_law 209 = .ok (.iadd, 1) := by decide +kernel
theorem sL_law_209 {x y : Int32} (k : X w mL_law d Q 210 ls (.int (x + y) :: st) P) : X w mL_law d Q 209 ls (.int y :: .int x :: st) P := X_iadd (M := mL_law) (dL_law_209) k
theorem dL_law_210 : decode cL_law 210 = .ok (.iaload, 1) := by decide +kernel
theorem sL_law_210 {a n : Nat} {f : Nat → Int32} {i : Int32} (hP : P.1 a = some (xA 0 n f)) (hi : vp_in i n) (k : X w mL_law d Q 211 ls (.int (f i.toNatClampNeg) :: st) P) : X w mL_law d Q 210 ls (.int i :: .ref a :: st) P := X_iald (M := mL_law) (dL_law_210) hP hi k
theorem dL_law_211 : decode cL_law 211 = .ok (.invokevirtual 78, 3) := by decide +kernel
theorem sL_law_211_g {b : Nat} {fs : List Value} {a0 : Int32} {a1 : Int32} {Qc : Outcome → xH → Prop} (hst : (st.map fun v => v.category).sum ≤ 8) (hP : P.1 b = some (xO 9 fs)) (hC : xC w d mX11_cell [.ref b, .int a0, .int a1] P Qc) (kr : ∀ v P1, Qc (.returned v) P1 → X w mL_law (d + 1) Q 214 ls (v.toList ++ st) P1) (kt : ∀ q P1, Qc (.threw q) P1 → Xt w mL_law (d + 1) Q 211 ls st P1 q) : X w mL_law (d + 1) Q 211 ls (.int a1 :: .int a0 :: .ref b :: st) P := X_callV (M := mL_law) (MC := mX11_cell) (As := [.int a0, .int a1]) (T := TX11) (dL_law_211) calX11_cell xw_631 xw_632 xw_633 rfl rfl hP hC hst kr kt
theorem sL_law_211 {b : Nat} {fs : List Value} {a0 : Int32} {a1 : Int32} {r : Int32} {P1 : xH} (hst : (st.map fun v => v.category).sum ≤ 8) (hP : P.1 b = some (xO 9 fs)) (hC : xC w d mX11_cell [.ref b, .int a0, .int a1] P (xRet (some (.int r)) P1)) (k : X w mL_law (d + 1) Q 214 ls (.int r :: st) P1) : X w mL_law (d + 1) Q 211 ls (.int a1 :: .int a0 :: .ref b :: st) P := X_callV (M := mL_law) (MC := mX11_cell) (As := [.int a0, .int a1]) (T := TX11) (dL_law_211) calX11_cell xw_631 xw_632 xw_633 rfl rfl hP hC hst (fun v P2 h => by obtain ⟨h1, rfl⟩ := h; cases h1; exact k) (fun q P2 h => by cases h.1)
theorem sL_law_211_r {b : Nat} {fs : List Value} {a0 : Int32} {a1 : Int32} {r : Int32} {Rp : xH → Prop} (hst : (st.map fun v => v.category).sum ≤ 8) (hP : P.1 b = some (xO 9 fs)) (hC : xC w d mX11_cell [.ref b, .int a0, .int a1] P (xRl (some (.int r)) Rp)) (k : ∀ P1, Rp P1 → X w mL_law (d + 1) Q 214 ls (.int r :: st) P1) : X w mL_law (d + 1) Q 211 ls (.int a1 :: .int a0 :: .ref b :: st) P := X_callV (M := mL_law) (MC := mX11_cell) (As := [.int a0, .int a1]) (T := TX11) (dL_law_211) calX11_cell xw_631 xw_632 xw_633 rfl rfl hP hC hst (fun v P2 h => by obtain ⟨h1, hR⟩ := h; cases h1; exact k P2 hR) (fun q P2 h => by cases h.1)
theorem sL_law_211_t {b : Nat} {fs : List Value} {a0 : Int32} {a1 : Int32} {q : Nat} {P1 : xH} (hst : (st.map fun v => v.category).sum ≤ 8) (hP : P.1 b = some (xO 9 fs)) (hC : xC w d mX11_cell [.ref b, .int a0, .int a1] P (xThr q P1)) (hq : Q (.threw q) P1) : X w mL_law (d + 1) Q 211 ls (.int a1 :: .int a0 :: .ref b :: st) P := X_callV (M := mL_law) (MC := mX11_cell) (As := [.int a0, .int a1]) (T := TX11) (dL_law_211) calX11_cell xw_631 xw_632 xw_633 rfl rfl hP hC hst (fun v P2 h => by cases h.1) (fun q2 P2 h => by obtain ⟨h1, rfl⟩ := h; cases h1; exact Xt_out rfl hq)
theorem dL_law_214 : decode cL_law 214 = .ok (.istore 6, 2) := by decide +kernel
theorem sL_law_214 {l0 l1 l2 l3 l4 l5 l6 l7 : Option Value} {x : Int32} (hn : xnl l5 = true) (k : X w mL_law d Q 216 [l0, l1, l2, l3, l4, l5, some (.int x), l7] st P) : X w mL_law d Q 214 [l0, l1, l2, l3, l4, l5, l6, l7] (.int x :: st) P := X_istore (M := mL_law) (dL_law_214) (by decide) rfl (xnl_p (ls := [l0, l1, l2, l3, l4, l5, l6, l7]) (j := 5) rfl hn) k
theorem dL_law_216 : decode cL_law 216 = .ok (.aload_n 2, 1) := by decide +kernel
theorem sL_law_216 {l0 l1 l3 l4 l5 l6 l7 : Option Value} {x : Nat} (k : X w mL_law d Q 217 [l0, l1, some (.ref x), l3, l4, l5, l6, l7] (.ref x :: st) P) : X w mL_law d Q 216 [l0, l1, some (.ref x), l3, l4, l5, l6, l7] st P := X_aload_n (M := mL_law) (dL_law_216) rfl rfl k
theorem dL_law_217 : decode cL_law 217 = .ok (.invokevirtual 79, 3) := by decide +kernel
theorem sL_law_217_g {b : Nat} {fs : List Value}  {Qc : Outcome → xH → Prop} (hst : (st.map fun v => v.category).sum ≤ 8) (hP : P.1 b = some (xO 9 fs)) (hC : xC w d mX11_thrown [.ref b] P Qc) (kr : ∀ v P1, Qc (.returned v) P1 → X w mL_law (d + 1) Q 220 ls (v.toList ++ st) P1) (kt : ∀ q P1, Qc (.threw q) P1 → Xt w mL_law (d + 1) Q 217 ls st P1 q) : X w mL_law (d + 1) Q 217 ls (.ref b :: st) P := X_callV (M := mL_law) (MC := mX11_thrown) (As := []) (T := TX11) (dL_law_217) calX11_thrown xw_634 xw_635 xw_636 rfl rfl hP hC hst kr kt
theorem sL_law_217 {b : Nat} {fs : List Value}  {r : Int32} {P1 : xH} (hst : (st.map fun v => v.category).sum ≤ 8) (hP : P.1 b = some (xO 9 fs)) (hC : xC w d mX11_thrown [.ref b] P (xRet (some (.int r)) P1)) (k : X w mL_law (d + 1) Q 220 ls (.int r :: st) P1) : X w mL_law (d + 1) Q 217 ls (.ref b :: st) P := X_callV (M := mL_law) (MC := mX11_thrown) (As := []) (T := TX11) (dL_law_217) calX11_thrown xw_634 xw_635 xw_636 rfl rfl hP hC hst (fun v P2 h => by obtain ⟨h1, rfl⟩ := h; cases h1; exact k) (fun q P2 h => by cases h.1)
theorem sL_law_217_r {b : Nat} {fs : List Value}  {r : Int32} {Rp : xH → Prop} (hst : (st.map fun v => v.category).sum ≤ 8) (hP : P.1 b = some (xO 9 fs)) (hC : xC w d mX11_thrown [.ref b] P (xRl (some (.int r)) Rp)) (k : ∀ P1, Rp P1 → X w mL_law (d + 1) Q 220 ls (.int r :: st) P1) : X w mL_law (d + 1) Q 217 ls (.ref b :: st) P := X_callV (M := mL_law) (MC := mX11_thrown) (As := []) (T := TX11) (dL_law_217) calX11_thrown xw_634 xw_635 xw_636 rfl rfl hP hC hst (fun v P2 h => by obtain ⟨h1, hR⟩ := h; cases h1; exact k P2 hR) (fun q P2 h => by cases h.1)
theorem sL_law_217_t {b : Nat} {fs : List Value}  {q : Nat} {P1 : xH} (hst : (st.map fun v => v.category).sum ≤ 8) (hP : P.1 b = some (xO 9 fs)) (hC : xC w d mX11_thrown [.ref b] P (xThr q P1)) (hq : Q (.threw q) P1) : X w mL_law (d + 1) Q 217 ls (.ref b :: st) P := X_callV (M := mL_law) (MC := mX11_thrown) (As := []) (T := TX11) (dL_law_217) calX11_thrown xw_634 xw_635 xw_636 rfl rfl hP hC hst (fun v P2 h => by cases h.1) (fun q2 P2 h => by obtain ⟨h1, rfl⟩ := h; cases h1; exact Xt_out rfl hq)
theorem dL_law_220 : decode cL_law 220 = .ok (.iload 5, 2) := by decide +kernel
theorem sL_law_220 {l0 l1 l2 l3 l4 l6 l7 : Option Value} {x : Int32} (k : X w mL_law d Q 222 [l0, l1, l2, l3, l4, some (.int x), l6, l7] (.int x :: st) P) : X w mL_law d Q 220 [l0, l1, l2, l3, l4, some (.int x), l6, l7] st P := X_iload (M := mL_law) (dL_law_220) rfl k
theorem dL_law_222 : decode cL_law 222 = .ok (.if_icmp .eq 5, 3) := by decide +kernel
theorem sL_law_222 {x y : Int32} (kt : x = y → X w mL_law d Q 227 ls st P) (kf : ¬ x = y → X w mL_law d Q 225 ls st P) : X w mL_law d Q 222 ls (.int y :: .int x :: st) P := X_icmp_eq (M := mL_law) (dL_law_222) (by decide) kt kf
theorem dL_law_225 : decode cL_law 225 = .ok (.iconst 0, 1) := by decide +kernel
theorem sL_law_225 (k : X w mL_law d Q 226 ls (.int (0 : Int32) :: st) P) : X w mL_law d Q 225 ls st P := X_iconst (M := mL_law) (dL_law_225) (by decide) k
theorem dL_law_226 : decode cL_law 226 = .ok (.ireturn, 1) := by decide +kernel
theorem sL_law_226 {v : Int32} (hb : v = 0 ∨ v = 1) (hq : Q (.returned (some (.int v))) P) : X w mL_law d Q 226 ls [.int v] P := X_zret (M := mL_law) (ty := .boolean) (dL_law_226) rfl (xz_n hb) hq
theorem dL_law_227 : decode cL_law 227 = .ok (.iload 5, 2) := by decide +kernel
theorem sL_law_227 {l0 l1 l2 l3 l4 l6 l7 : Option Value} {x : Int32} (k : X w mL_law d Q 229 [l0, l1, l2, l3, l4, some (.int x), l6, l7] (.int x :: st) P) : X w mL_law d Q 227 [l0, l1, l2, l3, l4, some (.int x), l6, l7] st P := X_iload (M := mL_law) (dL_law_227) rfl k
theorem dL_law_229 : decode cL_law 229 = .ok (.ifCond .ne 15, 3) := by decide +kernel
theorem sL_law_229 {x : Int32} (kt : ¬ x = 0 → X w mL_law d Q 244 ls st P) (kf : x = 0 → X w mL_law d Q 232 ls st P) : X w mL_law d Q 229 ls (.int x :: st) P := X_if_ne (M := mL_law) (dL_law_229) (by decide) kt kf
theorem dL_law_232 : decode cL_law 232 = .ok (.aload_n 3, 1) := by decide +kernel
theorem sL_law_232 {l0 l1 l2 l4 l5 l6 l7 : Option Value} {x : Nat} (k : X w mL_law d Q 233 [l0, l1, l2, some (.ref x), l4, l5, l6, l7] (.ref x :: st) P) : X w mL_law d Q 232 [l0, l1, l2, some (.ref x), l4, l5, l6, l7] st P := X_aload_n (M := mL_law) (dL_law_232) rfl rfl k
theorem dL_law_233 : decode cL_law 233 = .ok (.iconst 0, 1) := by decide +kernel
theorem sL_law_233 (k : X w mL_law d Q 234 ls (.int (0 : Int32) :: st) P) : X w mL_law d Q 233 ls st P := X_iconst (M := mL_law) (dL_law_233) (by decide) k
theorem dL_law_234 : decode cL_law 234 = .ok (.laload, 1) := by decide +kernel
theorem sL_law_234 {a n : Nat} {f : Nat → Int64} {i : Int32} (hP : P.1 a = some (xJ n f)) (hi : vp_in i n) (k : X w mL_law d Q 235 ls (.long (f i.toNatClampNeg) :: st) P) : X w mL_law d Q 234 ls (.int i :: .ref a :: st) P := X_lald (M := mL_law) (dL_law_234) hP hi k
theorem dL_law_235 : decode cL_law 235 = .ok (.iload 6, 2) := by decide +kernel
theorem sL_law_235 {l0 l1 l2 l3 l4 l5 l7 : Option Value} {x : Int32} (k : X w mL_law d Q 237 [l0, l1, l2, l3, l4, l5, some (.int x), l7] (.int x :: st) P) : X w mL_law d Q 235 [l0, l1, l2, l3, l4, l5, some (.int x), l7] st P := X_iload (M := mL_law) (dL_law_235) rfl k
theorem dL_law_237 : decode cL_law 237 = .ok (.i2l, 1) := by decide +kernel
theorem sL_law_237 {x : Int32} (k : X w mL_law d Q 238 ls (.long x.toInt64 :: st) P) : X w mL_law d Q 237 ls (.int x :: st) P := X_i2l (M := mL_law) (dL_law_237) k
theorem dL_law_238 : decode cL_law 238 = .ok (.lcmp, 1) := by decide +kernel
theorem sL_law_238 {x y : Int64} (k : X w mL_law d Q 239 ls (.int (lg_cmp x y) :: st) P) : X w mL_law d Q 238 ls (.long y :: .long x :: st) P := X_lcmp (M := mL_law) (dL_law_238) k
theorem dL_law_239 : decode cL_law 239 = .ok (.ifCond .eq 5, 3) := by decide +kernel
theorem sL_law_239 {x : Int32} (kt : x = 0 → X w mL_law d Q 244 ls st P) (kf : ¬ x = 0 → X w mL_law d Q 242 ls st P) : X w mL_law d Q 239 ls (.int x :: st) P := X_if_eq (M := mL_law) (dL_law_239) (by decide) kt kf
theorem dL_law_242 : decode cL_law 242 = .ok (.iconst 0, 1) := by decide +kernel
theorem sL_law_242 (k : X w mL_law d Q 243 ls (.int (0 : Int32) :: st) P) : X w mL_law d Q 242 ls st P := X_iconst (M := mL_law) (dL_law_242) (by decide) k
theorem dL_law_243 : decode cL_law 243 = .ok (.ireturn, 1) := by decide +kernel
theorem sL_law_243 {v : Int32} (hb : v = 0 ∨ v = 1) (hq : Q (.returned (some (.int v))) P) : X w mL_law d Q 243 ls [.int v] P := X_zret (M := mL_law) (ty := .boolean) (dL_law_243) rfl (xz_n hb) hq
theorem dL_law_244 : decode cL_law 244 = .ok (.goto 845, 3) := by decide +kernel
theorem sL_law_244 (k : X w mL_law d Q 1089 ls st P) : X w mL_law d Q 244 ls st P := X_goto (M := mL_law) (dL_law_244) (by decide) k
theorem dL_law_247 : decode cL_law 247 = .ok (.aload_n 1, 1) := by decide +kernel
theorem sL_law_247 {l0 l2 l3 l4 l5 l6 l7 : Option Value} {x : Nat} (k : X w mL_law d Q 248 [l0, some (.ref x), l2, l3, l4, l5, l6, l7] (.ref x :: st) P) : X w mL_law d Q 247 [l0, some (.ref x), l2, l3, l4, l5, l6, l7] st P := X_aload_n (M := mL_law) (dL_law_247) rfl rfl k
theorem dL_law_248 : decode cL_law 248 = .ok (.aload_n 0, 1) := by decide +kernel
theorem sL_law_248 {l1 l2 l3 l4 l5 l6 l7 : Option Value} {x : Nat} (k : X w mL_law d Q 249 [some (.ref x), l1, l2, l3, l4, l5, l6, l7] (.ref x :: st) P) : X w mL_law d Q 248 [some (.ref x), l1, l2, l3, l4, l5, l6, l7] st P := X_aload_n (M := mL_law) (dL_law_248) rfl rfl k
theorem dL_law_249 : decode cL_law 249 = .ok (.iload 4, 2) := by decide +kernel
theorem sL_law_249 {l0 l1 l2 l3 l5 l6 l7 : Option Value} {x : Int32} (k : X w mL_law d Q 251 [l0, l1, l2, l3, some (.int x), l5, l6, l7] (.int x :: st) P) : X w mL_law d Q 249 [l0, l1, l2, l3, some (.int x), l5, l6, l7] st P := X_iload (M := mL_law) (dL_law_249) rfl k
theorem dL_law_251 : decode cL_law 251 = .ok (.iconst 1, 1) := by decide +kernel
theorem sL_law_251 (k : X w mL_law d Q 252 ls (.int (1 : Int32) :: st) P) : X w mL_law d Q 251 ls st P := X_iconst (M := mL_law) (dL_law_251) (by decide) k
theorem dL_law_252 : decode cL_law 252 = .ok (.iadd, 1) := by decide +kernel
theorem sL_law_252 {x y : Int32} (k : X w mL_law d Q 253 ls (.int (x + y) :: st) P) : X w mL_law d Q 252 ls (.int y :: .int x :: st) P := X_iadd (M := mL_law) (dL_law_252) k
theorem dL_law_253 : decode cL_law 253 = .ok (.iaload, 1) := by decide +kernel
theorem sL_law_253 {a n : Nat} {f : Nat → Int32} {i : Int32} (hP : P.1 a = some (xA 0 n f)) (hi : vp_in i n) (k : X w mL_law d Q 254 ls (.int (f i.toNatClampNeg) :: st) P) : X w mL_law d Q 253 ls (.int i :: .ref a :: st) P := X_iald (M := mL_law) (dL_law_253) hP hi k
theorem dL_law_254 : decode cL_law 254 = .ok (.aload_n 0, 1) := by decide +kernel
theorem sL_law_254 {l1 l2 l3 l4 l5 l6 l7 : Option Value} {x : Nat} (k : X w mL_law d Q 255 [some (.ref x), l1, l2, l3, l4, l5, l6, l7] (.ref x :: st) P) : X w mL_law d Q 254 [some (.ref x), l1, l2, l3, l4, l5, l6, l7] st P := X_aload_n (M := mL_law) (dL_law_254) rfl rfl k
theorem dL_law_255 : decode cL_law 255 = .ok (.iload 4, 2) := by decide +kernel
theorem sL_law_255 {l0 l1 l2 l3 l5 l6 l7 : Option Value} {x : Int32} (k : X w mL_law d Q 257 [l0, l1, l2, l3, some (.int x), l5, l6, l7] (.int x :: st) P) : X w mL_law d Q 255 [l0, l1, l2, l3, some (.int x), l5, l6, l7] st P := X_iload (M := mL_law) (dL_law_255) rfl k
theorem dL_law_257 : decode cL_law 257 = .ok (.iconst 2, 1) := by decide +kernel
theorem sL_law_257 (k : X w mL_law d Q 258 ls (.int (2 : Int32) :: st) P) : X w mL_law d Q 257 ls st P := X_iconst (M := mL_law) (dL_law_257) (by decide) k
theorem dL_law_258 : decode cL_law 258 = .ok (.iadd, 1) := by decide +kernel
theorem sL_law_258 {x y : Int32} (k : X w mL_law d Q 259 ls (.int (x + y) :: st) P) : X w mL_law d Q 258 ls (.int y :: .int x :: st) P := X_iadd (M := mL_law) (dL_law_258) k
theorem dL_law_259 : decode cL_law 259 = .ok (.iaload, 1) := by decide +kernel
theorem sL_law_259 {a n : Nat} {f : Nat → Int32} {i : Int32} (hP : P.1 a = some (xA 0 n f)) (hi : vp_in i n) (k : X w mL_law d Q 260 ls (.int (f i.toNatClampNeg) :: st) P) : X w mL_law d Q 259 ls (.int i :: .ref a :: st) P := X_iald (M := mL_law) (dL_law_259) hP hi k
theorem dL_law_260 : decode cL_law 260 = .ok (.aload_n 3, 1) := by decide +kernel
theorem sL_law_260 {l0 l1 l2 l4 l5 l6 l7 : Option Value} {x : Nat} (k : X w mL_law d Q 261 [l0, l1, l2, some (.ref x), l4, l5, l6, l7] (.ref x :: st) P) : X w mL_law d Q 260 [l0, l1, l2, some (.ref x), l4, l5, l6, l7] st P := X_aload_n (M := mL_law) (dL_law_260) rfl rfl k
theorem dL_law_261 : decode cL_law 261 = .ok (.invokestatic 82, 3) := by decide +kernel
theorem sL_law_261_g {a0 : Nat} {a1 : Int32} {a2 : Int32} {a3 : Nat} {Qc : Outcome → xH → Prop} (hst : (st.map fun v => v.category).sum ≤ 8) (hC : xC w d mL_truth [.ref a0, .int a1, .int a2, .ref a3] P Qc) (kr : ∀ v P1, Qc (.returned v) P1 → X w mL_law (d + 1) Q 264 ls (v.toList ++ st) P1) (kt : ∀ q P1, Qc (.threw q) P1 → Xt w mL_law (d + 1) Q 261 ls st P1 q) : X w mL_law (d + 1) Q 261 ls (.ref a3 :: .int a2 :: .int a1 :: .ref a0 :: st) P := X_callS (M := mL_law) (MC := mL_truth) (As := [.ref a0, .int a1, .int a2, .ref a3]) (dL_law_261) calL_truth xw_637 xw_638 rfl hC hst kr kt
theorem sL_law_261 {a0 : Nat} {a1 : Int32} {a2 : Int32} {a3 : Nat} {r : Int32} {P1 : xH} (hst : (st.map fun v => v.category).sum ≤ 8) (hC : xC w d mL_truth [.ref a0, .int a1, .int a2, .ref a3] P (xRet (some (.int r)) P1)) (k : X w mL_law (d + 1) Q 264 ls (.int r :: st) P1) : X w mL_law (d + 1) Q 261 ls (.ref a3 :: .int a2 :: .int a1 :: .ref a0 :: st) P := X_callS (M := mL_law) (MC := mL_truth) (As := [.ref a0, .int a1, .int a2, .ref a3]) (dL_law_261) calL_truth xw_637 xw_638 rfl hC hst (fun v P2 h => by obtain ⟨h1, rfl⟩ := h; cases h1; exact k) (fun q P2 h => by cases h.1)
theorem sL_law_261_r {a0 : Nat} {a1 : Int32} {a2 : Int32} {a3 : Nat} {r : Int32} {Rp : xH → Prop} (hst : (st.map fun v => v.category).sum ≤ 8) (hC : xC w d mL_truth [.ref a0, .int a1, .int a2, .ref a3] P (xRl (some (.int r)) Rp)) (k : ∀ P1, Rp P1 → X w mL_law (d + 1) Q 264 ls (.int r :: st) P1) : X w mL_law (d + 1) Q 261 ls (.ref a3 :: .int a2 :: .int a1 :: .ref a0 :: st) P := X_callS (M := mL_law) (MC := mL_truth) (As := [.ref a0, .int a1, .int a2, .ref a3]) (dL_law_261) calL_truth xw_637 xw_638 rfl hC hst (fun v P2 h => by obtain ⟨h1, hR⟩ := h; cases h1; exact k P2 hR) (fun q P2 h => by cases h.1)
theorem sL_law_261_t {a0 : Nat} {a1 : Int32} {a2 : Int32} {a3 : Nat} {q : Nat} {P1 : xH} (hst : (st.map fun v => v.category).sum ≤ 8) (hC : xC w d mL_truth [.ref a0, .int a1, .int a2, .ref a3] P (xThr q P1)) (hq : Q (.threw q) P1) : X w mL_law (d + 1) Q 261 ls (.ref a3 :: .int a2 :: .int a1 :: .ref a0 :: st) P := X_callS (M := mL_law) (MC := mL_truth) (As := [.ref a0, .int a1, .int a2, .ref a3]) (dL_law_261) calL_truth xw_637 xw_638 rfl hC hst (fun v P2 h => by cases h.1) (fun q2 P2 h => by obtain ⟨h1, rfl⟩ := h; cases h1; exact Xt_out rfl hq)
theorem dL_law_264 : decode cL_law 264 = .ok (.istore 5, 2) := by decide +kernel
theorem sL_law_264 {l0 l1 l2 l3 l4 l5 l6 l7 : Option Value} {x : Int32} (hn : xnl l4 = true) (k : X w mL_law d Q 266 [l0, l1, l2, l3, l4, some (.int x), l6, l7] st P) : X w mL_law d Q 264 [l0, l1, l2, l3, l4, l5, l6, l7] (.int x :: st) P := X_istore (M := mL_law) (dL_law_264) (by decide) rfl (xnl_p (ls := [l0, l1, l2, l3, l4, l5, l6, l7]) (j := 4) rfl hn) k
theorem dL_law_266 : decode cL_law 266 = .ok (.aload_n 2, 1) := by decide +kernel
theorem sL_law_266 {l0 l1 l3 l4 l5 l6 l7 : Option Value} {x : Nat} (k : X w mL_law d Q 267 [l0, l1, some (.ref x), l3, l4, l5, l6, l7] (.ref x :: st) P) : X w mL_law d Q 266 [l0, l1, some (.ref x), l3, l4, l5, l6, l7] st P := X_aload_n (M := mL_law) (dL_law_266) rfl rfl k
theorem dL_law_267 : decode cL_law 267 = .ok (.aload_n 0, 1) := by decide +kernel
theorem sL_law_267 {l1 l2 l3 l4 l5 l6 l7 : Option Value} {x : Nat} (k : X w mL_law d Q 268 [some (.ref x), l1, l2, l3, l4, l5, l6, l7] (.ref x :: st) P) : X w mL_law d Q 267 [some (.ref x), l1, l2, l3, l4, l5, l6, l7] st P := X_aload_n (M := mL_law) (dL_law_267) rfl rfl k
theorem dL_law_268 : decode cL_law 268 = .ok (.iload 4, 2) := by decide +kernel
theorem sL_law_268 {l0 l1 l2 l3 l5 l6 l7 : Option Value} {x : Int32} (k : X w mL_law d Q 270 [l0, l1, l2, l3, some (.int x), l5, l6, l7] (.int x :: st) P) : X w mL_law d Q 268 [l0, l1, l2, l3, some (.int x), l5, l6, l7] st P := X_iload (M := mL_law) (dL_law_268) rfl k
theorem dL_law_270 : decode cL_law 270 = .ok (.iconst 1, 1) := by decide +kernel
theorem sL_law_270 (k : X w mL_law d Q 271 ls (.int (1 : Int32) :: st) P) : X w mL_law d Q 270 ls st P := X_iconst (M := mL_law) (dL_law_270) (by decide) k
theorem dL_law_271 : decode cL_law 271 = .ok (.iadd, 1) := by decide +kernel
theorem sL_law_271 {x y : Int32} (k : X w mL_law d Q 272 ls (.int (x + y) :: st) P) : X w mL_law d Q 271 ls (.int y :: .int x :: st) P := X_iadd (M := mL_law) (dL_law_271) k
theorem dL_law_272 : decode cL_law 272 = .ok (.iaload, 1) := by decide +kernel
theorem sL_law_272 {a n : Nat} {f : Nat → Int32} {i : Int32} (hP : P.1 a = some (xA 0 n f)) (hi : vp_in i n) (k : X w mL_law d Q 273 ls (.int (f i.toNatClampNeg) :: st) P) : X w mL_law d Q 272 ls (.int i :: .ref a :: st) P := X_iald (M := mL_law) (dL_law_272) hP hi k
theorem dL_law_273 : decode cL_law 273 = .ok (.aload_n 0, 1) := by decide +kernel
theorem sL_law_273 {l1 l2 l3 l4 l5 l6 l7 : Option Value} {x : Nat} (k : X w mL_law d Q 274 [some (.ref x), l1, l2, l3, l4, l5, l6, l7] (.ref x :: st) P) : X w mL_law d Q 273 [some (.ref x), l1, l2, l3, l4, l5, l6, l7] st P := X_aload_n (M := mL_law) (dL_law_273) rfl rfl k
theorem dL_law_274 : decode cL_law 274 = .ok (.iload 4, 2) := by decide +kernel
theorem sL_law_274 {l0 l1 l2 l3 l5 l6 l7 : Option Value} {x : Int32} (k : X w mL_law d Q 276 [l0, l1, l2, l3, some (.int x), l5, l6, l7] (.int x :: st) P) : X w mL_law d Q 274 [l0, l1, l2, l3, some (.int x), l5, l6, l7] st P := X_iload (M := mL_law) (dL_law_274) rfl k
theorem dL_law_276 : decode cL_law 276 = .ok (.iconst 2, 1) := by decide +kernel
theorem sL_law_276 (k : X w mL_law d Q 277 ls (.int (2 : Int32) :: st) P) : X w mL_law d Q 276 ls st P := X_iconst (M := mL_law) (dL_law_276) (by decide) k
theorem dL_law_277 : decode cL_law 277 = .ok (.iadd, 1) := by decide +kernel
theorem sL_law_277 {x y : Int32} (k : X w mL_law d Q 278 ls (.int (x + y) :: st) P) : X w mL_law d Q 277 ls (.int y :: .int x :: st) P := X_iadd (M := mL_law) (dL_law_277) k
theorem dL_law_278 : decode cL_law 278 = .ok (.iaload, 1) := by decide +kernel
theorem sL_law_278 {a n : Nat} {f : Nat → Int32} {i : Int32} (hP : P.1 a = some (xA 0 n f)) (hi : vp_in i n) (k : X w mL_law d Q 279 ls (.int (f i.toNatClampNeg) :: st) P) : X w mL_law d Q 278 ls (.int i :: .ref a :: st) P := X_iald (M := mL_law) (dL_law_278) hP hi k
theorem dL_law_279 : decode cL_law 279 = .ok (.invokevirtual 84, 3) := by decide +kernel
theorem sL_law_279_g {b : Nat} {fs : List Value} {a0 : Int32} {a1 : Int32} {Qc : Outcome → xH → Prop} (hst : (st.map fun v => v.category).sum ≤ 8) (hP : P.1 b = some (xO 9 fs)) (hC : xC w d mX11_truth [.ref b, .int a0, .int a1] P Qc) (kr : ∀ v P1, Qc (.returned v) P1 → X w mL_law (d + 1) Q 282 ls (v.toList ++ st) P1) (kt : ∀ q P1, Qc (.threw q) P1 → Xt w mL_law (d + 1) Q 279 ls st P1 q) : X w mL_law (d + 1) Q 279 ls (.int a1 :: .int a0 :: .ref b :: st) P := X_callV (M := mL_law) (MC := mX11_truth) (As := [.int a0, .int a1]) (T := TX11) (dL_law_279) calX11_truth xw_639 xw_640 xw_641 rfl rfl hP hC hst kr kt
theorem sL_law_279 {b : Nat} {fs : List Value} {a0 : Int32} {a1 : Int32} {r : Int64} {P1 : xH} (hst : (st.map fun v => v.category).sum ≤ 8) (hP : P.1 b = some (xO 9 fs)) (hC : xC w d mX11_truth [.ref b, .int a0, .int a1] P (xRet (some (.long r)) P1)) (k : X w mL_law (d + 1) Q 282 ls (.long r :: st) P1) : X w mL_law (d + 1) Q 279 ls (.int a1 :: .int a0 :: .ref b :: st) P := X_callV (M := mL_law) (MC := mX11_truth) (As := [.int a0, .int a1]) (T := TX11) (dL_law_279) calX11_truth xw_639 xw_640 xw_641 rfl rfl hP hC hst (fun v P2 h => by obtain ⟨h1, rfl⟩ := h; cases h1; exact k) (fun q P2 h => by cases h.1)
theorem sL_law_279_r {b : Nat} {fs : List Value} {a0 : Int32} {a1 : Int32} {r : Int64} {Rp : xH → Prop} (hst : (st.map fun v => v.category).sum ≤ 8) (hP : P.1 b = some (xO 9 fs)) (hC : xC w d mX11_truth [.ref b, .int a0, .int a1] P (xRl (some (.long r)) Rp)) (k : ∀ P1, Rp P1 → X w mL_law (d + 1) Q 282 ls (.long r :: st) P1) : X w mL_law (d + 1) Q 279 ls (.int a1 :: .int a0 :: .ref b :: st) P := X_callV (M := mL_law) (MC := mX11_truth) (As := [.int a0, .int a1]) (T := TX11) (dL_law_279) calX11_truth xw_639 xw_640 xw_641 rfl rfl hP hC hst (fun v P2 h => by obtain ⟨h1, hR⟩ := h; cases h1; exact k P2 hR) (fun q P2 h => by cases h.1)
theorem sL_law_279_t {b : Nat} {fs : List Value} {a0 : Int32} {a1 : Int32} {q : Nat} {P1 : xH} (hst : (st.map fun v => v.category).sum ≤ 8) (hP : P.1 b = some (xO 9 fs)) (hC : xC w d mX11_truth [.ref b, .int a0, .int a1] P (xThr q P1)) (hq : Q (.threw q) P1) : X w mL_law (d + 1) Q 279 ls (.int a1 :: .int a0 :: .ref b :: st) P := X_callV (M := mL_law) (MC := mX11_truth) (As := [.int a0, .int a1]) (T := TX11) (dL_law_279) calX11_truth xw_639 xw_640 xw_641 rfl rfl hP hC hst (fun v P2 h => by cases h.1) (fun q2 P2 h => by obtain ⟨h1, rfl⟩ := h; cases h1; exact Xt_out rfl hq)
theorem dL_law_282 : decode cL_law 282 = .ok (.lstore 6, 2) := by decide +kernel
theorem sL_law_282 {l0 l1 l2 l3 l4 l5 l6 l7 : Option Value} {x : Int64} (hn : xnl l5 = true) (k : X w mL_law d Q 284 [l0, l1, l2, l3, l4, l5, some (.long x), none] st P) : X w mL_law d Q 282 [l0, l1, l2, l3, l4, l5, l6, l7] (.long x :: st) P := X_lstore (M := mL_law) (dL_law_282) (by decide) rfl (xnl_p (ls := [l0, l1, l2, l3, l4, l5, l6, l7]) (j := 5) rfl hn) k
theorem dL_law_284 : decode cL_law 284 = .ok (.aload_n 2, 1) := by decide +kernel
theorem sL_law_284 {l0 l1 l3 l4 l5 l6 l7 : Option Value} {x : Nat} (k : X w mL_law d Q 285 [l0, l1, some (.ref x), l3, l4, l5, l6, l7] (.ref x :: st) P) : X w mL_law d Q 284 [l0, l1, some (.ref x), l3, l4, l5, l6, l7] st P := X_aload_n (M := mL_law) (dL_law_284) rfl rfl k
theorem dL_law_285 : decode cL_law 285 = .ok (.invokevirtual 79, 3) := by decide +kernel
theorem sL_law_285_g {b : Nat} {fs : List Value}  {Qc : Outcome → xH → Prop} (hst : (st.map fun v => v.category).sum ≤ 8) (hP : P.1 b = some (xO 9 fs)) (hC : xC w d mX11_thrown [.ref b] P Qc) (kr : ∀ v P1, Qc (.returned v) P1 → X w mL_law (d + 1) Q 288 ls (v.toList ++ st) P1) (kt : ∀ q P1, Qc (.threw q) P1 → Xt w mL_law (d + 1) Q 285 ls st P1 q) : X w mL_law (d + 1) Q 285 ls (.ref b :: st) P := X_callV (M := mL_law) (MC := mX11_thrown) (As := []) (T := TX11) (dL_law_285) calX11_thrown xw_634 xw_635 xw_636 rfl rfl hP hC hst kr kt
theorem sL_law_285 {b : Nat} {fs : List Value}  {r : Int32} {P1 : xH} (hst : (st.map fun v => v.category).sum ≤ 8) (hP : P.1 b = some (xO 9 fs)) (hC : xC w d mX11_thrown [.ref b] P (xRet (some (.int r)) P1)) (k : X w mL_law (d + 1) Q 288 ls (.int r :: st) P1) : X w mL_law (d + 1) Q 285 ls (.ref b :: st) P := X_callV (M := mL_law) (MC := mX11_thrown) (As := []) (T := TX11) (dL_law_285) calX11_thrown xw_634 xw_635 xw_636 rfl rfl hP hC hst (fun v P2 h => by obtain ⟨h1, rfl⟩ := h; cases h1; exact k) (fun q P2 h => by cases h.1)
theorem sL_law_285_r {b : Nat} {fs : List Value}  {r : Int32} {Rp : xH → Prop} (hst : (st.map fun v => v.category).sum ≤ 8) (hP : P.1 b = some (xO 9 fs)) (hC : xC w d mX11_thrown [.ref b] P (xRl (some (.int r)) Rp)) (k : ∀ P1, Rp P1 → X w mL_law (d + 1) Q 288 ls (.int r :: st) P1) : X w mL_law (d + 1) Q 285 ls (.ref b :: st) P := X_callV (M := mL_law) (MC := mX11_thrown) (As := []) (T := TX11) (dL_law_285) calX11_thrown xw_634 xw_635 xw_636 rfl rfl hP hC hst (fun v P2 h => by obtain ⟨h1, hR⟩ := h; cases h1; exact k P2 hR) (fun q P2 h => by cases h.1)
theorem sL_law_285_t {b : Nat} {fs : List Value}  {q : Nat} {P1 : xH} (hst : (st.map fun v => v.category).sum ≤ 8) (hP : P.1 b = some (xO 9 fs)) (hC : xC w d mX11_thrown [.ref b] P (xThr q P1)) (hq : Q (.threw q) P1) : X w mL_law (d + 1) Q 285 ls (.ref b :: st) P := X_callV (M := mL_law) (MC := mX11_thrown) (As := []) (T := TX11) (dL_law_285) calX11_thrown xw_634 xw_635 xw_636 rfl rfl hP hC hst (fun v P2 h => by cases h.1) (fun q2 P2 h => by obtain ⟨h1, rfl⟩ := h; cases h1; exact Xt_out rfl hq)
theorem dL_law_288 : decode cL_law 288 = .ok (.iload 5, 2) := by decide +kernel
theorem sL_law_288 {l0 l1 l2 l3 l4 l6 l7 : Option Value} {x : Int32} (k : X w mL_law d Q 290 [l0, l1, l2, l3, l4, some (.int x), l6, l7] (.int x :: st) P) : X w mL_law d Q 288 [l0, l1, l2, l3, l4, some (.int x), l6, l7] st P := X_iload (M := mL_law) (dL_law_288) rfl k
theorem dL_law_290 : decode cL_law 290 = .ok (.if_icmp .eq 5, 3) := by decide +kernel
theorem sL_law_290 {x y : Int32} (kt : x = y → X w mL_law d Q 295 ls st P) (kf : ¬ x = y → X w mL_law d Q 293 ls st P) : X w mL_law d Q 290 ls (.int y :: .int x :: st) P := X_icmp_eq (M := mL_law) (dL_law_290) (by decide) kt kf
theorem dL_law_293 : decode cL_law 293 = .ok (.iconst 0, 1) := by decide +kernel
theorem sL_law_293 (k : X w mL_law d Q 294 ls (.int (0 : Int32) :: st) P) : X w mL_law d Q 293 ls st P := X_iconst (M := mL_law) (dL_law_293) (by decide) k
theorem dL_law_294 : decode cL_law 294 = .ok (.ireturn, 1) := by decide +kernel
theorem sL_law_294 {v : Int32} (hb : v = 0 ∨ v = 1) (hq : Q (.returned (some (.int v))) P) : X w mL_law d Q 294 ls [.int v] P := X_zret (M := mL_law) (ty := .boolean) (dL_law_294) rfl (xz_n hb) hq
theorem dL_law_295 : decode cL_law 295 = .ok (.iload 5, 2) := by decide +kernel
theorem sL_law_295 {l0 l1 l2 l3 l4 l6 l7 : Option Value} {x : Int32} (k : X w mL_law d Q 297 [l0, l1, l2, l3, l4, some (.int x), l6, l7] (.int x :: st) P) : X w mL_law d Q 295 [l0, l1, l2, l3, l4, some (.int x), l6, l7] st P := X_iload (M := mL_law) (dL_law_295) rfl k
theorem dL_law_297 : decode cL_law 297 = .ok (.ifCond .ne 14, 3) := by decide +kernel
theorem sL_law_297 {x : Int32} (kt : ¬ x = 0 → X w mL_law d Q 311 ls st P) (kf : x = 0 → X w mL_law d Q 300 ls st P) : X w mL_law d Q 297 ls (.int x :: st) P := X_if_ne (M := mL_law) (dL_law_297) (by decide) kt kf
theorem dL_law_300 : decode cL_law 300 = .ok (.aload_n 3, 1) := by decide +kernel
theorem sL_law_300 {l0 l1 l2 l4 l5 l6 l7 : Option Value} {x : Nat} (k : X w mL_law d Q 301 [l0, l1, l2, some (.ref x), l4, l5, l6, l7] (.ref x :: st) P) : X w mL_law d Q 300 [l0, l1, l2, some (.ref x), l4, l5, l6, l7] st P := X_aload_n (M := mL_law) (dL_law_300) rfl rfl k
theorem dL_law_301 : decode cL_law 301 = .ok (.iconst 0, 1) := by decide +kernel
theorem sL_law_301 (k : X w mL_law d Q 302 ls (.int (0 : Int32) :: st) P) : X w mL_law d Q 301 ls st P := X_iconst (M := mL_law) (dL_law_301) (by decide) k
theorem dL_law_302 : decode cL_law 302 = .ok (.laload, 1) := by decide +kernel
theorem sL_law_302 {a n : Nat} {f : Nat → Int64} {i : Int32} (hP : P.1 a = some (xJ n f)) (hi : vp_in i n) (k : X w mL_law d Q 303 ls (.long (f i.toNatClampNeg) :: st) P) : X w mL_law d Q 302 ls (.int i :: .ref a :: st) P := X_lald (M := mL_law) (dL_law_302) hP hi k
theorem dL_law_303 : decode cL_law 303 = .ok (.lload 6, 2) := by decide +kernel
theorem sL_law_303 {l0 l1 l2 l3 l4 l5 l7 : Option Value} {x : Int64} (k : X w mL_law d Q 305 [l0, l1, l2, l3, l4, l5, some (.long x), l7] (.long x :: st) P) : X w mL_law d Q 303 [l0, l1, l2, l3, l4, l5, some (.long x), l7] st P := X_lload (M := mL_law) (dL_law_303) rfl k
theorem dL_law_305 : decode cL_law 305 = .ok (.lcmp, 1) := by decide +kernel
theorem sL_law_305 {x y : Int64} (k : X w mL_law d Q 306 ls (.int (lg_cmp x y) :: st) P) : X w mL_law d Q 305 ls (.long y :: .long x :: st) P := X_lcmp (M := mL_law) (dL_law_305) k
theorem dL_law_306 : decode cL_law 306 = .ok (.ifCond .eq 5, 3) := by decide +kernel
theorem sL_law_306 {x : Int32} (kt : x = 0 → X w mL_law d Q 311 ls st P) (kf : ¬ x = 0 → X w mL_law d Q 309 ls st P) : X w mL_law d Q 306 ls (.int x :: st) P := X_if_eq (M := mL_law) (dL_law_306) (by decide) kt kf
theorem dL_law_309 : decode cL_law 309 = .ok (.iconst 0, 1) := by decide +kernel
theorem sL_law_309 (k : X w mL_law d Q 310 ls (.int (0 : Int32) :: st) P) : X w mL_law d Q 309 ls st P := X_iconst (M := mL_law) (dL_law_309) (by decide) k
theorem dL_law_310 : decode cL_law 310 = .ok (.ireturn, 1) := by decide +kernel
theorem sL_law_310 {v : Int32} (hb : v = 0 ∨ v = 1) (hq : Q (.returned (some (.int v))) P) : X w mL_law d Q 310 ls [.int v] P := X_zret (M := mL_law) (ty := .boolean) (dL_law_310) rfl (xz_n hb) hq
theorem dL_law_311 : decode cL_law 311 = .ok (.goto 778, 3) := by decide +kernel
theorem sL_law_311 (k : X w mL_law d Q 1089 ls st P) : X w mL_law d Q 311 ls st P := X_goto (M := mL_law) (dL_law_311) (by decide) k
theorem dL_law_314 : decode cL_law 314 = .ok (.aload_n 1, 1) := by decide +kernel
theorem sL_law_314 {l0 l2 l3 l4 l5 l6 l7 : Option Value} {x : Nat} (k : X w mL_law d Q 315 [l0, some (.ref x), l2, l3, l4, l5, l6, l7] (.ref x :: st) P) : X w mL_law d Q 314 [l0, some (.ref x), l2, l3, l4, l5, l6, l7] st P := X_aload_n (M := mL_law) (dL_law_314) rfl rfl k
theorem dL_law_315 : decode cL_law 315 = .ok (.aload_n 0, 1) := by decide +kernel
theorem sL_law_315 {l1 l2 l3 l4 l5 l6 l7 : Option Value} {x : Nat} (k : X w mL_law d Q 316 [some (.ref x), l1, l2, l3, l4, l5, l6, l7] (.ref x :: st) P) : X w mL_law d Q 315 [some (.ref x), l1, l2, l3, l4, l5, l6, l7] st P := X_aload_n (M := mL_law) (dL_law_315) rfl rfl k
theorem dL_law_316 : decode cL_law 316 = .ok (.iload 4, 2) := by decide +kernel
theorem sL_law_316 {l0 l1 l2 l3 l5 l6 l7 : Option Value} {x : Int32} (k : X w mL_law d Q 318 [l0, l1, l2, l3, some (.int x), l5, l6, l7] (.int x :: st) P) : X w mL_law d Q 316 [l0, l1, l2, l3, some (.int x), l5, l6, l7] st P := X_iload (M := mL_law) (dL_law_316) rfl k
theorem dL_law_318 : decode cL_law 318 = .ok (.iconst 1, 1) := by decide +kernel
theorem sL_law_318 (k : X w mL_law d Q 319 ls (.int (1 : Int32) :: st) P) : X w mL_law d Q 318 ls st P := X_iconst (M := mL_law) (dL_law_318) (by decide) k
theorem dL_law_319 : decode cL_law 319 = .ok (.iadd, 1) := by decide +kernel
theorem sL_law_319 {x y : Int32} (k : X w mL_law d Q 320 ls (.int (x + y) :: st) P) : X w mL_law d Q 319 ls (.int y :: .int x :: st) P := X_iadd (M := mL_law) (dL_law_319) k
theorem dL_law_320 : decode cL_law 320 = .ok (.iaload, 1) := by decide +kernel
theorem sL_law_320 {a n : Nat} {f : Nat → Int32} {i : Int32} (hP : P.1 a = some (xA 0 n f)) (hi : vp_in i n) (k : X w mL_law d Q 321 ls (.int (f i.toNatClampNeg) :: st) P) : X w mL_law d Q 320 ls (.int i :: .ref a :: st) P := X_iald (M := mL_law) (dL_law_320) hP hi k
theorem dL_law_321 : decode cL_law 321 = .ok (.aload_n 0, 1) := by decide +kernel
theorem sL_law_321 {l1 l2 l3 l4 l5 l6 l7 : Option Value} {x : Nat} (k : X w mL_law d Q 322 [some (.ref x), l1, l2, l3, l4, l5, l6, l7] (.ref x :: st) P) : X w mL_law d Q 321 [some (.ref x), l1, l2, l3, l4, l5, l6, l7] st P := X_aload_n (M := mL_law) (dL_law_321) rfl rfl k
theorem dL_law_322 : decode cL_law 322 = .ok (.iload 4, 2) := by decide +kernel
theorem sL_law_322 {l0 l1 l2 l3 l5 l6 l7 : Option Value} {x : Int32} (k : X w mL_law d Q 324 [l0, l1, l2, l3, some (.int x), l5, l6, l7] (.int x :: st) P) : X w mL_law d Q 322 [l0, l1, l2, l3, some (.int x), l5, l6, l7] st P := X_iload (M := mL_law) (dL_law_322) rfl k
theorem dL_law_324 : decode cL_law 324 = .ok (.iconst 2, 1) := by decide +kernel
theorem sL_law_324 (k : X w mL_law d Q 325 ls (.int (2 : Int32) :: st) P) : X w mL_law d Q 324 ls st P := X_iconst (M := mL_law) (dL_law_324) (by decide) k
theorem dL_law_325 : decode cL_law 325 = .ok (.iadd, 1) := by decide +kernel
theorem sL_law_325 {x y : Int32} (k : X w mL_law d Q 326 ls (.int (x + y) :: st) P) : X w mL_law d Q 325 ls (.int y :: .int x :: st) P := X_iadd (M := mL_law) (dL_law_325) k
theorem dL_law_326 : decode cL_law 326 = .ok (.iaload, 1) := by decide +kernel
theorem sL_law_326 {a n : Nat} {f : Nat → Int32} {i : Int32} (hP : P.1 a = some (xA 0 n f)) (hi : vp_in i n) (k : X w mL_law d Q 327 ls (.int (f i.toNatClampNeg) :: st) P) : X w mL_law d Q 326 ls (.int i :: .ref a :: st) P := X_iald (M := mL_law) (dL_law_326) hP hi k
theorem dL_law_327 : decode cL_law 327 = .ok (.aload_n 0, 1) := by decide +kernel
theorem sL_law_327 {l1 l2 l3 l4 l5 l6 l7 : Option Value} {x : Nat} (k : X w mL_law d Q 328 [some (.ref x), l1, l2, l3, l4, l5, l6, l7] (.ref x :: st) P) : X w mL_law d Q 327 [some (.ref x), l1, l2, l3, l4, l5, l6, l7] st P := X_aload_n (M := mL_law) (dL_law_327) rfl rfl k
theorem dL_law_328 : decode cL_law 328 = .ok (.iload 4, 2) := by decide +kernel
theorem sL_law_328 {l0 l1 l2 l3 l5 l6 l7 : Option Value} {x : Int32} (k : X w mL_law d Q 330 [l0, l1, l2, l3, some (.int x), l5, l6, l7] (.int x :: st) P) : X w mL_law d Q 328 [l0, l1, l2, l3, some (.int x), l5, l6, l7] st P := X_iload (M := mL_law) (dL_law_328) rfl k
theorem dL_law_330 : decode cL_law 330 = .ok (.iconst 3, 1) := by decide +kernel
theorem sL_law_330 (k : X w mL_law d Q 331 ls (.int (3 : Int32) :: st) P) : X w mL_law d Q 330 ls st P := X_iconst (M := mL_law) (dL_law_330) (by decide) k
theorem dL_law_331 : decode cL_law 331 = .ok (.iadd, 1) := by decide +kernel
theorem sL_law_331 {x y : Int32} (k : X w mL_law d Q 332 ls (.int (x + y) :: st) P) : X w mL_law d Q 331 ls (.int y :: .int x :: st) P := X_iadd (M := mL_law) (dL_law_331) k
theorem dL_law_332 : decode cL_law 332 = .ok (.iaload, 1) := by decide +kernel
theorem sL_law_332 {a n : Nat} {f : Nat → Int32} {i : Int32} (hP : P.1 a = some (xA 0 n f)) (hi : vp_in i n) (k : X w mL_law d Q 333 ls (.int (f i.toNatClampNeg) :: st) P) : X w mL_law d Q 332 ls (.int i :: .ref a :: st) P := X_iald (M := mL_law) (dL_law_332) hP hi k
theorem dL_law_333 : decode cL_law 333 = .ok (.aload_n 3, 1) := by decide +kernel
theorem sL_law_333 {l0 l1 l2 l4 l5 l6 l7 : Option Value} {x : Nat} (k : X w mL_law d Q 334 [l0, l1, l2, some (.ref x), l4, l5, l6, l7] (.ref x :: st) P) : X w mL_law d Q 333 [l0, l1, l2, some (.ref x), l4, l5, l6, l7] st P := X_aload_n (M := mL_law) (dL_law_333) rfl rfl k
theorem dL_law_334 : decode cL_law 334 = .ok (.invokestatic 85, 3) := by decide +kernel
theorem sL_law_334_g {a0 : Nat} {a1 : Int32} {a2 : Int32} {a3 : Int32} {a4 : Nat} {Qc : Outcome → xH → Prop} (hst : (st.map fun v => v.category).sum ≤ 8) (hC : xC w d mL_sense [.ref a0, .int a1, .int a2, .int a3, .ref a4] P Qc) (kr : ∀ v P1, Qc (.returned v) P1 → X w mL_law (d + 1) Q 337 ls (v.toList ++ st) P1) (kt : ∀ q P1, Qc (.threw q) P1 → Xt w mL_law (d + 1) Q 334 ls st P1 q) : X w mL_law (d + 1) Q 334 ls (.ref a4 :: .int a3 :: .int a2 :: .int a1 :: .ref a0 :: st) P := X_callS (M := mL_law) (MC := mL_sense) (As := [.ref a0, .int a1, .int a2, .int a3, .ref a4]) (dL_law_334) calL_sense xw_642 xw_643 rfl hC hst kr kt
theorem sL_law_334 {a0 : Nat} {a1 : Int32} {a2 : Int32} {a3 : Int32} {a4 : Nat} {r : Int32} {P1 : xH} (hst : (st.map fun v => v.category).sum ≤ 8) (hC : xC w d mL_sense [.ref a0, .int a1, .int a2, .int a3, .ref a4] P (xRet (some (.int r)) P1)) (k : X w mL_law (d + 1) Q 337 ls (.int r :: st) P1) : X w mL_law (d + 1) Q 334 ls (.ref a4 :: .int a3 :: .int a2 :: .int a1 :: .ref a0 :: st) P := X_callS (M := mL_law) (MC := mL_sense) (As := [.ref a0, .int a1, .int a2, .int a3, .ref a4]) (dL_law_334) calL_sense xw_642 xw_643 rfl hC hst (fun v P2 h => by obtain ⟨h1, rfl⟩ := h; cases h1; exact k) (fun q P2 h => by cases h.1)
theorem sL_law_334_r {a0 : Nat} {a1 : Int32} {a2 : Int32} {a3 : Int32} {a4 : Nat} {r : Int32} {Rp : xH → Prop} (hst : (st.map fun v => v.category).sum ≤ 8) (hC : xC w d mL_sense [.ref a0, .int a1, .int a2, .int a3, .ref a4] P (xRl (some (.int r)) Rp)) (k : ∀ P1, Rp P1 → X w mL_law (d + 1) Q 337 ls (.int r :: st) P1) : X w mL_law (d + 1) Q 334 ls (.ref a4 :: .int a3 :: .int a2 :: .int a1 :: .ref a0 :: st) P := X_callS (M := mL_law) (MC := mL_sense) (As := [.ref a0, .int a1, .int a2, .int a3, .ref a4]) (dL_law_334) calL_sense xw_642 xw_643 rfl hC hst (fun v P2 h => by obtain ⟨h1, hR⟩ := h; cases h1; exact k P2 hR) (fun q P2 h => by cases h.1)
theorem sL_law_334_t {a0 : Nat} {a1 : Int32} {a2 : Int32} {a3 : Int32} {a4 : Nat} {q : Nat} {P1 : xH} (hst : (st.map fun v => v.category).sum ≤ 8) (hC : xC w d mL_sense [.ref a0, .int a1, .int a2, .int a3, .ref a4] P (xThr q P1)) (hq : Q (.threw q) P1) : X w mL_law (d + 1) Q 334 ls (.ref a4 :: .int a3 :: .int a2 :: .int a1 :: .ref a0 :: st) P := X_callS (M := mL_law) (MC := mL_sense) (As := [.ref a0, .int a1, .int a2, .int a3, .ref a4]) (dL_law_334) calL_sense xw_642 xw_643 rfl hC hst (fun v P2 h => by cases h.1) (fun q2 P2 h => by obtain ⟨h1, rfl⟩ := h; cases h1; exact Xt_out rfl hq)
theorem dL_law_337 : decode cL_law 337 = .ok (.istore 5, 2) := by decide +kernel
theorem sL_law_337 {l0 l1 l2 l3 l4 l5 l6 l7 : Option Value} {x : Int32} (hn : xnl l4 = true) (k : X w mL_law d Q 339 [l0, l1, l2, l3, l4, some (.int x), l6, l7] st P) : X w mL_law d Q 337 [l0, l1, l2, l3, l4, l5, l6, l7] (.int x :: st) P := X_istore (M := mL_law) (dL_law_337) (by decide) rfl (xnl_p (ls := [l0, l1, l2, l3, l4, l5, l6, l7]) (j := 4) rfl hn) k
theorem dL_law_339 : decode cL_law 339 = .ok (.aload_n 2, 1) := by decide +kernel
theorem sL_law_339 {l0 l1 l3 l4 l5 l6 l7 : Option Value} {x : Nat} (k : X w mL_law d Q 340 [l0, l1, some (.ref x), l3, l4, l5, l6, l7] (.ref x :: st) P) : X w mL_law d Q 339 [l0, l1, some (.ref x), l3, l4, l5, l6, l7] st P := X_aload_n (M := mL_law) (dL_law_339) rfl rfl k
theorem dL_law_340 : decode cL_law 340 = .ok (.aload_n 0, 1) := by decide +kernel
theorem sL_law_340 {l1 l2 l3 l4 l5 l6 l7 : Option Value} {x : Nat} (k : X w mL_law d Q 341 [some (.ref x), l1, l2, l3, l4, l5, l6, l7] (.ref x :: st) P) : X w mL_law d Q 340 [some (.ref x), l1, l2, l3, l4, l5, l6, l7] st P := X_aload_n (M := mL_law) (dL_law_340) rfl rfl k
theorem dL_law_341 : decode cL_law 341 = .ok (.iload 4, 2) := by decide +kernel
theorem sL_law_341 {l0 l1 l2 l3 l5 l6 l7 : Option Value} {x : Int32} (k : X w mL_law d Q 343 [l0, l1, l2, l3, some (.int x), l5, l6, l7] (.int x :: st) P) : X w mL_law d Q 341 [l0, l1, l2, l3, some (.int x), l5, l6, l7] st P := X_iload (M := mL_law) (dL_law_341) rfl k
theorem dL_law_343 : decode cL_law 343 = .ok (.iconst 1, 1) := by decide +kernel
theorem sL_law_343 (k : X w mL_law d Q 344 ls (.int (1 : Int32) :: st) P) : X w mL_law d Q 343 ls st P := X_iconst (M := mL_law) (dL_law_343) (by decide) k
theorem dL_law_344 : decode cL_law 344 = .ok (.iadd, 1) := by decide +kernel
theorem sL_law_344 {x y : Int32} (k : X w mL_law d Q 345 ls (.int (x + y) :: st) P) : X w mL_law d Q 344 ls (.int y :: .int x :: st) P := X_iadd (M := mL_law) (dL_law_344) k
theorem dL_law_345 : decode cL_law 345 = .ok (.iaload, 1) := by decide +kernel
theorem sL_law_345 {a n : Nat} {f : Nat → Int32} {i : Int32} (hP : P.1 a = some (xA 0 n f)) (hi : vp_in i n) (k : X w mL_law d Q 346 ls (.int (f i.toNatClampNeg) :: st) P) : X w mL_law d Q 345 ls (.int i :: .ref a :: st) P := X_iald (M := mL_law) (dL_law_345) hP hi k
theorem dL_law_346 : decode cL_law 346 = .ok (.aload_n 0, 1) := by decide +kernel
theorem sL_law_346 {l1 l2 l3 l4 l5 l6 l7 : Option Value} {x : Nat} (k : X w mL_law d Q 347 [some (.ref x), l1, l2, l3, l4, l5, l6, l7] (.ref x :: st) P) : X w mL_law d Q 346 [some (.ref x), l1, l2, l3, l4, l5, l6, l7] st P := X_aload_n (M := mL_law) (dL_law_346) rfl rfl k
theorem dL_law_347 : decode cL_law 347 = .ok (.iload 4, 2) := by decide +kernel
theorem sL_law_347 {l0 l1 l2 l3 l5 l6 l7 : Option Value} {x : Int32} (k : X w mL_law d Q 349 [l0, l1, l2, l3, some (.int x), l5, l6, l7] (.int x :: st) P) : X w mL_law d Q 347 [l0, l1, l2, l3, some (.int x), l5, l6, l7] st P := X_iload (M := mL_law) (dL_law_347) rfl k
theorem dL_law_349 : decode cL_law 349 = .ok (.iconst 2, 1) := by decide +kernel
theorem sL_law_349 (k : X w mL_law d Q 350 ls (.int (2 : Int32) :: st) P) : X w mL_law d Q 349 ls st P := X_iconst (M := mL_law) (dL_law_349) (by decide) k
theorem dL_law_350 : decode cL_law 350 = .ok (.iadd, 1) := by decide +kernel
theorem sL_law_350 {x y : Int32} (k : X w mL_law d Q 351 ls (.int (x + y) :: st) P) : X w mL_law d Q 350 ls (.int y :: .int x :: st) P := X_iadd (M := mL_law) (dL_law_350) k
theorem dL_law_351 : decode cL_law 351 = .ok (.iaload, 1) := by decide +kernel
theorem sL_law_351 {a n : Nat} {f : Nat → Int32} {i : Int32} (hP : P.1 a = some (xA 0 n f)) (hi : vp_in i n) (k : X w mL_law d Q 352 ls (.int (f i.toNatClampNeg) :: st) P) : X w mL_law d Q 351 ls (.int i :: .ref a :: st) P := X_iald (M := mL_law) (dL_law_351) hP hi k
theorem dL_law_352 : decode cL_law 352 = .ok (.aload_n 0, 1) := by decide +kernel
theorem sL_law_352 {l1 l2 l3 l4 l5 l6 l7 : Option Value} {x : Nat} (k : X w mL_law d Q 353 [some (.ref x), l1, l2, l3, l4, l5, l6, l7] (.ref x :: st) P) : X w mL_law d Q 352 [some (.ref x), l1, l2, l3, l4, l5, l6, l7] st P := X_aload_n (M := mL_law) (dL_law_352) rfl rfl k
theorem dL_law_353 : decode cL_law 353 = .ok (.iload 4, 2) := by decide +kernel
theorem sL_law_353 {l0 l1 l2 l3 l5 l6 l7 : Option Value} {x : Int32} (k : X w mL_law d Q 355 [l0, l1, l2, l3, some (.int x), l5, l6, l7] (.int x :: st) P) : X w mL_law d Q 353 [l0, l1, l2, l3, some (.int x), l5, l6, l7] st P := X_iload (M := mL_law) (dL_law_353) rfl k
theorem dL_law_355 : decode cL_law 355 = .ok (.iconst 3, 1) := by decide +kernel
theorem sL_law_355 (k : X w mL_law d Q 356 ls (.int (3 : Int32) :: st) P) : X w mL_law d Q 355 ls st P := X_iconst (M := mL_law) (dL_law_355) (by decide) k
theorem dL_law_356 : decode cL_law 356 = .ok (.iadd, 1) := by decide +kernel
theorem sL_law_356 {x y : Int32} (k : X w mL_law d Q 357 ls (.int (x + y) :: st) P) : X w mL_law d Q 356 ls (.int y :: .int x :: st) P := X_iadd (M := mL_law) (dL_law_356) k
theorem dL_law_357 : decode cL_law 357 = .ok (.iaload, 1) := by decide +kernel
theorem sL_law_357 {a n : Nat} {f : Nat → Int32} {i : Int32} (hP : P.1 a = some (xA 0 n f)) (hi : vp_in i n) (k : X w mL_law d Q 358 ls (.int (f i.toNatClampNeg) :: st) P) : X w mL_law d Q 357 ls (.int i :: .ref a :: st) P := X_iald (M := mL_law) (dL_law_357) hP hi k
theorem dL_law_358 : decode cL_law 358 = .ok (.invokevirtual 88, 3) := by decide +kernel
theorem sL_law_358_g {b : Nat} {fs : List Value} {a0 : Int32} {a1 : Int32} {a2 : Int32} {Qc : Outcome → xH → Prop} (hst : (st.map fun v => v.category).sum ≤ 8) (hP : P.1 b = some (xO 9 fs)) (hC : xC w d mX11_sense [.ref b, .int a0, .int a1, .int a2] P Qc) (kr : ∀ v P1, Qc (.returned v) P1 → X w mL_law (d + 1) Q 361 ls (v.toList ++ st) P1) (kt : ∀ q P1, Qc (.threw q) P1 → Xt w mL_law (d + 1) Q 358 ls st P1 q) : X w mL_law (d + 1) Q 358 ls (.int a2 :: .int a1 :: .int a0 :: .ref b :: st) P := X_callV (M := mL_law) (MC := mX11_sense) (As := [.int a0, .int a1, .int a2]) (T := TX11) (dL_law_358) calX11_sense xw_644 xw_645 xw_646 rfl rfl hP hC hst kr kt
theorem sL_law_358 {b : Nat} {fs : List Value} {a0 : Int32} {a1 : Int32} {a2 : Int32} {r : Int32} {P1 : xH} (hst : (st.map fun v => v.category).sum ≤ 8) (hP : P.1 b = some (xO 9 fs)) (hC : xC w d mX11_sense [.ref b, .int a0, .int a1, .int a2] P (xRet (some (.int r)) P1)) (k : X w mL_law (d + 1) Q 361 ls (.int r :: st) P1) : X w mL_law (d + 1) Q 358 ls (.int a2 :: .int a1 :: .int a0 :: .ref b :: st) P := X_callV (M := mL_law) (MC := mX11_sense) (As := [.int a0, .int a1, .int a2]) (T := TX11) (dL_law_358) calX11_sense xw_644 xw_645 xw_646 rfl rfl hP hC hst (fun v P2 h => by obtain ⟨h1, rfl⟩ := h; cases h1; exact k) (fun q P2 h => by cases h.1)
theorem sL_law_358_r {b : Nat} {fs : List Value} {a0 : Int32} {a1 : Int32} {a2 : Int32} {r : Int32} {Rp : xH → Prop} (hst : (st.map fun v => v.category).sum ≤ 8) (hP : P.1 b = some (xO 9 fs)) (hC : xC w d mX11_sense [.ref b, .int a0, .int a1, .int a2] P (xRl (some (.int r)) Rp)) (k : ∀ P1, Rp P1 → X w mL_law (d + 1) Q 361 ls (.int r :: st) P1) : X w mL_law (d + 1) Q 358 ls (.int a2 :: .int a1 :: .int a0 :: .ref b :: st) P := X_callV (M := mL_law) (MC := mX11_sense) (As := [.int a0, .int a1, .int a2]) (T := TX11) (dL_law_358) calX11_sense xw_644 xw_645 xw_646 rfl rfl hP hC hst (fun v P2 h => by obtain ⟨h1, hR⟩ := h; cases h1; exact k P2 hR) (fun q P2 h => by cases h.1)
theorem sL_law_358_t {b : Nat} {fs : List Value} {a0 : Int32} {a1 : Int32} {a2 : Int32} {q : Nat} {P1 : xH} (hst : (st.map fun v => v.category).sum ≤ 8) (hP : P.1 b = some (xO 9 fs)) (hC : xC w d mX11_sense [.ref b, .int a0, .int a1, .int a2] P (xThr q P1)) (hq : Q (.threw q) P1) : X w mL_law (d + 1) Q 358 ls (.int a2 :: .int a1 :: .int a0 :: .ref b :: st) P := X_callV (M := mL_law) (MC := mX11_sense) (As := [.int a0, .int a1, .int a2]) (T := TX11) (dL_law_358) calX11_sense xw_644 xw_645 xw_646 rfl rfl hP hC hst (fun v P2 h => by cases h.1) (fun q2 P2 h => by obtain ⟨h1, rfl⟩ := h; cases h1; exact Xt_out rfl hq)
theorem dL_law_361 : decode cL_law 361 = .ok (.istore 6, 2) := by decide +kernel
theorem sL_law_361 {l0 l1 l2 l3 l4 l5 l6 l7 : Option Value} {x : Int32} (hn : xnl l5 = true) (k : X w mL_law d Q 363 [l0, l1, l2, l3, l4, l5, some (.int x), l7] st P) : X w mL_law d Q 361 [l0, l1, l2, l3, l4, l5, l6, l7] (.int x :: st) P := X_istore (M := mL_law) (dL_law_361) (by decide) rfl (xnl_p (ls := [l0, l1, l2, l3, l4, l5, l6, l7]) (j := 5) rfl hn) k
theorem dL_law_363 : decode cL_law 363 = .ok (.aload_n 2, 1) := by decide +kernel
theorem sL_law_363 {l0 l1 l3 l4 l5 l6 l7 : Option Value} {x : Nat} (k : X w mL_law d Q 364 [l0, l1, some (.ref x), l3, l4, l5, l6, l7] (.ref x :: st) P) : X w mL_law d Q 363 [l0, l1, some (.ref x), l3, l4, l5, l6, l7] st P := X_aload_n (M := mL_law) (dL_law_363) rfl rfl k
theorem dL_law_364 : decode cL_law 364 = .ok (.invokevirtual 79, 3) := by decide +kernel
theorem sL_law_364_g {b : Nat} {fs : List Value}  {Qc : Outcome → xH → Prop} (hst : (st.map fun v => v.category).sum ≤ 8) (hP : P.1 b = some (xO 9 fs)) (hC : xC w d mX11_thrown [.ref b] P Qc) (kr : ∀ v P1, Qc (.returned v) P1 → X w mL_law (d + 1) Q 367 ls (v.toList ++ st) P1) (kt : ∀ q P1, Qc (.threw q) P1 → Xt w mL_law (d + 1) Q 364 ls st P1 q) : X w mL_law (d + 1) Q 364 ls (.ref b :: st) P := X_callV (M := mL_law) (MC := mX11_thrown) (As := []) (T := TX11) (dL_law_364) calX11_thrown xw_634 xw_635 xw_636 rfl rfl hP hC hst kr kt
theorem sL_law_364 {b : Nat} {fs : List Value}  {r : Int32} {P1 : xH} (hst : (st.map fun v => v.category).sum ≤ 8) (hP : P.1 b = some (xO 9 fs)) (hC : xC w d mX11_thrown [.ref b] P (xRet (some (.int r)) P1)) (k : X w mL_law (d + 1) Q 367 ls (.int r :: st) P1) : X w mL_law (d + 1) Q 364 ls (.ref b :: st) P := X_callV (M := mL_law) (MC := mX11_thrown) (As := []) (T := TX11) (dL_law_364) calX11_thrown xw_634 xw_635 xw_636 rfl rfl hP hC hst (fun v P2 h => by obtain ⟨h1, rfl⟩ := h; cases h1; exact k) (fun q P2 h => by cases h.1)
theorem sL_law_364_r {b : Nat} {fs : List Value}  {r : Int32} {Rp : xH → Prop} (hst : (st.map fun v => v.category).sum ≤ 8) (hP : P.1 b = some (xO 9 fs)) (hC : xC w d mX11_thrown [.ref b] P (xRl (some (.int r)) Rp)) (k : ∀ P1, Rp P1 → X w mL_law (d + 1) Q 367 ls (.int r :: st) P1) : X w mL_law (d + 1) Q 364 ls (.ref b :: st) P := X_callV (M := mL_law) (MC := mX11_thrown) (As := []) (T := TX11) (dL_law_364) calX11_thrown xw_634 xw_635 xw_636 rfl rfl hP hC hst (fun v P2 h => by obtain ⟨h1, hR⟩ := h; cases h1; exact k P2 hR) (fun q P2 h => by cases h.1)
theorem sL_law_364_t {b : Nat} {fs : List Value}  {q : Nat} {P1 : xH} (hst : (st.map fun v => v.category).sum ≤ 8) (hP : P.1 b = some (xO 9 fs)) (hC : xC w d mX11_thrown [.ref b] P (xThr q P1)) (hq : Q (.threw q) P1) : X w mL_law (d + 1) Q 364 ls (.ref b :: st) P := X_callV (M := mL_law) (MC := mX11_thrown) (As := []) (T := TX11) (dL_law_364) calX11_thrown xw_634 xw_635 xw_636 rfl rfl hP hC hst (fun v P2 h => by cases h.1) (fun q2 P2 h => by obtain ⟨h1, rfl⟩ := h; cases h1; exact Xt_out rfl hq)
theorem dL_law_367 : decode cL_law 367 = .ok (.iload 5, 2) := by decide +kernel
theorem sL_law_367 {l0 l1 l2 l3 l4 l6 l7 : Option Value} {x : Int32} (k : X w mL_law d Q 369 [l0, l1, l2, l3, l4, some (.int x), l6, l7] (.int x :: st) P) : X w mL_law d Q 367 [l0, l1, l2, l3, l4, some (.int x), l6, l7] st P := X_iload (M := mL_law) (dL_law_367) rfl k
theorem dL_law_369 : decode cL_law 369 = .ok (.if_icmp .eq 5, 3) := by decide +kernel
theorem sL_law_369 {x y : Int32} (kt : x = y → X w mL_law d Q 374 ls st P) (kf : ¬ x = y → X w mL_law d Q 372 ls st P) : X w mL_law d Q 369 ls (.int y :: .int x :: st) P := X_icmp_eq (M := mL_law) (dL_law_369) (by decide) kt kf
theorem dL_law_372 : decode cL_law 372 = .ok (.iconst 0, 1) := by decide +kernel
theorem sL_law_372 (k : X w mL_law d Q 373 ls (.int (0 : Int32) :: st) P) : X w mL_law d Q 372 ls st P := X_iconst (M := mL_law) (dL_law_372) (by decide) k
theorem dL_law_373 : decode cL_law 373 = .ok (.ireturn, 1) := by decide +kernel
theorem sL_law_373 {v : Int32} (hb : v = 0 ∨ v = 1) (hq : Q (.returned (some (.int v))) P) : X w mL_law d Q 373 ls [.int v] P := X_zret (M := mL_law) (ty := .boolean) (dL_law_373) rfl (xz_n hb) hq
theorem dL_law_374 : decode cL_law 374 = .ok (.iload 5, 2) := by decide +kernel
theorem sL_law_374 {l0 l1 l2 l3 l4 l6 l7 : Option Value} {x : Int32} (k : X w mL_law d Q 376 [l0, l1, l2, l3, l4, some (.int x), l6, l7] (.int x :: st) P) : X w mL_law d Q 374 [l0, l1, l2, l3, l4, some (.int x), l6, l7] st P := X_iload (M := mL_law) (dL_law_374) rfl k
theorem dL_law_376 : decode cL_law 376 = .ok (.ifCond .ne 15, 3) := by decide +kernel
theorem sL_law_376 {x : Int32} (kt : ¬ x = 0 → X w mL_law d Q 391 ls st P) (kf : x = 0 → X w mL_law d Q 379 ls st P) : X w mL_law d Q 376 ls (.int x :: st) P := X_if_ne (M := mL_law) (dL_law_376) (by decide) kt kf
theorem dL_law_379 : decode cL_law 379 = .ok (.aload_n 3, 1) := by decide +kernel
theorem sL_law_379 {l0 l1 l2 l4 l5 l6 l7 : Option Value} {x : Nat} (k : X w mL_law d Q 380 [l0, l1, l2, some (.ref x), l4, l5, l6, l7] (.ref x :: st) P) : X w mL_law d Q 379 [l0, l1, l2, some (.ref x), l4, l5, l6, l7] st P := X_aload_n (M := mL_law) (dL_law_379) rfl rfl k
theorem dL_law_380 : decode cL_law 380 = .ok (.iconst 0, 1) := by decide +kernel
theorem sL_law_380 (k : X w mL_law d Q 381 ls (.int (0 : Int32) :: st) P) : X w mL_law d Q 380 ls st P := X_iconst (M := mL_law) (dL_law_380) (by decide) k
theorem dL_law_381 : decode cL_law 381 = .ok (.laload, 1) := by decide +kernel
theorem sL_law_381 {a n : Nat} {f : Nat → Int64} {i : Int32} (hP : P.1 a = some (xJ n f)) (hi : vp_in i n) (k : X w mL_law d Q 382 ls (.long (f i.toNatClampNeg) :: st) P) : X w mL_law d Q 381 ls (.int i :: .ref a :: st) P := X_lald (M := mL_law) (dL_law_381) hP hi k
theorem dL_law_382 : decode cL_law 382 = .ok (.iload 6, 2) := by decide +kernel
theorem sL_law_382 {l0 l1 l2 l3 l4 l5 l7 : Option Value} {x : Int32} (k : X w mL_law d Q 384 [l0, l1, l2, l3, l4, l5, some (.int x), l7] (.int x :: st) P) : X w mL_law d Q 382 [l0, l1, l2, l3, l4, l5, some (.int x), l7] st P := X_iload (M := mL_law) (dL_law_382) rfl k
theorem dL_law_384 : decode cL_law 384 = .ok (.i2l, 1) := by decide +kernel
theorem sL_law_384 {x : Int32} (k : X w mL_law d Q 385 ls (.long x.toInt64 :: st) P) : X w mL_law d Q 384 ls (.int x :: st) P := X_i2l (M := mL_law) (dL_law_384) k
theorem dL_law_385 : decode cL_law 385 = .ok (.lcmp, 1) := by decide +kernel
theorem sL_law_385 {x y : Int64} (k : X w mL_law d Q 386 ls (.int (lg_cmp x y) :: st) P) : X w mL_law d Q 385 ls (.long y :: .long x :: st) P := X_lcmp (M := mL_law) (dL_law_385) k
theorem dL_law_386 : decode cL_law 386 = .ok (.ifCond .eq 5, 3) := by decide +kernel
theorem sL_law_386 {x : Int32} (kt : x = 0 → X w mL_law d Q 391 ls st P) (kf : ¬ x = 0 → X w mL_law d Q 389 ls st P) : X w mL_law d Q 386 ls (.int x :: st) P := X_if_eq (M := mL_law) (dL_law_386) (by decide) kt kf
theorem dL_law_389 : decode cL_law 389 = .ok (.iconst 0, 1) := by decide +kernel
theorem sL_law_389 (k : X w mL_law d Q 390 ls (.int (0 : Int32) :: st) P) : X w mL_law d Q 389 ls st P := X_iconst (M := mL_law) (dL_law_389) (by decide) k
theorem dL_law_390 : decode cL_law 390 = .ok (.ireturn, 1) := by decide +kernel
theorem sL_law_390 {v : Int32} (hb : v = 0 ∨ v = 1) (hq : Q (.returned (some (.int v))) P) : X w mL_law d Q 390 ls [.int v] P := X_zret (M := mL_law) (ty := .boolean) (dL_law_390) rfl (xz_n hb) hq
theorem dL_law_391 : decode cL_law 391 = .ok (.goto 698, 3) := by decide +kernel
theorem sL_law_391 (k : X w mL_law d Q 1089 ls st P) : X w mL_law d Q 391 ls st P := X_goto (M := mL_law) (dL_law_391) (by decide) k
theorem dL_law_394 : decode cL_law 394 = .ok (.aload_n 1, 1) := by decide +kernel
theorem sL_law_394 {l0 l2 l3 l4 l5 l6 l7 : Option Value} {x : Nat} (k : X w mL_law d Q 395 [l0, some (.ref x), l2, l3, l4, l5, l6, l7] (.ref x :: st) P) : X w mL_law d Q 394 [l0, some (.ref x), l2, l3, l4, l5, l6, l7] st P := X_aload_n (M := mL_law) (dL_law_394) rfl rfl k
theorem dL_law_395 : decode cL_law 395 = .ok (.aload_n 0, 1) := by decide +kernel
theorem sL_law_395 {l1 l2 l3 l4 l5 l6 l7 : Option Value} {x : Nat} (k : X w mL_law d Q 396 [some (.ref x), l1, l2, l3, l4, l5, l6, l7] (.ref x :: st) P) : X w mL_law d Q 395 [some (.ref x), l1, l2, l3, l4, l5, l6, l7] st P := X_aload_n (M := mL_law) (dL_law_395) rfl rfl k
theorem dL_law_396 : decode cL_law 396 = .ok (.iload 4, 2) := by decide +kernel
theorem sL_law_396 {l0 l1 l2 l3 l5 l6 l7 : Option Value} {x : Int32} (k : X w mL_law d Q 398 [l0, l1, l2, l3, some (.int x), l5, l6, l7] (.int x :: st) P) : X w mL_law d Q 396 [l0, l1, l2, l3, some (.int x), l5, l6, l7] st P := X_iload (M := mL_law) (dL_law_396) rfl k
theorem dL_law_398 : decode cL_law 398 = .ok (.iconst 1, 1) := by decide +kernel
theorem sL_law_398 (k : X w mL_law d Q 399 ls (.int (1 : Int32) :: st) P) : X w mL_law d Q 398 ls st P := X_iconst (M := mL_law) (dL_law_398) (by decide) k
theorem dL_law_399 : decode cL_law 399 = .ok (.iadd, 1) := by decide +kernel
theorem sL_law_399 {x y : Int32} (k : X w mL_law d Q 400 ls (.int (x + y) :: st) P) : X w mL_law d Q 399 ls (.int y :: .int x :: st) P := X_iadd (M := mL_law) (dL_law_399) k
theorem dL_law_400 : decode cL_law 400 = .ok (.iaload, 1) := by decide +kernel
theorem sL_law_400 {a n : Nat} {f : Nat → Int32} {i : Int32} (hP : P.1 a = some (xA 0 n f)) (hi : vp_in i n) (k : X w mL_law d Q 401 ls (.int (f i.toNatClampNeg) :: st) P) : X w mL_law d Q 400 ls (.int i :: .ref a :: st) P := X_iald (M := mL_law) (dL_law_400) hP hi k
theorem dL_law_401 : decode cL_law 401 = .ok (.aload_n 0, 1) := by decide +kernel
theorem sL_law_401 {l1 l2 l3 l4 l5 l6 l7 : Option Value} {x : Nat} (k : X w mL_law d Q 402 [some (.ref x), l1, l2, l3, l4, l5, l6, l7] (.ref x :: st) P) : X w mL_law d Q 401 [some (.ref x), l1, l2, l3, l4, l5, l6, l7] st P := X_aload_n (M := mL_law) (dL_law_401) rfl rfl k
theorem dL_law_402 : decode cL_law 402 = .ok (.iload 4, 2) := by decide +kernel
theorem sL_law_402 {l0 l1 l2 l3 l5 l6 l7 : Option Value} {x : Int32} (k : X w mL_law d Q 404 [l0, l1, l2, l3, some (.int x), l5, l6, l7] (.int x :: st) P) : X w mL_law d Q 402 [l0, l1, l2, l3, some (.int x), l5, l6, l7] st P := X_iload (M := mL_law) (dL_law_402) rfl k
theorem dL_law_404 : decode cL_law 404 = .ok (.iconst 2, 1) := by decide +kernel
theorem sL_law_404 (k : X w mL_law d Q 405 ls (.int (2 : Int32) :: st) P) : X w mL_law d Q 404 ls st P := X_iconst (M := mL_law) (dL_law_404) (by decide) k
theorem dL_law_405 : decode cL_law 405 = .ok (.iadd, 1) := by decide +kernel
theorem sL_law_405 {x y : Int32} (k : X w mL_law d Q 406 ls (.int (x + y) :: st) P) : X w mL_law d Q 405 ls (.int y :: .int x :: st) P := X_iadd (M := mL_law) (dL_law_405) k
theorem dL_law_406 : decode cL_law 406 = .ok (.iaload, 1) := by decide +kernel
theorem sL_law_406 {a n : Nat} {f : Nat → Int32} {i : Int32} (hP : P.1 a = some (xA 0 n f)) (hi : vp_in i n) (k : X w mL_law d Q 407 ls (.int (f i.toNatClampNeg) :: st) P) : X w mL_law d Q 406 ls (.int i :: .ref a :: st) P := X_iald (M := mL_law) (dL_law_406) hP hi k
theorem dL_law_407 : decode cL_law 407 = .ok (.aload_n 0, 1) := by decide +kernel
theorem sL_law_407 {l1 l2 l3 l4 l5 l6 l7 : Option Value} {x : Nat} (k : X w mL_law d Q 408 [some (.ref x), l1, l2, l3, l4, l5, l6, l7] (.ref x :: st) P) : X w mL_law d Q 407 [some (.ref x), l1, l2, l3, l4, l5, l6, l7] st P := X_aload_n (M := mL_law) (dL_law_407) rfl rfl k
theorem dL_law_408 : decode cL_law 408 = .ok (.iload 4, 2) := by decide +kernel
theorem sL_law_408 {l0 l1 l2 l3 l5 l6 l7 : Option Value} {x : Int32} (k : X w mL_law d Q 410 [l0, l1, l2, l3, some (.int x), l5, l6, l7] (.int x :: st) P) : X w mL_law d Q 408 [l0, l1, l2, l3, some (.int x), l5, l6, l7] st P := X_iload (M := mL_law) (dL_law_408) rfl k
theorem dL_law_410 : decode cL_law 410 = .ok (.iconst 3, 1) := by decide +kernel
theorem sL_law_410 (k : X w mL_law d Q 411 ls (.int (3 : Int32) :: st) P) : X w mL_law d Q 410 ls st P := X_iconst (M := mL_law) (dL_law_410) (by decide) k
theorem dL_law_411 : decode cL_law 411 = .ok (.iadd, 1) := by decide +kernel
theorem sL_law_411 {x y : Int32} (k : X w mL_law d Q 412 ls (.int (x + y) :: st) P) : X w mL_law d Q 411 ls (.int y :: .int x :: st) P := X_iadd (M := mL_law) (dL_law_411) k
theorem dL_law_412 : decode cL_law 412 = .ok (.iaload, 1) := by decide +kernel
theorem sL_law_412 {a n : Nat} {f : Nat → Int32} {i : Int32} (hP : P.1 a = some (xA 0 n f)) (hi : vp_in i n) (k : X w mL_law d Q 413 ls (.int (f i.toNatClampNeg) :: st) P) : X w mL_law d Q 412 ls (.int i :: .ref a :: st) P := X_iald (M := mL_law) (dL_law_412) hP hi k
theorem dL_law_413 : decode cL_law 413 = .ok (.aload_n 3, 1) := by decide +kernel
theorem sL_law_413 {l0 l1 l2 l4 l5 l6 l7 : Option Value} {x : Nat} (k : X w mL_law d Q 414 [l0, l1, l2, some (.ref x), l4, l5, l6, l7] (.ref x :: st) P) : X w mL_law d Q 413 [l0, l1, l2, some (.ref x), l4, l5, l6, l7] st P := X_aload_n (M := mL_law) (dL_law_413) rfl rfl k
theorem dL_law_414 : decode cL_law 414 = .ok (.invokestatic 89, 3) := by decide +kernel
theorem sL_law_414_g {a0 : Nat} {a1 : Int32} {a2 : Int32} {a3 : Int32} {a4 : Nat} {Qc : Outcome → xH → Prop} (hst : (st.map fun v => v.category).sum ≤ 8) (hC : xC w d mL_arc [.ref a0, .int a1, .int a2, .int a3, .ref a4] P Qc) (kr : ∀ v P1, Qc (.returned v) P1 → X w mL_law (d + 1) Q 417 ls (v.toList ++ st) P1) (kt : ∀ q P1, Qc (.threw q) P1 → Xt w mL_law (d + 1) Q 414 ls st P1 q) : X w mL_law (d + 1) Q 414 ls (.ref a4 :: .int a3 :: .int a2 :: .int a1 :: .ref a0 :: st) P := X_callS (M := mL_law) (MC := mL_arc) (As := [.ref a0, .int a1, .int a2, .int a3, .ref a4]) (dL_law_414) calL_arc xw_647 xw_648 rfl hC hst kr kt
theorem sL_law_414 {a0 : Nat} {a1 : Int32} {a2 : Int32} {a3 : Int32} {a4 : Nat} {r : Int32} {P1 : xH} (hst : (st.map fun v => v.category).sum ≤ 8) (hC : xC w d mL_arc [.ref a0, .int a1, .int a2, .int a3, .ref a4] P (xRet (some (.int r)) P1)) (k : X w mL_law (d + 1) Q 417 ls (.int r :: st) P1) : X w mL_law (d + 1) Q 414 ls (.ref a4 :: .int a3 :: .int a2 :: .int a1 :: .ref a0 :: st) P := X_callS (M := mL_law) (MC := mL_arc) (As := [.ref a0, .int a1, .int a2, .int a3, .ref a4]) (dL_law_414) calL_arc xw_647 xw_648 rfl hC hst (fun v P2 h => by obtain ⟨h1, rfl⟩ := h; cases h1; exact k) (fun q P2 h => by cases h.1)
theorem sL_law_414_r {a0 : Nat} {a1 : Int32} {a2 : Int32} {a3 : Int32} {a4 : Nat} {r : Int32} {Rp : xH → Prop} (hst : (st.map fun v => v.category).sum ≤ 8) (hC : xC w d mL_arc [.ref a0, .int a1, .int a2, .int a3, .ref a4] P (xRl (some (.int r)) Rp)) (k : ∀ P1, Rp P1 → X w mL_law (d + 1) Q 417 ls (.int r :: st) P1) : X w mL_law (d + 1) Q 414 ls (.ref a4 :: .int a3 :: .int a2 :: .int a1 :: .ref a0 :: st) P := X_callS (M := mL_law) (MC := mL_arc) (As := [.ref a0, .int a1, .int a2, .int a3, .ref a4]) (dL_law_414) calL_arc xw_647 xw_648 rfl hC hst (fun v P2 h => by obtain ⟨h1, hR⟩ := h; cases h1; exact k P2 hR) (fun q P2 h => by cases h.1)
theorem sL_law_414_t {a0 : Nat} {a1 : Int32} {a2 : Int32} {a3 : Int32} {a4 : Nat} {q : Nat} {P1 : xH} (hst : (st.map fun v => v.category).sum ≤ 8) (hC : xC w d mL_arc [.ref a0, .int a1, .int a2, .int a3, .ref a4] P (xThr q P1)) (hq : Q (.threw q) P1) : X w mL_law (d + 1) Q 414 ls (.ref a4 :: .int a3 :: .int a2 :: .int a1 :: .ref a0 :: st) P := X_callS (M := mL_law) (MC := mL_arc) (As := [.ref a0, .int a1, .int a2, .int a3, .ref a4]) (dL_law_414) calL_arc xw_647 xw_648 rfl hC hst (fun v P2 h => by cases h.1) (fun q2 P2 h => by obtain ⟨h1, rfl⟩ := h; cases h1; exact Xt_out rfl hq)
theorem dL_law_417 : decode cL_law 417 = .ok (.istore 5, 2) := by decide +kernel
theorem sL_law_417 {l0 l1 l2 l3 l4 l5 l6 l7 : Option Value} {x : Int32} (hn : xnl l4 = true) (k : X w mL_law d Q 419 [l0, l1, l2, l3, l4, some (.int x), l6, l7] st P) : X w mL_law d Q 417 [l0, l1, l2, l3, l4, l5, l6, l7] (.int x :: st) P := X_istore (M := mL_law) (dL_law_417) (by decide) rfl (xnl_p (ls := [l0, l1, l2, l3, l4, l5, l6, l7]) (j := 4) rfl hn) k
theorem dL_law_419 : decode cL_law 419 = .ok (.aload_n 2, 1) := by decide +kernel
theorem sL_law_419 {l0 l1 l3 l4 l5 l6 l7 : Option Value} {x : Nat} (k : X w mL_law d Q 420 [l0, l1, some (.ref x), l3, l4, l5, l6, l7] (.ref x :: st) P) : X w mL_law d Q 419 [l0, l1, some (.ref x), l3, l4, l5, l6, l7] st P := X_aload_n (M := mL_law) (dL_law_419) rfl rfl k
theorem dL_law_420 : decode cL_law 420 = .ok (.aload_n 0, 1) := by decide +kernel
theorem sL_law_420 {l1 l2 l3 l4 l5 l6 l7 : Option Value} {x : Nat} (k : X w mL_law d Q 421 [some (.ref x), l1, l2, l3, l4, l5, l6, l7] (.ref x :: st) P) : X w mL_law d Q 420 [some (.ref x), l1, l2, l3, l4, l5, l6, l7] st P := X_aload_n (M := mL_law) (dL_law_420) rfl rfl k
theorem dL_law_421 : decode cL_law 421 = .ok (.iload 4, 2) := by decide +kernel
theorem sL_law_421 {l0 l1 l2 l3 l5 l6 l7 : Option Value} {x : Int32} (k : X w mL_law d Q 423 [l0, l1, l2, l3, some (.int x), l5, l6, l7] (.int x :: st) P) : X w mL_law d Q 421 [l0, l1, l2, l3, some (.int x), l5, l6, l7] st P := X_iload (M := mL_law) (dL_law_421) rfl k
theorem dL_law_423 : decode cL_law 423 = .ok (.iconst 1, 1) := by decide +kernel
theorem sL_law_423 (k : X w mL_law d Q 424 ls (.int (1 : Int32) :: st) P) : X w mL_law d Q 423 ls st P := X_iconst (M := mL_law) (dL_law_423) (by decide) k
theorem dL_law_424 : decode cL_law 424 = .ok (.iadd, 1) := by decide +kernel
theorem sL_law_424 {x y : Int32} (k : X w mL_law d Q 425 ls (.int (x + y) :: st) P) : X w mL_law d Q 424 ls (.int y :: .int x :: st) P := X_iadd (M := mL_law) (dL_law_424) k
theorem dL_law_425 : decode cL_law 425 = .ok (.iaload, 1) := by decide +kernel
theorem sL_law_425 {a n : Nat} {f : Nat → Int32} {i : Int32} (hP : P.1 a = some (xA 0 n f)) (hi : vp_in i n) (k : X w mL_law d Q 426 ls (.int (f i.toNatClampNeg) :: st) P) : X w mL_law d Q 425 ls (.int i :: .ref a :: st) P := X_iald (M := mL_law) (dL_law_425) hP hi k
theorem dL_law_426 : decode cL_law 426 = .ok (.aload_n 0, 1) := by decide +kernel
theorem sL_law_426 {l1 l2 l3 l4 l5 l6 l7 : Option Value} {x : Nat} (k : X w mL_law d Q 427 [some (.ref x), l1, l2, l3, l4, l5, l6, l7] (.ref x :: st) P) : X w mL_law d Q 426 [some (.ref x), l1, l2, l3, l4, l5, l6, l7] st P := X_aload_n (M := mL_law) (dL_law_426) rfl rfl k
theorem dL_law_427 : decode cL_law 427 = .ok (.iload 4, 2) := by decide +kernel
theorem sL_law_427 {l0 l1 l2 l3 l5 l6 l7 : Option Value} {x : Int32} (k : X w mL_law d Q 429 [l0, l1, l2, l3, some (.int x), l5, l6, l7] (.int x :: st) P) : X w mL_law d Q 427 [l0, l1, l2, l3, some (.int x), l5, l6, l7] st P := X_iload (M := mL_law) (dL_law_427) rfl k
theorem dL_law_429 : decode cL_law 429 = .ok (.iconst 2, 1) := by decide +kernel
theorem sL_law_429 (k : X w mL_law d Q 430 ls (.int (2 : Int32) :: st) P) : X w mL_law d Q 429 ls st P := X_iconst (M := mL_law) (dL_law_429) (by decide) k
theorem dL_law_430 : decode cL_law 430 = .ok (.iadd, 1) := by decide +kernel
theorem sL_law_430 {x y : Int32} (k : X w mL_law d Q 431 ls (.int (x + y) :: st) P) : X w mL_law d Q 430 ls (.int y :: .int x :: st) P := X_iadd (M := mL_law) (dL_law_430) k
theorem dL_law_431 : decode cL_law 431 = .ok (.iaload, 1) := by decide +kernel
theorem sL_law_431 {a n : Nat} {f : Nat → Int32} {i : Int32} (hP : P.1 a = some (xA 0 n f)) (hi : vp_in i n) (k : X w mL_law d Q 432 ls (.int (f i.toNatClampNeg) :: st) P) : X w mL_law d Q 431 ls (.int i :: .ref a :: st) P := X_iald (M := mL_law) (dL_law_431) hP hi k
theorem dL_law_432 : decode cL_law 432 = .ok (.aload_n 0, 1) := by decide +kernel
theorem sL_law_432 {l1 l2 l3 l4 l5 l6 l7 : Option Value} {x : Nat} (k : X w mL_law d Q 433 [some (.ref x), l1, l2, l3, l4, l5, l6, l7] (.ref x :: st) P) : X w mL_law d Q 432 [some (.ref x), l1, l2, l3, l4, l5, l6, l7] st P := X_aload_n (M := mL_law) (dL_law_432) rfl rfl k
theorem dL_law_433 : decode cL_law 433 = .ok (.iload 4, 2) := by decide +kernel
theorem sL_law_433 {l0 l1 l2 l3 l5 l6 l7 : Option Value} {x : Int32} (k : X w mL_law d Q 435 [l0, l1, l2, l3, some (.int x), l5, l6, l7] (.int x :: st) P) : X w mL_law d Q 433 [l0, l1, l2, l3, some (.int x), l5, l6, l7] st P := X_iload (M := mL_law) (dL_law_433) rfl k
theorem dL_law_435 : decode cL_law 435 = .ok (.iconst 3, 1) := by decide +kernel
theorem sL_law_435 (k : X w mL_law d Q 436 ls (.int (3 : Int32) :: st) P) : X w mL_law d Q 435 ls st P := X_iconst (M := mL_law) (dL_law_435) (by decide) k
theorem dL_law_436 : decode cL_law 436 = .ok (.iadd, 1) := by decide +kernel
theorem sL_law_436 {x y : Int32} (k : X w mL_law d Q 437 ls (.int (x + y) :: st) P) : X w mL_law d Q 436 ls (.int y :: .int x :: st) P := X_iadd (M := mL_law) (dL_law_436) k
theorem dL_law_437 : decode cL_law 437 = .ok (.iaload, 1) := by decide +kernel
theorem sL_law_437 {a n : Nat} {f : Nat → Int32} {i : Int32} (hP : P.1 a = some (xA 0 n f)) (hi : vp_in i n) (k : X w mL_law d Q 438 ls (.int (f i.toNatClampNeg) :: st) P) : X w mL_law d Q 437 ls (.int i :: .ref a :: st) P := X_iald (M := mL_law) (dL_law_437) hP hi k
theorem dL_law_438 : decode cL_law 438 = .ok (.invokevirtual 91, 3) := by decide +kernel
theorem sL_law_438_g {b : Nat} {fs : List Value} {a0 : Int32} {a1 : Int32} {a2 : Int32} {Qc : Outcome → xH → Prop} (hst : (st.map fun v => v.category).sum ≤ 8) (hP : P.1 b = some (xO 9 fs)) (hC : xC w d mX11_arc [.ref b, .int a0, .int a1, .int a2] P Qc) (kr : ∀ v P1, Qc (.returned v) P1 → X w mL_law (d + 1) Q 441 ls (v.toList ++ st) P1) (kt : ∀ q P1, Qc (.threw q) P1 → Xt w mL_law (d + 1) Q 438 ls st P1 q) : X w mL_law (d + 1) Q 438 ls (.int a2 :: .int a1 :: .int a0 :: .ref b :: st) P := X_callV (M := mL_law) (MC := mX11_arc) (As := [.int a0, .int a1, .int a2]) (T := TX11) (dL_law_438) calX11_arc xw_649 xw_650 xw_651 rfl rfl hP hC hst kr kt
theorem sL_law_438 {b : Nat} {fs : List Value} {a0 : Int32} {a1 : Int32} {a2 : Int32} {r : Int32} {P1 : xH} (hst : (st.map fun v => v.category).sum ≤ 8) (hP : P.1 b = some (xO 9 fs)) (hC : xC w d mX11_arc [.ref b, .int a0, .int a1, .int a2] P (xRet (some (.int r)) P1)) (k : X w mL_law (d + 1) Q 441 ls (.int r :: st) P1) : X w mL_law (d + 1) Q 438 ls (.int a2 :: .int a1 :: .int a0 :: .ref b :: st) P := X_callV (M := mL_law) (MC := mX11_arc) (As := [.int a0, .int a1, .int a2]) (T := TX11) (dL_law_438) calX11_arc xw_649 xw_650 xw_651 rfl rfl hP hC hst (fun v P2 h => by obtain ⟨h1, rfl⟩ := h; cases h1; exact k) (fun q P2 h => by cases h.1)
theorem sL_law_438_r {b : Nat} {fs : List Value} {a0 : Int32} {a1 : Int32} {a2 : Int32} {r : Int32} {Rp : xH → Prop} (hst : (st.map fun v => v.category).sum ≤ 8) (hP : P.1 b = some (xO 9 fs)) (hC : xC w d mX11_arc [.ref b, .int a0, .int a1, .int a2] P (xRl (some (.int r)) Rp)) (k : ∀ P1, Rp P1 → X w mL_law (d + 1) Q 441 ls (.int r :: st) P1) : X w mL_law (d + 1) Q 438 ls (.int a2 :: .int a1 :: .int a0 :: .ref b :: st) P := X_callV (M := mL_law) (MC := mX11_arc) (As := [.int a0, .int a1, .int a2]) (T := TX11) (dL_law_438) calX11_arc xw_649 xw_650 xw_651 rfl rfl hP hC hst (fun v P2 h => by obtain ⟨h1, hR⟩ := h; cases h1; exact k P2 hR) (fun q P2 h => by cases h.1)
theorem sL_law_438_t {b : Nat} {fs : List Value} {a0 : Int32} {a1 : Int32} {a2 : Int32} {q : Nat} {P1 : xH} (hst : (st.map fun v => v.category).sum ≤ 8) (hP : P.1 b = some (xO 9 fs)) (hC : xC w d mX11_arc [.ref b, .int a0, .int a1, .int a2] P (xThr q P1)) (hq : Q (.threw q) P1) : X w mL_law (d + 1) Q 438 ls (.int a2 :: .int a1 :: .int a0 :: .ref b :: st) P := X_callV (M := mL_law) (MC := mX11_arc) (As := [.int a0, .int a1, .int a2]) (T := TX11) (dL_law_438) calX11_arc xw_649 xw_650 xw_651 rfl rfl hP hC hst (fun v P2 h => by cases h.1) (fun q2 P2 h => by obtain ⟨h1, rfl⟩ := h; cases h1; exact Xt_out rfl hq)
theorem dL_law_441 : decode cL_law 441 = .ok (.istore 6, 2) := by decide +kernel
theorem sL_law_441 {l0 l1 l2 l3 l4 l5 l6 l7 : Option Value} {x : Int32} (hn : xnl l5 = true) (k : X w mL_law d Q 443 [l0, l1, l2, l3, l4, l5, some (.int x), l7] st P) : X w mL_law d Q 441 [l0, l1, l2, l3, l4, l5, l6, l7] (.int x :: st) P := X_istore (M := mL_law) (dL_law_441) (by decide) rfl (xnl_p (ls := [l0, l1, l2, l3, l4, l5, l6, l7]) (j := 5) rfl hn) k
theorem dL_law_443 : decode cL_law 443 = .ok (.aload_n 2, 1) := by decide +kernel
theorem sL_law_443 {l0 l1 l3 l4 l5 l6 l7 : Option Value} {x : Nat} (k : X w mL_law d Q 444 [l0, l1, some (.ref x), l3, l4, l5, l6, l7] (.ref x :: st) P) : X w mL_law d Q 443 [l0, l1, some (.ref x), l3, l4, l5, l6, l7] st P := X_aload_n (M := mL_law) (dL_law_443) rfl rfl k
theorem dL_law_444 : decode cL_law 444 = .ok (.invokevirtual 79, 3) := by decide +kernel
theorem sL_law_444_g {b : Nat} {fs : List Value}  {Qc : Outcome → xH → Prop} (hst : (st.map fun v => v.category).sum ≤ 8) (hP : P.1 b = some (xO 9 fs)) (hC : xC w d mX11_thrown [.ref b] P Qc) (kr : ∀ v P1, Qc (.returned v) P1 → X w mL_law (d + 1) Q 447 ls (v.toList ++ st) P1) (kt : ∀ q P1, Qc (.threw q) P1 → Xt w mL_law (d + 1) Q 444 ls st P1 q) : X w mL_law (d + 1) Q 444 ls (.ref b :: st) P := X_callV (M := mL_law) (MC := mX11_thrown) (As := []) (T := TX11) (dL_law_444) calX11_thrown xw_634 xw_635 xw_636 rfl rfl hP hC hst kr kt
theorem sL_law_444 {b : Nat} {fs : List Value}  {r : Int32} {P1 : xH} (hst : (st.map fun v => v.category).sum ≤ 8) (hP : P.1 b = some (xO 9 fs)) (hC : xC w d mX11_thrown [.ref b] P (xRet (some (.int r)) P1)) (k : X w mL_law (d + 1) Q 447 ls (.int r :: st) P1) : X w mL_law (d + 1) Q 444 ls (.ref b :: st) P := X_callV (M := mL_law) (MC := mX11_thrown) (As := []) (T := TX11) (dL_law_444) calX11_thrown xw_634 xw_635 xw_636 rfl rfl hP hC hst (fun v P2 h => by obtain ⟨h1, rfl⟩ := h; cases h1; exact k) (fun q P2 h => by cases h.1)
theorem sL_law_444_r {b : Nat} {fs : List Value}  {r : Int32} {Rp : xH → Prop} (hst : (st.map fun v => v.category).sum ≤ 8) (hP : P.1 b = some (xO 9 fs)) (hC : xC w d mX11_thrown [.ref b] P (xRl (some (.int r)) Rp)) (k : ∀ P1, Rp P1 → X w mL_law (d + 1) Q 447 ls (.int r :: st) P1) : X w mL_law (d + 1) Q 444 ls (.ref b :: st) P := X_callV (M := mL_law) (MC := mX11_thrown) (As := []) (T := TX11) (dL_law_444) calX11_thrown xw_634 xw_635 xw_636 rfl rfl hP hC hst (fun v P2 h => by obtain ⟨h1, hR⟩ := h; cases h1; exact k P2 hR) (fun q P2 h => by cases h.1)
theorem sL_law_444_t {b : Nat} {fs : List Value}  {q : Nat} {P1 : xH} (hst : (st.map fun v => v.category).sum ≤ 8) (hP : P.1 b = some (xO 9 fs)) (hC : xC w d mX11_thrown [.ref b] P (xThr q P1)) (hq : Q (.threw q) P1) : X w mL_law (d + 1) Q 444 ls (.ref b :: st) P := X_callV (M := mL_law) (MC := mX11_thrown) (As := []) (T := TX11) (dL_law_444) calX11_thrown xw_634 xw_635 xw_636 rfl rfl hP hC hst (fun v P2 h => by cases h.1) (fun q2 P2 h => by obtain ⟨h1, rfl⟩ := h; cases h1; exact Xt_out rfl hq)
theorem dL_law_447 : decode cL_law 447 = .ok (.iload 5, 2) := by decide +kernel
theorem sL_law_447 {l0 l1 l2 l3 l4 l6 l7 : Option Value} {x : Int32} (k : X w mL_law d Q 449 [l0, l1, l2, l3, l4, some (.int x), l6, l7] (.int x :: st) P) : X w mL_law d Q 447 [l0, l1, l2, l3, l4, some (.int x), l6, l7] st P := X_iload (M := mL_law) (dL_law_447) rfl k
theorem dL_law_449 : decode cL_law 449 = .ok (.if_icmp .eq 5, 3) := by decide +kernel
theorem sL_law_449 {x y : Int32} (kt : x = y → X w mL_law d Q 454 ls st P) (kf : ¬ x = y → X w mL_law d Q 452 ls st P) : X w mL_law d Q 449 ls (.int y :: .int x :: st) P := X_icmp_eq (M := mL_law) (dL_law_449) (by decide) kt kf
theorem dL_law_452 : decode cL_law 452 = .ok (.iconst 0, 1) := by decide +kernel
theorem sL_law_452 (k : X w mL_law d Q 453 ls (.int (0 : Int32) :: st) P) : X w mL_law d Q 452 ls st P := X_iconst (M := mL_law) (dL_law_452) (by decide) k
theorem dL_law_453 : decode cL_law 453 = .ok (.ireturn, 1) := by decide +kernel
theorem sL_law_453 {v : Int32} (hb : v = 0 ∨ v = 1) (hq : Q (.returned (some (.int v))) P) : X w mL_law d Q 453 ls [.int v] P := X_zret (M := mL_law) (ty := .boolean) (dL_law_453) rfl (xz_n hb) hq
theorem dL_law_454 : decode cL_law 454 = .ok (.iload 5, 2) := by decide +kernel
theorem sL_law_454 {l0 l1 l2 l3 l4 l6 l7 : Option Value} {x : Int32} (k : X w mL_law d Q 456 [l0, l1, l2, l3, l4, some (.int x), l6, l7] (.int x :: st) P) : X w mL_law d Q 454 [l0, l1, l2, l3, l4, some (.int x), l6, l7] st P := X_iload (M := mL_law) (dL_law_454) rfl k
theorem dL_law_456 : decode cL_law 456 = .ok (.ifCond .ne 15, 3) := by decide +kernel
theorem sL_law_456 {x : Int32} (kt : ¬ x = 0 → X w mL_law d Q 471 ls st P) (kf : x = 0 → X w mL_law d Q 459 ls st P) : X w mL_law d Q 456 ls (.int x :: st) P := X_if_ne (M := mL_law) (dL_law_456) (by decide) kt kf
theorem dL_law_459 : decode cL_law 459 = .ok (.aload_n 3, 1) := by decide +kernel
theorem sL_law_459 {l0 l1 l2 l4 l5 l6 l7 : Option Value} {x : Nat} (k : X w mL_law d Q 460 [l0, l1, l2, some (.ref x), l4, l5, l6, l7] (.ref x :: st) P) : X w mL_law d Q 459 [l0, l1, l2, some (.ref x), l4, l5, l6, l7] st P := X_aload_n (M := mL_law) (dL_law_459) rfl rfl k
theorem dL_law_460 : decode cL_law 460 = .ok (.iconst 0, 1) := by decide +kernel
theorem sL_law_460 (k : X w mL_law d Q 461 ls (.int (0 : Int32) :: st) P) : X w mL_law d Q 460 ls st P := X_iconst (M := mL_law) (dL_law_460) (by decide) k
theorem dL_law_461 : decode cL_law 461 = .ok (.laload, 1) := by decide +kernel
theorem sL_law_461 {a n : Nat} {f : Nat → Int64} {i : Int32} (hP : P.1 a = some (xJ n f)) (hi : vp_in i n) (k : X w mL_law d Q 462 ls (.long (f i.toNatClampNeg) :: st) P) : X w mL_law d Q 461 ls (.int i :: .ref a :: st) P := X_lald (M := mL_law) (dL_law_461) hP hi k
theorem dL_law_462 : decode cL_law 462 = .ok (.iload 6, 2) := by decide +kernel
theorem sL_law_462 {l0 l1 l2 l3 l4 l5 l7 : Option Value} {x : Int32} (k : X w mL_law d Q 464 [l0, l1, l2, l3, l4, l5, some (.int x), l7] (.int x :: st) P) : X w mL_law d Q 462 [l0, l1, l2, l3, l4, l5, some (.int x), l7] st P := X_iload (M := mL_law) (dL_law_462) rfl k
theorem dL_law_464 : decode cL_law 464 = .ok (.i2l, 1) := by decide +kernel
theorem sL_law_464 {x : Int32} (k : X w mL_law d Q 465 ls (.long x.toInt64 :: st) P) : X w mL_law d Q 464 ls (.int x :: st) P := X_i2l (M := mL_law) (dL_law_464) k
theorem dL_law_465 : decode cL_law 465 = .ok (.lcmp, 1) := by decide +kernel
theorem sL_law_465 {x y : Int64} (k : X w mL_law d Q 466 ls (.int (lg_cmp x y) :: st) P) : X w mL_law d Q 465 ls (.long y :: .long x :: st) P := X_lcmp (M := mL_law) (dL_law_465) k
theorem dL_law_466 : decode cL_law 466 = .ok (.ifCond .eq 5, 3) := by decide +kernel
theorem sL_law_466 {x : Int32} (kt : x = 0 → X w mL_law d Q 471 ls st P) (kf : ¬ x = 0 → X w mL_law d Q 469 ls st P) : X w mL_law d Q 466 ls (.int x :: st) P := X_if_eq (M := mL_law) (dL_law_466) (by decide) kt kf
theorem dL_law_469 : decode cL_law 469 = .ok (.iconst 0, 1) := by decide +kernel
theorem sL_law_469 (k : X w mL_law d Q 470 ls (.int (0 : Int32) :: st) P) : X w mL_law d Q 469 ls st P := X_iconst (M := mL_law) (dL_law_469) (by decide) k
theorem dL_law_470 : decode cL_law 470 = .ok (.ireturn, 1) := by decide +kernel
theorem sL_law_470 {v : Int32} (hb : v = 0 ∨ v = 1) (hq : Q (.returned (some (.int v))) P) : X w mL_law d Q 470 ls [.int v] P := X_zret (M := mL_law) (ty := .boolean) (dL_law_470) rfl (xz_n hb) hq
theorem dL_law_471 : decode cL_law 471 = .ok (.goto 618, 3) := by decide +kernel
theorem sL_law_471 (k : X w mL_law d Q 1089 ls st P) : X w mL_law d Q 471 ls st P := X_goto (M := mL_law) (dL_law_471) (by decide) k
theorem dL_law_474 : decode cL_law 474 = .ok (.aload_n 1, 1) := by decide +kernel
theorem sL_law_474 {l0 l2 l3 l4 l5 l6 l7 : Option Value} {x : Nat} (k : X w mL_law d Q 475 [l0, some (.ref x), l2, l3, l4, l5, l6, l7] (.ref x :: st) P) : X w mL_law d Q 474 [l0, some (.ref x), l2, l3, l4, l5, l6, l7] st P := X_aload_n (M := mL_law) (dL_law_474) rfl rfl k
theorem dL_law_475 : decode cL_law 475 = .ok (.aload_n 0, 1) := by decide +kernel
theorem sL_law_475 {l1 l2 l3 l4 l5 l6 l7 : Option Value} {x : Nat} (k : X w mL_law d Q 476 [some (.ref x), l1, l2, l3, l4, l5, l6, l7] (.ref x :: st) P) : X w mL_law d Q 475 [some (.ref x), l1, l2, l3, l4, l5, l6, l7] st P := X_aload_n (M := mL_law) (dL_law_475) rfl rfl k
theorem dL_law_476 : decode cL_law 476 = .ok (.iload 4, 2) := by decide +kernel
theorem sL_law_476 {l0 l1 l2 l3 l5 l6 l7 : Option Value} {x : Int32} (k : X w mL_law d Q 478 [l0, l1, l2, l3, some (.int x), l5, l6, l7] (.int x :: st) P) : X w mL_law d Q 476 [l0, l1, l2, l3, some (.int x), l5, l6, l7] st P := X_iload (M := mL_law) (dL_law_476) rfl k
theorem dL_law_478 : decode cL_law 478 = .ok (.iconst 1, 1) := by decide +kernel
theorem sL_law_478 (k : X w mL_law d Q 479 ls (.int (1 : Int32) :: st) P) : X w mL_law d Q 478 ls st P := X_iconst (M := mL_law) (dL_law_478) (by decide) k
theorem dL_law_479 : decode cL_law 479 = .ok (.iadd, 1) := by decide +kernel
theorem sL_law_479 {x y : Int32} (k : X w mL_law d Q 480 ls (.int (x + y) :: st) P) : X w mL_law d Q 479 ls (.int y :: .int x :: st) P := X_iadd (M := mL_law) (dL_law_479) k
theorem dL_law_480 : decode cL_law 480 = .ok (.iaload, 1) := by decide +kernel
theorem sL_law_480 {a n : Nat} {f : Nat → Int32} {i : Int32} (hP : P.1 a = some (xA 0 n f)) (hi : vp_in i n) (k : X w mL_law d Q 481 ls (.int (f i.toNatClampNeg) :: st) P) : X w mL_law d Q 480 ls (.int i :: .ref a :: st) P := X_iald (M := mL_law) (dL_law_480) hP hi k
theorem dL_law_481 : decode cL_law 481 = .ok (.aload_n 0, 1) := by decide +kernel
theorem sL_law_481 {l1 l2 l3 l4 l5 l6 l7 : Option Value} {x : Nat} (k : X w mL_law d Q 482 [some (.ref x), l1, l2, l3, l4, l5, l6, l7] (.ref x :: st) P) : X w mL_law d Q 481 [some (.ref x), l1, l2, l3, l4, l5, l6, l7] st P := X_aload_n (M := mL_law) (dL_law_481) rfl rfl k
theorem dL_law_482 : decode cL_law 482 = .ok (.iload 4, 2) := by decide +kernel
theorem sL_law_482 {l0 l1 l2 l3 l5 l6 l7 : Option Value} {x : Int32} (k : X w mL_law d Q 484 [l0, l1, l2, l3, some (.int x), l5, l6, l7] (.int x :: st) P) : X w mL_law d Q 482 [l0, l1, l2, l3, some (.int x), l5, l6, l7] st P := X_iload (M := mL_law) (dL_law_482) rfl k
theorem dL_law_484 : decode cL_law 484 = .ok (.iconst 2, 1) := by decide +kernel
theorem sL_law_484 (k : X w mL_law d Q 485 ls (.int (2 : Int32) :: st) P) : X w mL_law d Q 484 ls st P := X_iconst (M := mL_law) (dL_law_484) (by decide) k
theorem dL_law_485 : decode cL_law 485 = .ok (.iadd, 1) := by decide +kernel
theorem sL_law_485 {x y : Int32} (k : X w mL_law d Q 486 ls (.int (x + y) :: st) P) : X w mL_law d Q 485 ls (.int y :: .int x :: st) P := X_iadd (M := mL_law) (dL_law_485) k
theorem dL_law_486 : decode cL_law 486 = .ok (.iaload, 1) := by decide +kernel
theorem sL_law_486 {a n : Nat} {f : Nat → Int32} {i : Int32} (hP : P.1 a = some (xA 0 n f)) (hi : vp_in i n) (k : X w mL_law d Q 487 ls (.int (f i.toNatClampNeg) :: st) P) : X w mL_law d Q 486 ls (.int i :: .ref a :: st) P := X_iald (M := mL_law) (dL_law_486) hP hi k
theorem dL_law_487 : decode cL_law 487 = .ok (.aload_n 0, 1) := by decide +kernel
theorem sL_law_487 {l1 l2 l3 l4 l5 l6 l7 : Option Value} {x : Nat} (k : X w mL_law d Q 488 [some (.ref x), l1, l2, l3, l4, l5, l6, l7] (.ref x :: st) P) : X w mL_law d Q 487 [some (.ref x), l1, l2, l3, l4, l5, l6, l7] st P := X_aload_n (M := mL_law) (dL_law_487) rfl rfl k
theorem dL_law_488 : decode cL_law 488 = .ok (.iload 4, 2) := by decide +kernel
theorem sL_law_488 {l0 l1 l2 l3 l5 l6 l7 : Option Value} {x : Int32} (k : X w mL_law d Q 490 [l0, l1, l2, l3, some (.int x), l5, l6, l7] (.int x :: st) P) : X w mL_law d Q 488 [l0, l1, l2, l3, some (.int x), l5, l6, l7] st P := X_iload (M := mL_law) (dL_law_488) rfl k
theorem dL_law_490 : decode cL_law 490 = .ok (.iconst 3, 1) := by decide +kernel
theorem sL_law_490 (k : X w mL_law d Q 491 ls (.int (3 : Int32) :: st) P) : X w mL_law d Q 490 ls st P := X_iconst (M := mL_law) (dL_law_490) (by decide) k
theorem dL_law_491 : decode cL_law 491 = .ok (.iadd, 1) := by decide +kernel
theorem sL_law_491 {x y : Int32} (k : X w mL_law d Q 492 ls (.int (x + y) :: st) P) : X w mL_law d Q 491 ls (.int y :: .int x :: st) P := X_iadd (M := mL_law) (dL_law_491) k
theorem dL_law_492 : decode cL_law 492 = .ok (.iaload, 1) := by decide +kernel
theorem sL_law_492 {a n : Nat} {f : Nat → Int32} {i : Int32} (hP : P.1 a = some (xA 0 n f)) (hi : vp_in i n) (k : X w mL_law d Q 493 ls (.int (f i.toNatClampNeg) :: st) P) : X w mL_law d Q 492 ls (.int i :: .ref a :: st) P := X_iald (M := mL_law) (dL_law_492) hP hi k
theorem dL_law_493 : decode cL_law 493 = .ok (.aload_n 0, 1) := by decide +kernel
theorem sL_law_493 {l1 l2 l3 l4 l5 l6 l7 : Option Value} {x : Nat} (k : X w mL_law d Q 494 [some (.ref x), l1, l2, l3, l4, l5, l6, l7] (.ref x :: st) P) : X w mL_law d Q 493 [some (.ref x), l1, l2, l3, l4, l5, l6, l7] st P := X_aload_n (M := mL_law) (dL_law_493) rfl rfl k
theorem dL_law_494 : decode cL_law 494 = .ok (.iload 4, 2) := by decide +kernel
theorem sL_law_494 {l0 l1 l2 l3 l5 l6 l7 : Option Value} {x : Int32} (k : X w mL_law d Q 496 [l0, l1, l2, l3, some (.int x), l5, l6, l7] (.int x :: st) P) : X w mL_law d Q 494 [l0, l1, l2, l3, some (.int x), l5, l6, l7] st P := X_iload (M := mL_law) (dL_law_494) rfl k
theorem dL_law_496 : decode cL_law 496 = .ok (.iconst 4, 1) := by decide +kernel
theorem sL_law_496 (k : X w mL_law d Q 497 ls (.int (4 : Int32) :: st) P) : X w mL_law d Q 496 ls st P := X_iconst (M := mL_law) (dL_law_496) (by decide) k
theorem dL_law_497 : decode cL_law 497 = .ok (.iadd, 1) := by decide +kernel
theorem sL_law_497 {x y : Int32} (k : X w mL_law d Q 498 ls (.int (x + y) :: st) P) : X w mL_law d Q 497 ls (.int y :: .int x :: st) P := X_iadd (M := mL_law) (dL_law_497) k
theorem dL_law_498 : decode cL_law 498 = .ok (.iaload, 1) := by decide +kernel
theorem sL_law_498 {a n : Nat} {f : Nat → Int32} {i : Int32} (hP : P.1 a = some (xA 0 n f)) (hi : vp_in i n) (k : X w mL_law d Q 499 ls (.int (f i.toNatClampNeg) :: st) P) : X w mL_law d Q 498 ls (.int i :: .ref a :: st) P := X_iald (M := mL_law) (dL_law_498) hP hi k
theorem dL_law_499 : decode cL_law 499 = .ok (.aload_n 0, 1) := by decide +kernel
theorem sL_law_499 {l1 l2 l3 l4 l5 l6 l7 : Option Value} {x : Nat} (k : X w mL_law d Q 500 [some (.ref x), l1, l2, l3, l4, l5, l6, l7] (.ref x :: st) P) : X w mL_law d Q 499 [some (.ref x), l1, l2, l3, l4, l5, l6, l7] st P := X_aload_n (M := mL_law) (dL_law_499) rfl rfl k
theorem dL_law_500 : decode cL_law 500 = .ok (.iload 4, 2) := by decide +kernel
theorem sL_law_500 {l0 l1 l2 l3 l5 l6 l7 : Option Value} {x : Int32} (k : X w mL_law d Q 502 [l0, l1, l2, l3, some (.int x), l5, l6, l7] (.int x :: st) P) : X w mL_law d Q 500 [l0, l1, l2, l3, some (.int x), l5, l6, l7] st P := X_iload (M := mL_law) (dL_law_500) rfl k
theorem dL_law_502 : decode cL_law 502 = .ok (.iconst 5, 1) := by decide +kernel
theorem sL_law_502 (k : X w mL_law d Q 503 ls (.int (5 : Int32) :: st) P) : X w mL_law d Q 502 ls st P := X_iconst (M := mL_law) (dL_law_502) (by decide) k
theorem dL_law_503 : decode cL_law 503 = .ok (.iadd, 1) := by decide +kernel
theorem sL_law_503 {x y : Int32} (k : X w mL_law d Q 504 ls (.int (x + y) :: st) P) : X w mL_law d Q 503 ls (.int y :: .int x :: st) P := X_iadd (M := mL_law) (dL_law_503) k
theorem dL_law_504 : decode cL_law 504 = .ok (.iaload, 1) := by decide +kernel
theorem sL_law_504 {a n : Nat} {f : Nat → Int32} {i : Int32} (hP : P.1 a = some (xA 0 n f)) (hi : vp_in i n) (k : X w mL_law d Q 505 ls (.int (f i.toNatClampNeg) :: st) P) : X w mL_law d Q 504 ls (.int i :: .ref a :: st) P := X_iald (M := mL_law) (dL_law_504) hP hi k
theorem dL_law_505 : decode cL_law 505 = .ok (.ifCond .eq 7, 3) := by decide +kernel
theorem sL_law_505 {x : Int32} (kt : x = 0 → X w mL_law d Q 512 ls st P) (kf : ¬ x = 0 → X w mL_law d Q 508 ls st P) : X w mL_law d Q 505 ls (.int x :: st) P := X_if_eq (M := mL_law) (dL_law_505) (by decide) kt kf
theorem dL_law_508 : decode cL_law 508 = .ok (.iconst 1, 1) := by decide +kernel
theorem sL_law_508 (k : X w mL_law d Q 509 ls (.int (1 : Int32) :: st) P) : X w mL_law d Q 508 ls st P := X_iconst (M := mL_law) (dL_law_508) (by decide) k
theorem dL_law_509 : decode cL_law 509 = .ok (.goto 4, 3) := by decide +kernel
theorem sL_law_509 (k : X w mL_law d Q 513 ls st P) : X w mL_law d Q 509 ls st P := X_goto (M := mL_law) (dL_law_509) (by decide) k
theorem dL_law_512 : decode cL_law 512 = .ok (.iconst 0, 1) := by decide +kernel
theorem sL_law_512 (k : X w mL_law d Q 513 ls (.int (0 : Int32) :: st) P) : X w mL_law d Q 512 ls st P := X_iconst (M := mL_law) (dL_law_512) (by decide) k
theorem dL_law_513 : decode cL_law 513 = .ok (.aload_n 3, 1) := by decide +kernel
theorem sL_law_513 {l0 l1 l2 l4 l5 l6 l7 : Option Value} {x : Nat} (k : X w mL_law d Q 514 [l0, l1, l2, some (.ref x), l4, l5, l6, l7] (.ref x :: st) P) : X w mL_law d Q 513 [l0, l1, l2, some (.ref x), l4, l5, l6, l7] st P := X_aload_n (M := mL_law) (dL_law_513) rfl rfl k
theorem dL_law_514 : decode cL_law 514 = .ok (.invokestatic 92, 3) := by decide +kernel
theorem sL_law_514_g {a0 : Nat} {a1 : Int32} {a2 : Int32} {a3 : Int32} {a4 : Int32} {a5 : Int32} {a6 : Nat} {Qc : Outcome → xH → Prop} (hst : (st.map fun v => v.category).sum ≤ 8) (hC : xC w d mL_delay [.ref a0, .int a1, .int a2, .int a3, .int a4, .int a5, .ref a6] P Qc) (kr : ∀ v P1, Qc (.returned v) P1 → X w mL_law (d + 1) Q 517 ls (v.toList ++ st) P1) (kt : ∀ q P1, Qc (.threw q) P1 → Xt w mL_law (d + 1) Q 514 ls st P1 q) : X w mL_law (d + 1) Q 514 ls (.ref a6 :: .int a5 :: .int a4 :: .int a3 :: .int a2 :: .int a1 :: .ref a0 :: st) P := X_callS (M := mL_law) (MC := mL_delay) (As := [.ref a0, .int a1, .int a2, .int a3, .int a4, .int a5, .ref a6]) (dL_law_514) calL_delay xw_652 xw_653 rfl hC hst kr kt
theorem sL_law_514 {a0 : Nat} {a1 : Int32} {a2 : Int32} {a3 : Int32} {a4 : Int32} {a5 : Int32} {a6 : Nat} {r : Int32} {P1 : xH} (hst : (st.map fun v => v.category).sum ≤ 8) (hC : xC w d mL_delay [.ref a0, .int a1, .int a2, .int a3, .int a4, .int a5, .ref a6] P (xRet (some (.int r)) P1)) (k : X w mL_law (d + 1) Q 517 ls (.int r :: st) P1) : X w mL_law (d + 1) Q 514 ls (.ref a6 :: .int a5 :: .int a4 :: .int a3 :: .int a2 :: .int a1 :: .ref a0 :: st) P := X_callS (M := mL_law) (MC := mL_delay) (As := [.ref a0, .int a1, .int a2, .int a3, .int a4, .int a5, .ref a6]) (dL_law_514) calL_delay xw_652 xw_653 rfl hC hst (fun v P2 h => by obtain ⟨h1, rfl⟩ := h; cases h1; exact k) (fun q P2 h => by cases h.1)
theorem sL_law_514_r {a0 : Nat} {a1 : Int32} {a2 : Int32} {a3 : Int32} {a4 : Int32} {a5 : Int32} {a6 : Nat} {r : Int32} {Rp : xH → Prop} (hst : (st.map fun v => v.category).sum ≤ 8) (hC : xC w d mL_delay [.ref a0, .int a1, .int a2, .int a3, .int a4, .int a5, .ref a6] P (xRl (some (.int r)) Rp)) (k : ∀ P1, Rp P1 → X w mL_law (d + 1) Q 517 ls (.int r :: st) P1) : X w mL_law (d + 1) Q 514 ls (.ref a6 :: .int a5 :: .int a4 :: .int a3 :: .int a2 :: .int a1 :: .ref a0 :: st) P := X_callS (M := mL_law) (MC := mL_delay) (As := [.ref a0, .int a1, .int a2, .int a3, .int a4, .int a5, .ref a6]) (dL_law_514) calL_delay xw_652 xw_653 rfl hC hst (fun v P2 h => by obtain ⟨h1, hR⟩ := h; cases h1; exact k P2 hR) (fun q P2 h => by cases h.1)
theorem sL_law_514_t {a0 : Nat} {a1 : Int32} {a2 : Int32} {a3 : Int32} {a4 : Int32} {a5 : Int32} {a6 : Nat} {q : Nat} {P1 : xH} (hst : (st.map fun v => v.category).sum ≤ 8) (hC : xC w d mL_delay [.ref a0, .int a1, .int a2, .int a3, .int a4, .int a5, .ref a6] P (xThr q P1)) (hq : Q (.threw q) P1) : X w mL_law (d + 1) Q 514 ls (.ref a6 :: .int a5 :: .int a4 :: .int a3 :: .int a2 :: .int a1 :: .ref a0 :: st) P := X_callS (M := mL_law) (MC := mL_delay) (As := [.ref a0, .int a1, .int a2, .int a3, .int a4, .int a5, .ref a6]) (dL_law_514) calL_delay xw_652 xw_653 rfl hC hst (fun v P2 h => by cases h.1) (fun q2 P2 h => by obtain ⟨h1, rfl⟩ := h; cases h1; exact Xt_out rfl hq)
theorem dL_law_517 : decode cL_law 517 = .ok (.istore 5, 2) := by decide +kernel
theorem sL_law_517 {l0 l1 l2 l3 l4 l5 l6 l7 : Option Value} {x : Int32} (hn : xnl l4 = true) (k : X w mL_law d Q 519 [l0, l1, l2, l3, l4, some (.int x), l6, l7] st P) : X w mL_law d Q 517 [l0, l1, l2, l3, l4, l5, l6, l7] (.int x :: st) P := X_istore (M := mL_law) (dL_law_517) (by decide) rfl (xnl_p (ls := [l0, l1, l2, l3, l4, l5, l6, l7]) (j := 4) rfl hn) k
theorem dL_law_519 : decode cL_law 519 = .ok (.aload_n 2, 1) := by decide +kernel
theorem sL_law_519 {l0 l1 l3 l4 l5 l6 l7 : Option Value} {x : Nat} (k : X w mL_law d Q 520 [l0, l1, some (.ref x), l3, l4, l5, l6, l7] (.ref x :: st) P) : X w mL_law d Q 519 [l0, l1, some (.ref x), l3, l4, l5, l6, l7] st P := X_aload_n (M := mL_law) (dL_law_519) rfl rfl k
theorem dL_law_520 : decode cL_law 520 = .ok (.aload_n 0, 1) := by decide +kernel
theorem sL_law_520 {l1 l2 l3 l4 l5 l6 l7 : Option Value} {x : Nat} (k : X w mL_law d Q 521 [some (.ref x), l1, l2, l3, l4, l5, l6, l7] (.ref x :: st) P) : X w mL_law d Q 520 [some (.ref x), l1, l2, l3, l4, l5, l6, l7] st P := X_aload_n (M := mL_law) (dL_law_520) rfl rfl k
theorem dL_law_521 : decode cL_law 521 = .ok (.iload 4, 2) := by decide +kernel
theorem sL_law_521 {l0 l1 l2 l3 l5 l6 l7 : Option Value} {x : Int32} (k : X w mL_law d Q 523 [l0, l1, l2, l3, some (.int x), l5, l6, l7] (.int x :: st) P) : X w mL_law d Q 521 [l0, l1, l2, l3, some (.int x), l5, l6, l7] st P := X_iload (M := mL_law) (dL_law_521) rfl k
theorem dL_law_523 : decode cL_law 523 = .ok (.iconst 1, 1) := by decide +kernel
theorem sL_law_523 (k : X w mL_law d Q 524 ls (.int (1 : Int32) :: st) P) : X w mL_law d Q 523 ls st P := X_iconst (M := mL_law) (dL_law_523) (by decide) k
theorem dL_law_524 : decode cL_law 524 = .ok (.iadd, 1) := by decide +kernel
theorem sL_law_524 {x y : Int32} (k : X w mL_law d Q 525 ls (.int (x + y) :: st) P) : X w mL_law d Q 524 ls (.int y :: .int x :: st) P := X_iadd (M := mL_law) (dL_law_524) k
theorem dL_law_525 : decode cL_law 525 = .ok (.iaload, 1) := by decide +kernel
theorem sL_law_525 {a n : Nat} {f : Nat → Int32} {i : Int32} (hP : P.1 a = some (xA 0 n f)) (hi : vp_in i n) (k : X w mL_law d Q 526 ls (.int (f i.toNatClampNeg) :: st) P) : X w mL_law d Q 525 ls (.int i :: .ref a :: st) P := X_iald (M := mL_law) (dL_law_525) hP hi k
theorem dL_law_526 : decode cL_law 526 = .ok (.aload_n 0, 1) := by decide +kernel
theorem sL_law_526 {l1 l2 l3 l4 l5 l6 l7 : Option Value} {x : Nat} (k : X w mL_law d Q 527 [some (.ref x), l1, l2, l3, l4, l5, l6, l7] (.ref x :: st) P) : X w mL_law d Q 526 [some (.ref x), l1, l2, l3, l4, l5, l6, l7] st P := X_aload_n (M := mL_law) (dL_law_526) rfl rfl k
theorem dL_law_527 : decode cL_law 527 = .ok (.iload 4, 2) := by decide +kernel
theorem sL_law_527 {l0 l1 l2 l3 l5 l6 l7 : Option Value} {x : Int32} (k : X w mL_law d Q 529 [l0, l1, l2, l3, some (.int x), l5, l6, l7] (.int x :: st) P) : X w mL_law d Q 527 [l0, l1, l2, l3, some (.int x), l5, l6, l7] st P := X_iload (M := mL_law) (dL_law_527) rfl k
theorem dL_law_529 : decode cL_law 529 = .ok (.iconst 2, 1) := by decide +kernel
theorem sL_law_529 (k : X w mL_law d Q 530 ls (.int (2 : Int32) :: st) P) : X w mL_law d Q 529 ls st P := X_iconst (M := mL_law) (dL_law_529) (by decide) k
theorem dL_law_530 : decode cL_law 530 = .ok (.iadd, 1) := by decide +kernel
theorem sL_law_530 {x y : Int32} (k : X w mL_law d Q 531 ls (.int (x + y) :: st) P) : X w mL_law d Q 530 ls (.int y :: .int x :: st) P := X_iadd (M := mL_law) (dL_law_530) k
theorem dL_law_531 : decode cL_law 531 = .ok (.iaload, 1) := by decide +kernel
theorem sL_law_531 {a n : Nat} {f : Nat → Int32} {i : Int32} (hP : P.1 a = some (xA 0 n f)) (hi : vp_in i n) (k : X w mL_law d Q 532 ls (.int (f i.toNatClampNeg) :: st) P) : X w mL_law d Q 531 ls (.int i :: .ref a :: st) P := X_iald (M := mL_law) (dL_law_531) hP hi k
theorem dL_law_532 : decode cL_law 532 = .ok (.aload_n 0, 1) := by decide +kernel
theorem sL_law_532 {l1 l2 l3 l4 l5 l6 l7 : Option Value} {x : Nat} (k : X w mL_law d Q 533 [some (.ref x), l1, l2, l3, l4, l5, l6, l7] (.ref x :: st) P) : X w mL_law d Q 532 [some (.ref x), l1, l2, l3, l4, l5, l6, l7] st P := X_aload_n (M := mL_law) (dL_law_532) rfl rfl k
theorem dL_law_533 : decode cL_law 533 = .ok (.iload 4, 2) := by decide +kernel
theorem sL_law_533 {l0 l1 l2 l3 l5 l6 l7 : Option Value} {x : Int32} (k : X w mL_law d Q 535 [l0, l1, l2, l3, some (.int x), l5, l6, l7] (.int x :: st) P) : X w mL_law d Q 533 [l0, l1, l2, l3, some (.int x), l5, l6, l7] st P := X_iload (M := mL_law) (dL_law_533) rfl k
theorem dL_law_535 : decode cL_law 535 = .ok (.iconst 3, 1) := by decide +kernel
theorem sL_law_535 (k : X w mL_law d Q 536 ls (.int (3 : Int32) :: st) P) : X w mL_law d Q 535 ls st P := X_iconst (M := mL_law) (dL_law_535) (by decide) k
theorem dL_law_536 : decode cL_law 536 = .ok (.iadd, 1) := by decide +kernel
theorem sL_law_536 {x y : Int32} (k : X w mL_law d Q 537 ls (.int (x + y) :: st) P) : X w mL_law d Q 536 ls (.int y :: .int x :: st) P := X_iadd (M := mL_law) (dL_law_536) k
theorem dL_law_537 : decode cL_law 537 = .ok (.iaload, 1) := by decide +kernel
theorem sL_law_537 {a n : Nat} {f : Nat → Int32} {i : Int32} (hP : P.1 a = some (xA 0 n f)) (hi : vp_in i n) (k : X w mL_law d Q 538 ls (.int (f i.toNatClampNeg) :: st) P) : X w mL_law d Q 537 ls (.int i :: .ref a :: st) P := X_iald (M := mL_law) (dL_law_537) hP hi k
theorem dL_law_538 : decode cL_law 538 = .ok (.aload_n 0, 1) := by decide +kernel
theorem sL_law_538 {l1 l2 l3 l4 l5 l6 l7 : Option Value} {x : Nat} (k : X w mL_law d Q 539 [some (.ref x), l1, l2, l3, l4, l5, l6, l7] (.ref x :: st) P) : X w mL_law d Q 538 [some (.ref x), l1, l2, l3, l4, l5, l6, l7] st P := X_aload_n (M := mL_law) (dL_law_538) rfl rfl k
theorem dL_law_539 : decode cL_law 539 = .ok (.iload 4, 2) := by decide +kernel
theorem sL_law_539 {l0 l1 l2 l3 l5 l6 l7 : Option Value} {x : Int32} (k : X w mL_law d Q 541 [l0, l1, l2, l3, some (.int x), l5, l6, l7] (.int x :: st) P) : X w mL_law d Q 539 [l0, l1, l2, l3, some (.int x), l5, l6, l7] st P := X_iload (M := mL_law) (dL_law_539) rfl k
theorem dL_law_541 : decode cL_law 541 = .ok (.iconst 4, 1) := by decide +kernel
theorem sL_law_541 (k : X w mL_law d Q 542 ls (.int (4 : Int32) :: st) P) : X w mL_law d Q 541 ls st P := X_iconst (M := mL_law) (dL_law_541) (by decide) k
theorem dL_law_542 : decode cL_law 542 = .ok (.iadd, 1) := by decide +kernel
theorem sL_law_542 {x y : Int32} (k : X w mL_law d Q 543 ls (.int (x + y) :: st) P) : X w mL_law d Q 542 ls (.int y :: .int x :: st) P := X_iadd (M := mL_law) (dL_law_542) k
theorem dL_law_543 : decode cL_law 543 = .ok (.iaload, 1) := by decide +kernel
theorem sL_law_543 {a n : Nat} {f : Nat → Int32} {i : Int32} (hP : P.1 a = some (xA 0 n f)) (hi : vp_in i n) (k : X w mL_law d Q 544 ls (.int (f i.toNatClampNeg) :: st) P) : X w mL_law d Q 543 ls (.int i :: .ref a :: st) P := X_iald (M := mL_law) (dL_law_543) hP hi k
theorem dL_law_544 : decode cL_law 544 = .ok (.aload_n 0, 1) := by decide +kernel
theorem sL_law_544 {l1 l2 l3 l4 l5 l6 l7 : Option Value} {x : Nat} (k : X w mL_law d Q 545 [some (.ref x), l1, l2, l3, l4, l5, l6, l7] (.ref x :: st) P) : X w mL_law d Q 544 [some (.ref x), l1, l2, l3, l4, l5, l6, l7] st P := X_aload_n (M := mL_law) (dL_law_544) rfl rfl k
theorem dL_law_545 : decode cL_law 545 = .ok (.iload 4, 2) := by decide +kernel
theorem sL_law_545 {l0 l1 l2 l3 l5 l6 l7 : Option Value} {x : Int32} (k : X w mL_law d Q 547 [l0, l1, l2, l3, some (.int x), l5, l6, l7] (.int x :: st) P) : X w mL_law d Q 545 [l0, l1, l2, l3, some (.int x), l5, l6, l7] st P := X_iload (M := mL_law) (dL_law_545) rfl k
theorem dL_law_547 : decode cL_law 547 = .ok (.iconst 5, 1) := by decide +kernel
theorem sL_law_547 (k : X w mL_law d Q 548 ls (.int (5 : Int32) :: st) P) : X w mL_law d Q 547 ls st P := X_iconst (M := mL_law) (dL_law_547) (by decide) k
theorem dL_law_548 : decode cL_law 548 = .ok (.iadd, 1) := by decide +kernel
theorem sL_law_548 {x y : Int32} (k : X w mL_law d Q 549 ls (.int (x + y) :: st) P) : X w mL_law d Q 548 ls (.int y :: .int x :: st) P := X_iadd (M := mL_law) (dL_law_548) k
theorem dL_law_549 : decode cL_law 549 = .ok (.iaload, 1) := by decide +kernel
theorem sL_law_549 {a n : Nat} {f : Nat → Int32} {i : Int32} (hP : P.1 a = some (xA 0 n f)) (hi : vp_in i n) (k : X w mL_law d Q 550 ls (.int (f i.toNatClampNeg) :: st) P) : X w mL_law d Q 549 ls (.int i :: .ref a :: st) P := X_iald (M := mL_law) (dL_law_549) hP hi k
theorem dL_law_550 : decode cL_law 550 = .ok (.ifCond .eq 7, 3) := by decide +kernel
theorem sL_law_550 {x : Int32} (kt : x = 0 → X w mL_law d Q 557 ls st P) (kf : ¬ x = 0 → X w mL_law d Q 553 ls st P) : X w mL_law d Q 550 ls (.int x :: st) P := X_if_eq (M := mL_law) (dL_law_550) (by decide) kt kf
theorem dL_law_553 : decode cL_law 553 = .ok (.iconst 1, 1) := by decide +kernel
theorem sL_law_553 (k : X w mL_law d Q 554 ls (.int (1 : Int32) :: st) P) : X w mL_law d Q 553 ls st P := X_iconst (M := mL_law) (dL_law_553) (by decide) k
theorem dL_law_554 : decode cL_law 554 = .ok (.goto 4, 3) := by decide +kernel
theorem sL_law_554 (k : X w mL_law d Q 558 ls st P) : X w mL_law d Q 554 ls st P := X_goto (M := mL_law) (dL_law_554) (by decide) k
theorem dL_law_557 : decode cL_law 557 = .ok (.iconst 0, 1) := by decide +kernel
theorem sL_law_557 (k : X w mL_law d Q 558 ls (.int (0 : Int32) :: st) P) : X w mL_law d Q 557 ls st P := X_iconst (M := mL_law) (dL_law_557) (by decide) k
theorem dL_law_558 : decode cL_law 558 = .ok (.invokevirtual 95, 3) := by decide +kernel
theorem sL_law_558_g {b : Nat} {fs : List Value} {a0 : Int32} {a1 : Int32} {a2 : Int32} {a3 : Int32} {a4 : Int32} {Qc : Outcome → xH → Prop} (hst : (st.map fun v => v.category).sum ≤ 8) (hP : P.1 b = some (xO 9 fs)) (hC : xC w d mX11_delay [.ref b, .int a0, .int a1, .int a2, .int a3, .int a4] P Qc) (kr : ∀ v P1, Qc (.returned v) P1 → X w mL_law (d + 1) Q 561 ls (v.toList ++ st) P1) (kt : ∀ q P1, Qc (.threw q) P1 → Xt w mL_law (d + 1) Q 558 ls st P1 q) : X w mL_law (d + 1) Q 558 ls (.int a4 :: .int a3 :: .int a2 :: .int a1 :: .int a0 :: .ref b :: st) P := X_callV (M := mL_law) (MC := mX11_delay) (As := [.int a0, .int a1, .int a2, .int a3, .int a4]) (T := TX11) (dL_law_558) calX11_delay xw_654 xw_655 xw_656 rfl rfl hP hC hst kr kt
theorem sL_law_558 {b : Nat} {fs : List Value} {a0 : Int32} {a1 : Int32} {a2 : Int32} {a3 : Int32} {a4 : Int32} {r : Int32} {P1 : xH} (hst : (st.map fun v => v.category).sum ≤ 8) (hP : P.1 b = some (xO 9 fs)) (hC : xC w d mX11_delay [.ref b, .int a0, .int a1, .int a2, .int a3, .int a4] P (xRet (some (.int r)) P1)) (k : X w mL_law (d + 1) Q 561 ls (.int r :: st) P1) : X w mL_law (d + 1) Q 558 ls (.int a4 :: .int a3 :: .int a2 :: .int a1 :: .int a0 :: .ref b :: st) P := X_callV (M := mL_law) (MC := mX11_delay) (As := [.int a0, .int a1, .int a2, .int a3, .int a4]) (T := TX11) (dL_law_558) calX11_delay xw_654 xw_655 xw_656 rfl rfl hP hC hst (fun v P2 h => by obtain ⟨h1, rfl⟩ := h; cases h1; exact k) (fun q P2 h => by cases h.1)
theorem sL_law_558_r {b : Nat} {fs : List Value} {a0 : Int32} {a1 : Int32} {a2 : Int32} {a3 : Int32} {a4 : Int32} {r : Int32} {Rp : xH → Prop} (hst : (st.map fun v => v.category).sum ≤ 8) (hP : P.1 b = some (xO 9 fs)) (hC : xC w d mX11_delay [.ref b, .int a0, .int a1, .int a2, .int a3, .int a4] P (xRl (some (.int r)) Rp)) (k : ∀ P1, Rp P1 → X w mL_law (d + 1) Q 561 ls (.int r :: st) P1) : X w mL_law (d + 1) Q 558 ls (.int a4 :: .int a3 :: .int a2 :: .int a1 :: .int a0 :: .ref b :: st) P := X_callV (M := mL_law) (MC := mX11_delay) (As := [.int a0, .int a1, .int a2, .int a3, .int a4]) (T := TX11) (dL_law_558) calX11_delay xw_654 xw_655 xw_656 rfl rfl hP hC hst (fun v P2 h => by obtain ⟨h1, hR⟩ := h; cases h1; exact k P2 hR) (fun q P2 h => by cases h.1)
theorem sL_law_558_t {b : Nat} {fs : List Value} {a0 : Int32} {a1 : Int32} {a2 : Int32} {a3 : Int32} {a4 : Int32} {q : Nat} {P1 : xH} (hst : (st.map fun v => v.category).sum ≤ 8) (hP : P.1 b = some (xO 9 fs)) (hC : xC w d mX11_delay [.ref b, .int a0, .int a1, .int a2, .int a3, .int a4] P (xThr q P1)) (hq : Q (.threw q) P1) : X w mL_law (d + 1) Q 558 ls (.int a4 :: .int a3 :: .int a2 :: .int a1 :: .int a0 :: .ref b :: st) P := X_callV (M := mL_law) (MC := mX11_delay) (As := [.int a0, .int a1, .int a2, .int a3, .int a4]) (T := TX11) (dL_law_558) calX11_delay xw_654 xw_655 xw_656 rfl rfl hP hC hst (fun v P2 h => by cases h.1) (fun q2 P2 h => by obtain ⟨h1, rfl⟩ := h; cases h1; exact Xt_out rfl hq)
theorem dL_law_561 : decode cL_law 561 = .ok (.istore 6, 2) := by decide +kernel
theorem sL_law_561 {l0 l1 l2 l3 l4 l5 l6 l7 : Option Value} {x : Int32} (hn : xnl l5 = true) (k : X w mL_law d Q 563 [l0, l1, l2, l3, l4, l5, some (.int x), l7] st P) : X w mL_law d Q 561 [l0, l1, l2, l3, l4, l5, l6, l7] (.int x :: st) P := X_istore (M := mL_law) (dL_law_561) (by decide) rfl (xnl_p (ls := [l0, l1, l2, l3, l4, l5, l6, l7]) (j := 5) rfl hn) k
theorem dL_law_563 : decode cL_law 563 = .ok (.aload_n 2, 1) := by decide +kernel
theorem sL_law_563 {l0 l1 l3 l4 l5 l6 l7 : Option Value} {x : Nat} (k : X w mL_law d Q 564 [l0, l1, some (.ref x), l3, l4, l5, l6, l7] (.ref x :: st) P) : X w mL_law d Q 563 [l0, l1, some (.ref x), l3, l4, l5, l6, l7] st P := X_aload_n (M := mL_law) (dL_law_563) rfl rfl k
theorem dL_law_564 : decode cL_law 564 = .ok (.invokevirtual 79, 3) := by decide +kernel
theorem sL_law_564_g {b : Nat} {fs : List Value}  {Qc : Outcome → xH → Prop} (hst : (st.map fun v => v.category).sum ≤ 8) (hP : P.1 b = some (xO 9 fs)) (hC : xC w d mX11_thrown [.ref b] P Qc) (kr : ∀ v P1, Qc (.returned v) P1 → X w mL_law (d + 1) Q 567 ls (v.toList ++ st) P1) (kt : ∀ q P1, Qc (.threw q) P1 → Xt w mL_law (d + 1) Q 564 ls st P1 q) : X w mL_law (d + 1) Q 564 ls (.ref b :: st) P := X_callV (M := mL_law) (MC := mX11_thrown) (As := []) (T := TX11) (dL_law_564) calX11_thrown xw_634 xw_635 xw_636 rfl rfl hP hC hst kr kt
theorem sL_law_564 {b : Nat} {fs : List Value}  {r : Int32} {P1 : xH} (hst : (st.map fun v => v.category).sum ≤ 8) (hP : P.1 b = some (xO 9 fs)) (hC : xC w d mX11_thrown [.ref b] P (xRet (some (.int r)) P1)) (k : X w mL_law (d + 1) Q 567 ls (.int r :: st) P1) : X w mL_law (d + 1) Q 564 ls (.ref b :: st) P := X_callV (M := mL_law) (MC := mX11_thrown) (As := []) (T := TX11) (dL_law_564) calX11_thrown xw_634 xw_635 xw_636 rfl rfl hP hC hst (fun v P2 h => by obtain ⟨h1, rfl⟩ := h; cases h1; exact k) (fun q P2 h => by cases h.1)
theorem sL_law_564_r {b : Nat} {fs : List Value}  {r : Int32} {Rp : xH → Prop} (hst : (st.map fun v => v.category).sum ≤ 8) (hP : P.1 b = some (xO 9 fs)) (hC : xC w d mX11_thrown [.ref b] P (xRl (some (.int r)) Rp)) (k : ∀ P1, Rp P1 → X w mL_law (d + 1) Q 567 ls (.int r :: st) P1) : X w mL_law (d + 1) Q 564 ls (.ref b :: st) P := X_callV (M := mL_law) (MC := mX11_thrown) (As := []) (T := TX11) (dL_law_564) calX11_thrown xw_634 xw_635 xw_636 rfl rfl hP hC hst (fun v P2 h => by obtain ⟨h1, hR⟩ := h; cases h1; exact k P2 hR) (fun q P2 h => by cases h.1)
theorem sL_law_564_t {b : Nat} {fs : List Value}  {q : Nat} {P1 : xH} (hst : (st.map fun v => v.category).sum ≤ 8) (hP : P.1 b = some (xO 9 fs)) (hC : xC w d mX11_thrown [.ref b] P (xThr q P1)) (hq : Q (.threw q) P1) : X w mL_law (d + 1) Q 564 ls (.ref b :: st) P := X_callV (M := mL_law) (MC := mX11_thrown) (As := []) (T := TX11) (dL_law_564) calX11_thrown xw_634 xw_635 xw_636 rfl rfl hP hC hst (fun v P2 h => by cases h.1) (fun q2 P2 h => by obtain ⟨h1, rfl⟩ := h; cases h1; exact Xt_out rfl hq)
theorem dL_law_567 : decode cL_law 567 = .ok (.iload 5, 2) := by decide +kernel
theorem sL_law_567 {l0 l1 l2 l3 l4 l6 l7 : Option Value} {x : Int32} (k : X w mL_law d Q 569 [l0, l1, l2, l3, l4, some (.int x), l6, l7] (.int x :: st) P) : X w mL_law d Q 567 [l0, l1, l2, l3, l4, some (.int x), l6, l7] st P := X_iload (M := mL_law) (dL_law_567) rfl k
theorem dL_law_569 : decode cL_law 569 = .ok (.if_icmp .eq 5, 3) := by decide +kernel
theorem sL_law_569 {x y : Int32} (kt : x = y → X w mL_law d Q 574 ls st P) (kf : ¬ x = y → X w mL_law d Q 572 ls st P) : X w mL_law d Q 569 ls (.int y :: .int x :: st) P := X_icmp_eq (M := mL_law) (dL_law_569) (by decide) kt kf
theorem dL_law_572 : decode cL_law 572 = .ok (.iconst 0, 1) := by decide +kernel
theorem sL_law_572 (k : X w mL_law d Q 573 ls (.int (0 : Int32) :: st) P) : X w mL_law d Q 572 ls st P := X_iconst (M := mL_law) (dL_law_572) (by decide) k
theorem dL_law_573 : decode cL_law 573 = .ok (.ireturn, 1) := by decide +kernel
theorem sL_law_573 {v : Int32} (hb : v = 0 ∨ v = 1) (hq : Q (.returned (some (.int v))) P) : X w mL_law d Q 573 ls [.int v] P := X_zret (M := mL_law) (ty := .boolean) (dL_law_573) rfl (xz_n hb) hq
theorem dL_law_574 : decode cL_law 574 = .ok (.iload 5, 2) := by decide +kernel
theorem sL_law_574 {l0 l1 l2 l3 l4 l6 l7 : Option Value} {x : Int32} (k : X w mL_law d Q 576 [l0, l1, l2, l3, l4, some (.int x), l6, l7] (.int x :: st) P) : X w mL_law d Q 574 [l0, l1, l2, l3, l4, some (.int x), l6, l7] st P := X_iload (M := mL_law) (dL_law_574) rfl k
theorem dL_law_576 : decode cL_law 576 = .ok (.ifCond .ne 15, 3) := by decide +kernel
theorem sL_law_576 {x : Int32} (kt : ¬ x = 0 → X w mL_law d Q 591 ls st P) (kf : x = 0 → X w mL_law d Q 579 ls st P) : X w mL_law d Q 576 ls (.int x :: st) P := X_if_ne (M := mL_law) (dL_law_576) (by decide) kt kf
theorem dL_law_579 : decode cL_law 579 = .ok (.aload_n 3, 1) := by decide +kernel
theorem sL_law_579 {l0 l1 l2 l4 l5 l6 l7 : Option Value} {x : Nat} (k : X w mL_law d Q 580 [l0, l1, l2, some (.ref x), l4, l5, l6, l7] (.ref x :: st) P) : X w mL_law d Q 579 [l0, l1, l2, some (.ref x), l4, l5, l6, l7] st P := X_aload_n (M := mL_law) (dL_law_579) rfl rfl k
theorem dL_law_580 : decode cL_law 580 = .ok (.iconst 0, 1) := by decide +kernel
theorem sL_law_580 (k : X w mL_law d Q 581 ls (.int (0 : Int32) :: st) P) : X w mL_law d Q 580 ls st P := X_iconst (M := mL_law) (dL_law_580) (by decide) k
theorem dL_law_581 : decode cL_law 581 = .ok (.laload, 1) := by decide +kernel
theorem sL_law_581 {a n : Nat} {f : Nat → Int64} {i : Int32} (hP : P.1 a = some (xJ n f)) (hi : vp_in i n) (k : X w mL_law d Q 582 ls (.long (f i.toNatClampNeg) :: st) P) : X w mL_law d Q 581 ls (.int i :: .ref a :: st) P := X_lald (M := mL_law) (dL_law_581) hP hi k
theorem dL_law_582 : decode cL_law 582 = .ok (.iload 6, 2) := by decide +kernel
theorem sL_law_582 {l0 l1 l2 l3 l4 l5 l7 : Option Value} {x : Int32} (k : X w mL_law d Q 584 [l0, l1, l2, l3, l4, l5, some (.int x), l7] (.int x :: st) P) : X w mL_law d Q 582 [l0, l1, l2, l3, l4, l5, some (.int x), l7] st P := X_iload (M := mL_law) (dL_law_582) rfl k
theorem dL_law_584 : decode cL_law 584 = .ok (.i2l, 1) := by decide +kernel
theorem sL_law_584 {x : Int32} (k : X w mL_law d Q 585 ls (.long x.toInt64 :: st) P) : X w mL_law d Q 584 ls (.int x :: st) P := X_i2l (M := mL_law) (dL_law_584) k
theorem dL_law_585 : decode cL_law 585 = .ok (.lcmp, 1) := by decide +kernel
theorem sL_law_585 {x y : Int64} (k : X w mL_law d Q 586 ls (.int (lg_cmp x y) :: st) P) : X w mL_law d Q 585 ls (.long y :: .long x :: st) P := X_lcmp (M := mL_law) (dL_law_585) k
theorem dL_law_586 : decode cL_law 586 = .ok (.ifCond .eq 5, 3) := by decide +kernel
theorem sL_law_586 {x : Int32} (kt : x = 0 → X w mL_law d Q 591 ls st P) (kf : ¬ x = 0 → X w mL_law d Q 589 ls st P) : X w mL_law d Q 586 ls (.int x :: st) P := X_if_eq (M := mL_law) (dL_law_586) (by decide) kt kf
theorem dL_law_589 : decode cL_law 589 = .ok (.iconst 0, 1) := by decide +kernel
theorem sL_law_589 (k : X w mL_law d Q 590 ls (.int (0 : Int32) :: st) P) : X w mL_law d Q 589 ls st P := X_iconst (M := mL_law) (dL_law_589) (by decide) k
theorem dL_law_590 : decode cL_law 590 = .ok (.ireturn, 1) := by decide +kernel
theorem sL_law_590 {v : Int32} (hb : v = 0 ∨ v = 1) (hq : Q (.returned (some (.int v))) P) : X w mL_law d Q 590 ls [.int v] P := X_zret (M := mL_law) (ty := .boolean) (dL_law_590) rfl (xz_n hb) hq
theorem dL_law_591 : decode cL_law 591 = .ok (.goto 498, 3) := by decide +kernel
theorem sL_law_591 (k : X w mL_law d Q 1089 ls st P) : X w mL_law d Q 591 ls st P := X_goto (M := mL_law) (dL_law_591) (by decide) k
theorem dL_law_594 : decode cL_law 594 = .ok (.aload_n 1, 1) := by decide +kernel
theorem sL_law_594 {l0 l2 l3 l4 l5 l6 l7 : Option Value} {x : Nat} (k : X w mL_law d Q 595 [l0, some (.ref x), l2, l3, l4, l5, l6, l7] (.ref x :: st) P) : X w mL_law d Q 594 [l0, some (.ref x), l2, l3, l4, l5, l6, l7] st P := X_aload_n (M := mL_law) (dL_law_594) rfl rfl k
theorem dL_law_595 : decode cL_law 595 = .ok (.aload_n 0, 1) := by decide +kernel
theorem sL_law_595 {l1 l2 l3 l4 l5 l6 l7 : Option Value} {x : Nat} (k : X w mL_law d Q 596 [some (.ref x), l1, l2, l3, l4, l5, l6, l7] (.ref x :: st) P) : X w mL_law d Q 595 [some (.ref x), l1, l2, l3, l4, l5, l6, l7] st P := X_aload_n (M := mL_law) (dL_law_595) rfl rfl k
theorem dL_law_596 : decode cL_law 596 = .ok (.iload 4, 2) := by decide +kernel
theorem sL_law_596 {l0 l1 l2 l3 l5 l6 l7 : Option Value} {x : Int32} (k : X w mL_law d Q 598 [l0, l1, l2, l3, some (.int x), l5, l6, l7] (.int x :: st) P) : X w mL_law d Q 596 [l0, l1, l2, l3, some (.int x), l5, l6, l7] st P := X_iload (M := mL_law) (dL_law_596) rfl k
theorem dL_law_598 : decode cL_law 598 = .ok (.iconst 1, 1) := by decide +kernel
theorem sL_law_598 (k : X w mL_law d Q 599 ls (.int (1 : Int32) :: st) P) : X w mL_law d Q 598 ls st P := X_iconst (M := mL_law) (dL_law_598) (by decide) k
theorem dL_law_599 : decode cL_law 599 = .ok (.iadd, 1) := by decide +kernel
theorem sL_law_599 {x y : Int32} (k : X w mL_law d Q 600 ls (.int (x + y) :: st) P) : X w mL_law d Q 599 ls (.int y :: .int x :: st) P := X_iadd (M := mL_law) (dL_law_599) k
theorem dL_law_600 : decode cL_law 600 = .ok (.iaload, 1) := by decide +kernel
theorem sL_law_600 {a n : Nat} {f : Nat → Int32} {i : Int32} (hP : P.1 a = some (xA 0 n f)) (hi : vp_in i n) (k : X w mL_law d Q 601 ls (.int (f i.toNatClampNeg) :: st) P) : X w mL_law d Q 600 ls (.int i :: .ref a :: st) P := X_iald (M := mL_law) (dL_law_600) hP hi k
theorem dL_law_601 : decode cL_law 601 = .ok (.aload_n 0, 1) := by decide +kernel
theorem sL_law_601 {l1 l2 l3 l4 l5 l6 l7 : Option Value} {x : Nat} (k : X w mL_law d Q 602 [some (.ref x), l1, l2, l3, l4, l5, l6, l7] (.ref x :: st) P) : X w mL_law d Q 601 [some (.ref x), l1, l2, l3, l4, l5, l6, l7] st P := X_aload_n (M := mL_law) (dL_law_601) rfl rfl k
theorem dL_law_602 : decode cL_law 602 = .ok (.iload 4, 2) := by decide +kernel
theorem sL_law_602 {l0 l1 l2 l3 l5 l6 l7 : Option Value} {x : Int32} (k : X w mL_law d Q 604 [l0, l1, l2, l3, some (.int x), l5, l6, l7] (.int x :: st) P) : X w mL_law d Q 602 [l0, l1, l2, l3, some (.int x), l5, l6, l7] st P := X_iload (M := mL_law) (dL_law_602) rfl k
theorem dL_law_604 : decode cL_law 604 = .ok (.iconst 2, 1) := by decide +kernel
theorem sL_law_604 (k : X w mL_law d Q 605 ls (.int (2 : Int32) :: st) P) : X w mL_law d Q 604 ls st P := X_iconst (M := mL_law) (dL_law_604) (by decide) k
theorem dL_law_605 : decode cL_law 605 = .ok (.iadd, 1) := by decide +kernel
theorem sL_law_605 {x y : Int32} (k : X w mL_law d Q 606 ls (.int (x + y) :: st) P) : X w mL_law d Q 605 ls (.int y :: .int x :: st) P := X_iadd (M := mL_law) (dL_law_605) k
theorem dL_law_606 : decode cL_law 606 = .ok (.iaload, 1) := by decide +kernel
theorem sL_law_606 {a n : Nat} {f : Nat → Int32} {i : Int32} (hP : P.1 a = some (xA 0 n f)) (hi : vp_in i n) (k : X w mL_law d Q 607 ls (.int (f i.toNatClampNeg) :: st) P) : X w mL_law d Q 606 ls (.int i :: .ref a :: st) P := X_iald (M := mL_law) (dL_law_606) hP hi k
theorem dL_law_607 : decode cL_law 607 = .ok (.aload_n 3, 1) := by decide +kernel
theorem sL_law_607 {l0 l1 l2 l4 l5 l6 l7 : Option Value} {x : Nat} (k : X w mL_law d Q 608 [l0, l1, l2, some (.ref x), l4, l5, l6, l7] (.ref x :: st) P) : X w mL_law d Q 607 [l0, l1, l2, some (.ref x), l4, l5, l6, l7] st P := X_aload_n (M := mL_law) (dL_law_607) rfl rfl k
theorem dL_law_608 : decode cL_law 608 = .ok (.invokestatic 96, 3) := by decide +kernel
theorem sL_law_608_g {a0 : Nat} {a1 : Int32} {a2 : Int32} {a3 : Nat} {Qc : Outcome → xH → Prop} (hst : (st.map fun v => v.category).sum ≤ 8) (hC : xC w d mL_power [.ref a0, .int a1, .int a2, .ref a3] P Qc) (kr : ∀ v P1, Qc (.returned v) P1 → X w mL_law (d + 1) Q 611 ls (v.toList ++ st) P1) (kt : ∀ q P1, Qc (.threw q) P1 → Xt w mL_law (d + 1) Q 608 ls st P1 q) : X w mL_law (d + 1) Q 608 ls (.ref a3 :: .int a2 :: .int a1 :: .ref a0 :: st) P := X_callS (M := mL_law) (MC := mL_power) (As := [.ref a0, .int a1, .int a2, .ref a3]) (dL_law_608) calL_power xw_657 xw_658 rfl hC hst kr kt
theorem sL_law_608 {a0 : Nat} {a1 : Int32} {a2 : Int32} {a3 : Nat} {r : Int32} {P1 : xH} (hst : (st.map fun v => v.category).sum ≤ 8) (hC : xC w d mL_power [.ref a0, .int a1, .int a2, .ref a3] P (xRet (some (.int r)) P1)) (k : X w mL_law (d + 1) Q 611 ls (.int r :: st) P1) : X w mL_law (d + 1) Q 608 ls (.ref a3 :: .int a2 :: .int a1 :: .ref a0 :: st) P := X_callS (M := mL_law) (MC := mL_power) (As := [.ref a0, .int a1, .int a2, .ref a3]) (dL_law_608) calL_power xw_657 xw_658 rfl hC hst (fun v P2 h => by obtain ⟨h1, rfl⟩ := h; cases h1; exact k) (fun q P2 h => by cases h.1)
theorem sL_law_608_r {a0 : Nat} {a1 : Int32} {a2 : Int32} {a3 : Nat} {r : Int32} {Rp : xH → Prop} (hst : (st.map fun v => v.category).sum ≤ 8) (hC : xC w d mL_power [.ref a0, .int a1, .int a2, .ref a3] P (xRl (some (.int r)) Rp)) (k : ∀ P1, Rp P1 → X w mL_law (d + 1) Q 611 ls (.int r :: st) P1) : X w mL_law (d + 1) Q 608 ls (.ref a3 :: .int a2 :: .int a1 :: .ref a0 :: st) P := X_callS (M := mL_law) (MC := mL_power) (As := [.ref a0, .int a1, .int a2, .ref a3]) (dL_law_608) calL_power xw_657 xw_658 rfl hC hst (fun v P2 h => by obtain ⟨h1, hR⟩ := h; cases h1; exact k P2 hR) (fun q P2 h => by cases h.1)
theorem sL_law_608_t {a0 : Nat} {a1 : Int32} {a2 : Int32} {a3 : Nat} {q : Nat} {P1 : xH} (hst : (st.map fun v => v.category).sum ≤ 8) (hC : xC w d mL_power [.ref a0, .int a1, .int a2, .ref a3] P (xThr q P1)) (hq : Q (.threw q) P1) : X w mL_law (d + 1) Q 608 ls (.ref a3 :: .int a2 :: .int a1 :: .ref a0 :: st) P := X_callS (M := mL_law) (MC := mL_power) (As := [.ref a0, .int a1, .int a2, .ref a3]) (dL_law_608) calL_power xw_657 xw_658 rfl hC hst (fun v P2 h => by cases h.1) (fun q2 P2 h => by obtain ⟨h1, rfl⟩ := h; cases h1; exact Xt_out rfl hq)
theorem dL_law_611 : decode cL_law 611 = .ok (.istore 5, 2) := by decide +kernel
theorem sL_law_611 {l0 l1 l2 l3 l4 l5 l6 l7 : Option Value} {x : Int32} (hn : xnl l4 = true) (k : X w mL_law d Q 613 [l0, l1, l2, l3, l4, some (.int x), l6, l7] st P) : X w mL_law d Q 611 [l0, l1, l2, l3, l4, l5, l6, l7] (.int x :: st) P := X_istore (M := mL_law) (dL_law_611) (by decide) rfl (xnl_p (ls := [l0, l1, l2, l3, l4, l5, l6, l7]) (j := 4) rfl hn) k
theorem dL_law_613 : decode cL_law 613 = .ok (.aload_n 2, 1) := by decide +kernel
theorem sL_law_613 {l0 l1 l3 l4 l5 l6 l7 : Option Value} {x : Nat} (k : X w mL_law d Q 614 [l0, l1, some (.ref x), l3, l4, l5, l6, l7] (.ref x :: st) P) : X w mL_law d Q 613 [l0, l1, some (.ref x), l3, l4, l5, l6, l7] st P := X_aload_n (M := mL_law) (dL_law_613) rfl rfl k
theorem dL_law_614 : decode cL_law 614 = .ok (.aload_n 0, 1) := by decide +kernel
theorem sL_law_614 {l1 l2 l3 l4 l5 l6 l7 : Option Value} {x : Nat} (k : X w mL_law d Q 615 [some (.ref x), l1, l2, l3, l4, l5, l6, l7] (.ref x :: st) P) : X w mL_law d Q 614 [some (.ref x), l1, l2, l3, l4, l5, l6, l7] st P := X_aload_n (M := mL_law) (dL_law_614) rfl rfl k
theorem dL_law_615 : decode cL_law 615 = .ok (.iload 4, 2) := by decide +kernel
theorem sL_law_615 {l0 l1 l2 l3 l5 l6 l7 : Option Value} {x : Int32} (k : X w mL_law d Q 617 [l0, l1, l2, l3, some (.int x), l5, l6, l7] (.int x :: st) P) : X w mL_law d Q 615 [l0, l1, l2, l3, some (.int x), l5, l6, l7] st P := X_iload (M := mL_law) (dL_law_615) rfl k
theorem dL_law_617 : decode cL_law 617 = .ok (.iconst 1, 1) := by decide +kernel
theorem sL_law_617 (k : X w mL_law d Q 618 ls (.int (1 : Int32) :: st) P) : X w mL_law d Q 617 ls st P := X_iconst (M := mL_law) (dL_law_617) (by decide) k
theorem dL_law_618 : decode cL_law 618 = .ok (.iadd, 1) := by decide +kernel
theorem sL_law_618 {x y : Int32} (k : X w mL_law d Q 619 ls (.int (x + y) :: st) P) : X w mL_law d Q 618 ls (.int y :: .int x :: st) P := X_iadd (M := mL_law) (dL_law_618) k
theorem dL_law_619 : decode cL_law 619 = .ok (.iaload, 1) := by decide +kernel
theorem sL_law_619 {a n : Nat} {f : Nat → Int32} {i : Int32} (hP : P.1 a = some (xA 0 n f)) (hi : vp_in i n) (k : X w mL_law d Q 620 ls (.int (f i.toNatClampNeg) :: st) P) : X w mL_law d Q 619 ls (.int i :: .ref a :: st) P := X_iald (M := mL_law) (dL_law_619) hP hi k
theorem dL_law_620 : decode cL_law 620 = .ok (.aload_n 0, 1) := by decide +kernel
theorem sL_law_620 {l1 l2 l3 l4 l5 l6 l7 : Option Value} {x : Nat} (k : X w mL_law d Q 621 [some (.ref x), l1, l2, l3, l4, l5, l6, l7] (.ref x :: st) P) : X w mL_law d Q 620 [some (.ref x), l1, l2, l3, l4, l5, l6, l7] st P := X_aload_n (M := mL_law) (dL_law_620) rfl rfl k
theorem dL_law_621 : decode cL_law 621 = .ok (.iload 4, 2) := by decide +kernel
theorem sL_law_621 {l0 l1 l2 l3 l5 l6 l7 : Option Value} {x : Int32} (k : X w mL_law d Q 623 [l0, l1, l2, l3, some (.int x), l5, l6, l7] (.int x :: st) P) : X w mL_law d Q 621 [l0, l1, l2, l3, some (.int x), l5, l6, l7] st P := X_iload (M := mL_law) (dL_law_621) rfl k
theorem dL_law_623 : decode cL_law 623 = .ok (.iconst 2, 1) := by decide +kernel
theorem sL_law_623 (k : X w mL_law d Q 624 ls (.int (2 : Int32) :: st) P) : X w mL_law d Q 623 ls st P := X_iconst (M := mL_law) (dL_law_623) (by decide) k
theorem dL_law_624 : decode cL_law 624 = .ok (.iadd, 1) := by decide +kernel
theorem sL_law_624 {x y : Int32} (k : X w mL_law d Q 625 ls (.int (x + y) :: st) P) : X w mL_law d Q 624 ls (.int y :: .int x :: st) P := X_iadd (M := mL_law) (dL_law_624) k
theorem dL_law_625 : decode cL_law 625 = .ok (.iaload, 1) := by decide +kernel
theorem sL_law_625 {a n : Nat} {f : Nat → Int32} {i : Int32} (hP : P.1 a = some (xA 0 n f)) (hi : vp_in i n) (k : X w mL_law d Q 626 ls (.int (f i.toNatClampNeg) :: st) P) : X w mL_law d Q 625 ls (.int i :: .ref a :: st) P := X_iald (M := mL_law) (dL_law_625) hP hi k
theorem dL_law_626 : decode cL_law 626 = .ok (.invokevirtual 98, 3) := by decide +kernel
theorem sL_law_626_g {b : Nat} {fs : List Value} {a0 : Int32} {a1 : Int32} {Qc : Outcome → xH → Prop} (hst : (st.map fun v => v.category).sum ≤ 8) (hP : P.1 b = some (xO 9 fs)) (hC : xC w d mX11_power [.ref b, .int a0, .int a1] P Qc) (kr : ∀ v P1, Qc (.returned v) P1 → X w mL_law (d + 1) Q 629 ls (v.toList ++ st) P1) (kt : ∀ q P1, Qc (.threw q) P1 → Xt w mL_law (d + 1) Q 626 ls st P1 q) : X w mL_law (d + 1) Q 626 ls (.int a1 :: .int a0 :: .ref b :: st) P := X_callV (M := mL_law) (MC := mX11_power) (As := [.int a0, .int a1]) (T := TX11) (dL_law_626) calX11_power xw_659 xw_660 xw_661 rfl rfl hP hC hst kr kt
theorem sL_law_626 {b : Nat} {fs : List Value} {a0 : Int32} {a1 : Int32} {r : Int32} {P1 : xH} (hst : (st.map fun v => v.category).sum ≤ 8) (hP : P.1 b = some (xO 9 fs)) (hC : xC w d mX11_power [.ref b, .int a0, .int a1] P (xRet (some (.int r)) P1)) (k : X w mL_law (d + 1) Q 629 ls (.int r :: st) P1) : X w mL_law (d + 1) Q 626 ls (.int a1 :: .int a0 :: .ref b :: st) P := X_callV (M := mL_law) (MC := mX11_power) (As := [.int a0, .int a1]) (T := TX11) (dL_law_626) calX11_power xw_659 xw_660 xw_661 rfl rfl hP hC hst (fun v P2 h => by obtain ⟨h1, rfl⟩ := h; cases h1; exact k) (fun q P2 h => by cases h.1)
theorem sL_law_626_r {b : Nat} {fs : List Value} {a0 : Int32} {a1 : Int32} {r : Int32} {Rp : xH → Prop} (hst : (st.map fun v => v.category).sum ≤ 8) (hP : P.1 b = some (xO 9 fs)) (hC : xC w d mX11_power [.ref b, .int a0, .int a1] P (xRl (some (.int r)) Rp)) (k : ∀ P1, Rp P1 → X w mL_law (d + 1) Q 629 ls (.int r :: st) P1) : X w mL_law (d + 1) Q 626 ls (.int a1 :: .int a0 :: .ref b :: st) P := X_callV (M := mL_law) (MC := mX11_power) (As := [.int a0, .int a1]) (T := TX11) (dL_law_626) calX11_power xw_659 xw_660 xw_661 rfl rfl hP hC hst (fun v P2 h => by obtain ⟨h1, hR⟩ := h; cases h1; exact k P2 hR) (fun q P2 h => by cases h.1)
theorem sL_law_626_t {b : Nat} {fs : List Value} {a0 : Int32} {a1 : Int32} {q : Nat} {P1 : xH} (hst : (st.map fun v => v.category).sum ≤ 8) (hP : P.1 b = some (xO 9 fs)) (hC : xC w d mX11_power [.ref b, .int a0, .int a1] P (xThr q P1)) (hq : Q (.threw q) P1) : X w mL_law (d + 1) Q 626 ls (.int a1 :: .int a0 :: .ref b :: st) P := X_callV (M := mL_law) (MC := mX11_power) (As := [.int a0, .int a1]) (T := TX11) (dL_law_626) calX11_power xw_659 xw_660 xw_661 rfl rfl hP hC hst (fun v P2 h => by cases h.1) (fun q2 P2 h => by obtain ⟨h1, rfl⟩ := h; cases h1; exact Xt_out rfl hq)
theorem dL_law_629 : decode cL_law 629 = .ok (.istore 6, 2) := by decide +kernel
theorem sL_law_629 {l0 l1 l2 l3 l4 l5 l6 l7 : Option Value} {x : Int32} (hn : xnl l5 = true) (k : X w mL_law d Q 631 [l0, l1, l2, l3, l4, l5, some (.int x), l7] st P) : X w mL_law d Q 629 [l0, l1, l2, l3, l4, l5, l6, l7] (.int x :: st) P := X_istore (M := mL_law) (dL_law_629) (by decide) rfl (xnl_p (ls := [l0, l1, l2, l3, l4, l5, l6, l7]) (j := 5) rfl hn) k
theorem dL_law_631 : decode cL_law 631 = .ok (.aload_n 2, 1) := by decide +kernel
theorem sL_law_631 {l0 l1 l3 l4 l5 l6 l7 : Option Value} {x : Nat} (k : X w mL_law d Q 632 [l0, l1, some (.ref x), l3, l4, l5, l6, l7] (.ref x :: st) P) : X w mL_law d Q 631 [l0, l1, some (.ref x), l3, l4, l5, l6, l7] st P := X_aload_n (M := mL_law) (dL_law_631) rfl rfl k
theorem dL_law_632 : decode cL_law 632 = .ok (.invokevirtual 79, 3) := by decide +kernel
theorem sL_law_632_g {b : Nat} {fs : List Value}  {Qc : Outcome → xH → Prop} (hst : (st.map fun v => v.category).sum ≤ 8) (hP : P.1 b = some (xO 9 fs)) (hC : xC w d mX11_thrown [.ref b] P Qc) (kr : ∀ v P1, Qc (.returned v) P1 → X w mL_law (d + 1) Q 635 ls (v.toList ++ st) P1) (kt : ∀ q P1, Qc (.threw q) P1 → Xt w mL_law (d + 1) Q 632 ls st P1 q) : X w mL_law (d + 1) Q 632 ls (.ref b :: st) P := X_callV (M := mL_law) (MC := mX11_thrown) (As := []) (T := TX11) (dL_law_632) calX11_thrown xw_634 xw_635 xw_636 rfl rfl hP hC hst kr kt
theorem sL_law_632 {b : Nat} {fs : List Value}  {r : Int32} {P1 : xH} (hst : (st.map fun v => v.category).sum ≤ 8) (hP : P.1 b = some (xO 9 fs)) (hC : xC w d mX11_thrown [.ref b] P (xRet (some (.int r)) P1)) (k : X w mL_law (d + 1) Q 635 ls (.int r :: st) P1) : X w mL_law (d + 1) Q 632 ls (.ref b :: st) P := X_callV (M := mL_law) (MC := mX11_thrown) (As := []) (T := TX11) (dL_law_632) calX11_thrown xw_634 xw_635 xw_636 rfl rfl hP hC hst (fun v P2 h => by obtain ⟨h1, rfl⟩ := h; cases h1; exact k) (fun q P2 h => by cases h.1)
theorem sL_law_632_r {b : Nat} {fs : List Value}  {r : Int32} {Rp : xH → Prop} (hst : (st.map fun v => v.category).sum ≤ 8) (hP : P.1 b = some (xO 9 fs)) (hC : xC w d mX11_thrown [.ref b] P (xRl (some (.int r)) Rp)) (k : ∀ P1, Rp P1 → X w mL_law (d + 1) Q 635 ls (.int r :: st) P1) : X w mL_law (d + 1) Q 632 ls (.ref b :: st) P := X_callV (M := mL_law) (MC := mX11_thrown) (As := []) (T := TX11) (dL_law_632) calX11_thrown xw_634 xw_635 xw_636 rfl rfl hP hC hst (fun v P2 h => by obtain ⟨h1, hR⟩ := h; cases h1; exact k P2 hR) (fun q P2 h => by cases h.1)
theorem sL_law_632_t {b : Nat} {fs : List Value}  {q : Nat} {P1 : xH} (hst : (st.map fun v => v.category).sum ≤ 8) (hP : P.1 b = some (xO 9 fs)) (hC : xC w d mX11_thrown [.ref b] P (xThr q P1)) (hq : Q (.threw q) P1) : X w mL_law (d + 1) Q 632 ls (.ref b :: st) P := X_callV (M := mL_law) (MC := mX11_thrown) (As := []) (T := TX11) (dL_law_632) calX11_thrown xw_634 xw_635 xw_636 rfl rfl hP hC hst (fun v P2 h => by cases h.1) (fun q2 P2 h => by obtain ⟨h1, rfl⟩ := h; cases h1; exact Xt_out rfl hq)
theorem dL_law_635 : decode cL_law 635 = .ok (.iload 5, 2) := by decide +kernel
theorem sL_law_635 {l0 l1 l2 l3 l4 l6 l7 : Option Value} {x : Int32} (k : X w mL_law d Q 637 [l0, l1, l2, l3, l4, some (.int x), l6, l7] (.int x :: st) P) : X w mL_law d Q 635 [l0, l1, l2, l3, l4, some (.int x), l6, l7] st P := X_iload (M := mL_law) (dL_law_635) rfl k
theorem dL_law_637 : decode cL_law 637 = .ok (.if_icmp .eq 5, 3) := by decide +kernel
theorem sL_law_637 {x y : Int32} (kt : x = y → X w mL_law d Q 642 ls st P) (kf : ¬ x = y → X w mL_law d Q 640 ls st P) : X w mL_law d Q 637 ls (.int y :: .int x :: st) P := X_icmp_eq (M := mL_law) (dL_law_637) (by decide) kt kf
theorem dL_law_640 : decode cL_law 640 = .ok (.iconst 0, 1) := by decide +kernel
theorem sL_law_640 (k : X w mL_law d Q 641 ls (.int (0 : Int32) :: st) P) : X w mL_law d Q 640 ls st P := X_iconst (M := mL_law) (dL_law_640) (by decide) k
theorem dL_law_641 : decode cL_law 641 = .ok (.ireturn, 1) := by decide +kernel
theorem sL_law_641 {v : Int32} (hb : v = 0 ∨ v = 1) (hq : Q (.returned (some (.int v))) P) : X w mL_law d Q 641 ls [.int v] P := X_zret (M := mL_law) (ty := .boolean) (dL_law_641) rfl (xz_n hb) hq
theorem dL_law_642 : decode cL_law 642 = .ok (.iload 5, 2) := by decide +kernel
theorem sL_law_642 {l0 l1 l2 l3 l4 l6 l7 : Option Value} {x : Int32} (k : X w mL_law d Q 644 [l0, l1, l2, l3, l4, some (.int x), l6, l7] (.int x :: st) P) : X w mL_law d Q 642 [l0, l1, l2, l3, l4, some (.int x), l6, l7] st P := X_iload (M := mL_law) (dL_law_642) rfl k
theorem dL_law_644 : decode cL_law 644 = .ok (.ifCond .ne 15, 3) := by decide +kernel
theorem sL_law_644 {x : Int32} (kt : ¬ x = 0 → X w mL_law d Q 659 ls st P) (kf : x = 0 → X w mL_law d Q 647 ls st P) : X w mL_law d Q 644 ls (.int x :: st) P := X_if_ne (M := mL_law) (dL_law_644) (by decide) kt kf
theorem dL_law_647 : decode cL_law 647 = .ok (.aload_n 3, 1) := by decide +kernel
theorem sL_law_647 {l0 l1 l2 l4 l5 l6 l7 : Option Value} {x : Nat} (k : X w mL_law d Q 648 [l0, l1, l2, some (.ref x), l4, l5, l6, l7] (.ref x :: st) P) : X w mL_law d Q 647 [l0, l1, l2, some (.ref x), l4, l5, l6, l7] st P := X_aload_n (M := mL_law) (dL_law_647) rfl rfl k
theorem dL_law_648 : decode cL_law 648 = .ok (.iconst 0, 1) := by decide +kernel
theorem sL_law_648 (k : X w mL_law d Q 649 ls (.int (0 : Int32) :: st) P) : X w mL_law d Q 648 ls st P := X_iconst (M := mL_law) (dL_law_648) (by decide) k
theorem dL_law_649 : decode cL_law 649 = .ok (.laload, 1) := by decide +kernel
theorem sL_law_649 {a n : Nat} {f : Nat → Int64} {i : Int32} (hP : P.1 a = some (xJ n f)) (hi : vp_in i n) (k : X w mL_law d Q 650 ls (.long (f i.toNatClampNeg) :: st) P) : X w mL_law d Q 649 ls (.int i :: .ref a :: st) P := X_lald (M := mL_law) (dL_law_649) hP hi k
theorem dL_law_650 : decode cL_law 650 = .ok (.iload 6, 2) := by decide +kernel
theorem sL_law_650 {l0 l1 l2 l3 l4 l5 l7 : Option Value} {x : Int32} (k : X w mL_law d Q 652 [l0, l1, l2, l3, l4, l5, some (.int x), l7] (.int x :: st) P) : X w mL_law d Q 650 [l0, l1, l2, l3, l4, l5, some (.int x), l7] st P := X_iload (M := mL_law) (dL_law_650) rfl k
theorem dL_law_652 : decode cL_law 652 = .ok (.i2l, 1) := by decide +kernel
theorem sL_law_652 {x : Int32} (k : X w mL_law d Q 653 ls (.long x.toInt64 :: st) P) : X w mL_law d Q 652 ls (.int x :: st) P := X_i2l (M := mL_law) (dL_law_652) k
theorem dL_law_653 : decode cL_law 653 = .ok (.lcmp, 1) := by decide +kernel
theorem sL_law_653 {x y : Int64} (k : X w mL_law d Q 654 ls (.int (lg_cmp x y) :: st) P) : X w mL_law d Q 653 ls (.long y :: .long x :: st) P := X_lcmp (M := mL_law) (dL_law_653) k
theorem dL_law_654 : decode cL_law 654 = .ok (.ifCond .eq 5, 3) := by decide +kernel
theorem sL_law_654 {x : Int32} (kt : x = 0 → X w mL_law d Q 659 ls st P) (kf : ¬ x = 0 → X w mL_law d Q 657 ls st P) : X w mL_law d Q 654 ls (.int x :: st) P := X_if_eq (M := mL_law) (dL_law_654) (by decide) kt kf
theorem dL_law_657 : decode cL_law 657 = .ok (.iconst 0, 1) := by decide +kernel
theorem sL_law_657 (k : X w mL_law d Q 658 ls (.int (0 : Int32) :: st) P) : X w mL_law d Q 657 ls st P := X_iconst (M := mL_law) (dL_law_657) (by decide) k
theorem dL_law_658 : decode cL_law 658 = .ok (.ireturn, 1) := by decide +kernel
theorem sL_law_658 {v : Int32} (hb : v = 0 ∨ v = 1) (hq : Q (.returned (some (.int v))) P) : X w mL_law d Q 658 ls [.int v] P := X_zret (M := mL_law) (ty := .boolean) (dL_law_658) rfl (xz_n hb) hq
theorem dL_law_659 : decode cL_law 659 = .ok (.goto 430, 3) := by decide +kernel
theorem sL_law_659 (k : X w mL_law d Q 1089 ls st P) : X w mL_law d Q 659 ls st P := X_goto (M := mL_law) (dL_law_659) (by decide) k
theorem dL_law_662 : decode cL_law 662 = .ok (.aload_n 1, 1) := by decide +kernel
theorem sL_law_662 {l0 l2 l3 l4 l5 l6 l7 : Option Value} {x : Nat} (k : X w mL_law d Q 663 [l0, some (.ref x), l2, l3, l4, l5, l6, l7] (.ref x :: st) P) : X w mL_law d Q 662 [l0, some (.ref x), l2, l3, l4, l5, l6, l7] st P := X_aload_n (M := mL_law) (dL_law_662) rfl rfl k
theorem dL_law_663 : decode cL_law 663 = .ok (.aload_n 0, 1) := by decide +kernel
theorem sL_law_663 {l1 l2 l3 l4 l5 l6 l7 : Option Value} {x : Nat} (k : X w mL_law d Q 664 [some (.ref x), l1, l2, l3, l4, l5, l6, l7] (.ref x :: st) P) : X w mL_law d Q 663 [some (.ref x), l1, l2, l3, l4, l5, l6, l7] st P := X_aload_n (M := mL_law) (dL_law_663) rfl rfl k
theorem dL_law_664 : decode cL_law 664 = .ok (.iload 4, 2) := by decide +kernel
theorem sL_law_664 {l0 l1 l2 l3 l5 l6 l7 : Option Value} {x : Int32} (k : X w mL_law d Q 666 [l0, l1, l2, l3, some (.int x), l5, l6, l7] (.int x :: st) P) : X w mL_law d Q 664 [l0, l1, l2, l3, some (.int x), l5, l6, l7] st P := X_iload (M := mL_law) (dL_law_664) rfl k
theorem dL_law_666 : decode cL_law 666 = .ok (.iconst 1, 1) := by decide +kernel
theorem sL_law_666 (k : X w mL_law d Q 667 ls (.int (1 : Int32) :: st) P) : X w mL_law d Q 666 ls st P := X_iconst (M := mL_law) (dL_law_666) (by decide) k
theorem dL_law_667 : decode cL_law 667 = .ok (.iadd, 1) := by decide +kernel
theorem sL_law_667 {x y : Int32} (k : X w mL_law d Q 668 ls (.int (x + y) :: st) P) : X w mL_law d Q 667 ls (.int y :: .int x :: st) P := X_iadd (M := mL_law) (dL_law_667) k
theorem dL_law_668 : decode cL_law 668 = .ok (.iaload, 1) := by decide +kernel
theorem sL_law_668 {a n : Nat} {f : Nat → Int32} {i : Int32} (hP : P.1 a = some (xA 0 n f)) (hi : vp_in i n) (k : X w mL_law d Q 669 ls (.int (f i.toNatClampNeg) :: st) P) : X w mL_law d Q 668 ls (.int i :: .ref a :: st) P := X_iald (M := mL_law) (dL_law_668) hP hi k
theorem dL_law_669 : decode cL_law 669 = .ok (.aload_n 0, 1) := by decide +kernel
theorem sL_law_669 {l1 l2 l3 l4 l5 l6 l7 : Option Value} {x : Nat} (k : X w mL_law d Q 670 [some (.ref x), l1, l2, l3, l4, l5, l6, l7] (.ref x :: st) P) : X w mL_law d Q 669 [some (.ref x), l1, l2, l3, l4, l5, l6, l7] st P := X_aload_n (M := mL_law) (dL_law_669) rfl rfl k
theorem dL_law_670 : decode cL_law 670 = .ok (.iload 4, 2) := by decide +kernel
theorem sL_law_670 {l0 l1 l2 l3 l5 l6 l7 : Option Value} {x : Int32} (k : X w mL_law d Q 672 [l0, l1, l2, l3, some (.int x), l5, l6, l7] (.int x :: st) P) : X w mL_law d Q 670 [l0, l1, l2, l3, some (.int x), l5, l6, l7] st P := X_iload (M := mL_law) (dL_law_670) rfl k
theorem dL_law_672 : decode cL_law 672 = .ok (.iconst 2, 1) := by decide +kernel
theorem sL_law_672 (k : X w mL_law d Q 673 ls (.int (2 : Int32) :: st) P) : X w mL_law d Q 672 ls st P := X_iconst (M := mL_law) (dL_law_672) (by decide) k
theorem dL_law_673 : decode cL_law 673 = .ok (.iadd, 1) := by decide +kernel
theorem sL_law_673 {x y : Int32} (k : X w mL_law d Q 674 ls (.int (x + y) :: st) P) : X w mL_law d Q 673 ls (.int y :: .int x :: st) P := X_iadd (M := mL_law) (dL_law_673) k
theorem dL_law_674 : decode cL_law 674 = .ok (.iaload, 1) := by decide +kernel
theorem sL_law_674 {a n : Nat} {f : Nat → Int32} {i : Int32} (hP : P.1 a = some (xA 0 n f)) (hi : vp_in i n) (k : X w mL_law d Q 675 ls (.int (f i.toNatClampNeg) :: st) P) : X w mL_law d Q 674 ls (.int i :: .ref a :: st) P := X_iald (M := mL_law) (dL_law_674) hP hi k
theorem dL_law_675 : decode cL_law 675 = .ok (.aload_n 3, 1) := by decide +kernel
theorem sL_law_675 {l0 l1 l2 l4 l5 l6 l7 : Option Value} {x : Nat} (k : X w mL_law d Q 676 [l0, l1, l2, some (.ref x), l4, l5, l6, l7] (.ref x :: st) P) : X w mL_law d Q 675 [l0, l1, l2, some (.ref x), l4, l5, l6, l7] st P := X_aload_n (M := mL_law) (dL_law_675) rfl rfl k
theorem dL_law_676 : decode cL_law 676 = .ok (.invokestatic 99, 3) := by decide +kernel
theorem sL_law_676_g {a0 : Nat} {a1 : Int32} {a2 : Int32} {a3 : Nat} {Qc : Outcome → xH → Prop} (hst : (st.map fun v => v.category).sum ≤ 8) (hC : xC w d mL_alike [.ref a0, .int a1, .int a2, .ref a3] P Qc) (kr : ∀ v P1, Qc (.returned v) P1 → X w mL_law (d + 1) Q 679 ls (v.toList ++ st) P1) (kt : ∀ q P1, Qc (.threw q) P1 → Xt w mL_law (d + 1) Q 676 ls st P1 q) : X w mL_law (d + 1) Q 676 ls (.ref a3 :: .int a2 :: .int a1 :: .ref a0 :: st) P := X_callS (M := mL_law) (MC := mL_alike) (As := [.ref a0, .int a1, .int a2, .ref a3]) (dL_law_676) calL_alike xw_662 xw_663 rfl hC hst kr kt
theorem sL_law_676 {a0 : Nat} {a1 : Int32} {a2 : Int32} {a3 : Nat} {r : Int32} {P1 : xH} (hst : (st.map fun v => v.category).sum ≤ 8) (hC : xC w d mL_alike [.ref a0, .int a1, .int a2, .ref a3] P (xRet (some (.int r)) P1)) (k : X w mL_law (d + 1) Q 679 ls (.int r :: st) P1) : X w mL_law (d + 1) Q 676 ls (.ref a3 :: .int a2 :: .int a1 :: .ref a0 :: st) P := X_callS (M := mL_law) (MC := mL_alike) (As := [.ref a0, .int a1, .int a2, .ref a3]) (dL_law_676) calL_alike xw_662 xw_663 rfl hC hst (fun v P2 h => by obtain ⟨h1, rfl⟩ := h; cases h1; exact k) (fun q P2 h => by cases h.1)
theorem sL_law_676_r {a0 : Nat} {a1 : Int32} {a2 : Int32} {a3 : Nat} {r : Int32} {Rp : xH → Prop} (hst : (st.map fun v => v.category).sum ≤ 8) (hC : xC w d mL_alike [.ref a0, .int a1, .int a2, .ref a3] P (xRl (some (.int r)) Rp)) (k : ∀ P1, Rp P1 → X w mL_law (d + 1) Q 679 ls (.int r :: st) P1) : X w mL_law (d + 1) Q 676 ls (.ref a3 :: .int a2 :: .int a1 :: .ref a0 :: st) P := X_callS (M := mL_law) (MC := mL_alike) (As := [.ref a0, .int a1, .int a2, .ref a3]) (dL_law_676) calL_alike xw_662 xw_663 rfl hC hst (fun v P2 h => by obtain ⟨h1, hR⟩ := h; cases h1; exact k P2 hR) (fun q P2 h => by cases h.1)
theorem sL_law_676_t {a0 : Nat} {a1 : Int32} {a2 : Int32} {a3 : Nat} {q : Nat} {P1 : xH} (hst : (st.map fun v => v.category).sum ≤ 8) (hC : xC w d mL_alike [.ref a0, .int a1, .int a2, .ref a3] P (xThr q P1)) (hq : Q (.threw q) P1) : X w mL_law (d + 1) Q 676 ls (.ref a3 :: .int a2 :: .int a1 :: .ref a0 :: st) P := X_callS (M := mL_law) (MC := mL_alike) (As := [.ref a0, .int a1, .int a2, .ref a3]) (dL_law_676) calL_alike xw_662 xw_663 rfl hC hst (fun v P2 h => by cases h.1) (fun q2 P2 h => by obtain ⟨h1, rfl⟩ := h; cases h1; exact Xt_out rfl hq)
theorem dL_law_679 : decode cL_law 679 = .ok (.istore 5, 2) := by decide +kernel
theorem sL_law_679 {l0 l1 l2 l3 l4 l5 l6 l7 : Option Value} {x : Int32} (hn : xnl l4 = true) (k : X w mL_law d Q 681 [l0, l1, l2, l3, l4, some (.int x), l6, l7] st P) : X w mL_law d Q 679 [l0, l1, l2, l3, l4, l5, l6, l7] (.int x :: st) P := X_istore (M := mL_law) (dL_law_679) (by decide) rfl (xnl_p (ls := [l0, l1, l2, l3, l4, l5, l6, l7]) (j := 4) rfl hn) k
theorem dL_law_681 : decode cL_law 681 = .ok (.aload_n 2, 1) := by decide +kernel
theorem sL_law_681 {l0 l1 l3 l4 l5 l6 l7 : Option Value} {x : Nat} (k : X w mL_law d Q 682 [l0, l1, some (.ref x), l3, l4, l5, l6, l7] (.ref x :: st) P) : X w mL_law d Q 681 [l0, l1, some (.ref x), l3, l4, l5, l6, l7] st P := X_aload_n (M := mL_law) (dL_law_681) rfl rfl k
theorem dL_law_682 : decode cL_law 682 = .ok (.aload_n 0, 1) := by decide +kernel
theorem sL_law_682 {l1 l2 l3 l4 l5 l6 l7 : Option Value} {x : Nat} (k : X w mL_law d Q 683 [some (.ref x), l1, l2, l3, l4, l5, l6, l7] (.ref x :: st) P) : X w mL_law d Q 682 [some (.ref x), l1, l2, l3, l4, l5, l6, l7] st P := X_aload_n (M := mL_law) (dL_law_682) rfl rfl k
theorem dL_law_683 : decode cL_law 683 = .ok (.iload 4, 2) := by decide +kernel
theorem sL_law_683 {l0 l1 l2 l3 l5 l6 l7 : Option Value} {x : Int32} (k : X w mL_law d Q 685 [l0, l1, l2, l3, some (.int x), l5, l6, l7] (.int x :: st) P) : X w mL_law d Q 683 [l0, l1, l2, l3, some (.int x), l5, l6, l7] st P := X_iload (M := mL_law) (dL_law_683) rfl k
theorem dL_law_685 : decode cL_law 685 = .ok (.iconst 1, 1) := by decide +kernel
theorem sL_law_685 (k : X w mL_law d Q 686 ls (.int (1 : Int32) :: st) P) : X w mL_law d Q 685 ls st P := X_iconst (M := mL_law) (dL_law_685) (by decide) k
theorem dL_law_686 : decode cL_law 686 = .ok (.iadd, 1) := by decide +kernel
theorem sL_law_686 {x y : Int32} (k : X w mL_law d Q 687 ls (.int (x + y) :: st) P) : X w mL_law d Q 686 ls (.int y :: .int x :: st) P := X_iadd (M := mL_law) (dL_law_686) k
theorem dL_law_687 : decode cL_law 687 = .ok (.iaload, 1) := by decide +kernel
theorem sL_law_687 {a n : Nat} {f : Nat → Int32} {i : Int32} (hP : P.1 a = some (xA 0 n f)) (hi : vp_in i n) (k : X w mL_law d Q 688 ls (.int (f i.toNatClampNeg) :: st) P) : X w mL_law d Q 687 ls (.int i :: .ref a :: st) P := X_iald (M := mL_law) (dL_law_687) hP hi k
theorem dL_law_688 : decode cL_law 688 = .ok (.aload_n 0, 1) := by decide +kernel
theorem sL_law_688 {l1 l2 l3 l4 l5 l6 l7 : Option Value} {x : Nat} (k : X w mL_law d Q 689 [some (.ref x), l1, l2, l3, l4, l5, l6, l7] (.ref x :: st) P) : X w mL_law d Q 688 [some (.ref x), l1, l2, l3, l4, l5, l6, l7] st P := X_aload_n (M := mL_law) (dL_law_688) rfl rfl k
theorem dL_law_689 : decode cL_law 689 = .ok (.iload 4, 2) := by decide +kernel
theorem sL_law_689 {l0 l1 l2 l3 l5 l6 l7 : Option Value} {x : Int32} (k : X w mL_law d Q 691 [l0, l1, l2, l3, some (.int x), l5, l6, l7] (.int x :: st) P) : X w mL_law d Q 689 [l0, l1, l2, l3, some (.int x), l5, l6, l7] st P := X_iload (M := mL_law) (dL_law_689) rfl k
theorem dL_law_691 : decode cL_law 691 = .ok (.iconst 2, 1) := by decide +kernel
theorem sL_law_691 (k : X w mL_law d Q 692 ls (.int (2 : Int32) :: st) P) : X w mL_law d Q 691 ls st P := X_iconst (M := mL_law) (dL_law_691) (by decide) k
theorem dL_law_692 : decode cL_law 692 = .ok (.iadd, 1) := by decide +kernel
theorem sL_law_692 {x y : Int32} (k : X w mL_law d Q 693 ls (.int (x + y) :: st) P) : X w mL_law d Q 692 ls (.int y :: .int x :: st) P := X_iadd (M := mL_law) (dL_law_692) k
theorem dL_law_693 : decode cL_law 693 = .ok (.iaload, 1) := by decide +kernel
theorem sL_law_693 {a n : Nat} {f : Nat → Int32} {i : Int32} (hP : P.1 a = some (xA 0 n f)) (hi : vp_in i n) (k : X w mL_law d Q 694 ls (.int (f i.toNatClampNeg) :: st) P) : X w mL_law d Q 693 ls (.int i :: .ref a :: st) P := X_iald (M := mL_law) (dL_law_693) hP hi k
theorem dL_law_694 : decode cL_law 694 = .ok (.invokevirtual 101, 3) := by decide +kernel
theorem sL_law_694_g {b : Nat} {fs : List Value} {a0 : Int32} {a1 : Int32} {Qc : Outcome → xH → Prop} (hst : (st.map fun v => v.category).sum ≤ 8) (hP : P.1 b = some (xO 9 fs)) (hC : xC w d mX11_alike [.ref b, .int a0, .int a1] P Qc) (kr : ∀ v P1, Qc (.returned v) P1 → X w mL_law (d + 1) Q 697 ls (v.toList ++ st) P1) (kt : ∀ q P1, Qc (.threw q) P1 → Xt w mL_law (d + 1) Q 694 ls st P1 q) : X w mL_law (d + 1) Q 694 ls (.int a1 :: .int a0 :: .ref b :: st) P := X_callV (M := mL_law) (MC := mX11_alike) (As := [.int a0, .int a1]) (T := TX11) (dL_law_694) calX11_alike xw_664 xw_665 xw_666 rfl rfl hP hC hst kr kt
theorem sL_law_694 {b : Nat} {fs : List Value} {a0 : Int32} {a1 : Int32} {r : Int32} {P1 : xH} (hst : (st.map fun v => v.category).sum ≤ 8) (hP : P.1 b = some (xO 9 fs)) (hC : xC w d mX11_alike [.ref b, .int a0, .int a1] P (xRet (some (.int r)) P1)) (k : X w mL_law (d + 1) Q 697 ls (.int r :: st) P1) : X w mL_law (d + 1) Q 694 ls (.int a1 :: .int a0 :: .ref b :: st) P := X_callV (M := mL_law) (MC := mX11_alike) (As := [.int a0, .int a1]) (T := TX11) (dL_law_694) calX11_alike xw_664 xw_665 xw_666 rfl rfl hP hC hst (fun v P2 h => by obtain ⟨h1, rfl⟩ := h; cases h1; exact k) (fun q P2 h => by cases h.1)
theorem sL_law_694_r {b : Nat} {fs : List Value} {a0 : Int32} {a1 : Int32} {r : Int32} {Rp : xH → Prop} (hst : (st.map fun v => v.category).sum ≤ 8) (hP : P.1 b = some (xO 9 fs)) (hC : xC w d mX11_alike [.ref b, .int a0, .int a1] P (xRl (some (.int r)) Rp)) (k : ∀ P1, Rp P1 → X w mL_law (d + 1) Q 697 ls (.int r :: st) P1) : X w mL_law (d + 1) Q 694 ls (.int a1 :: .int a0 :: .ref b :: st) P := X_callV (M := mL_law) (MC := mX11_alike) (As := [.int a0, .int a1]) (T := TX11) (dL_law_694) calX11_alike xw_664 xw_665 xw_666 rfl rfl hP hC hst (fun v P2 h => by obtain ⟨h1, hR⟩ := h; cases h1; exact k P2 hR) (fun q P2 h => by cases h.1)
theorem sL_law_694_t {b : Nat} {fs : List Value} {a0 : Int32} {a1 : Int32} {q : Nat} {P1 : xH} (hst : (st.map fun v => v.category).sum ≤ 8) (hP : P.1 b = some (xO 9 fs)) (hC : xC w d mX11_alike [.ref b, .int a0, .int a1] P (xThr q P1)) (hq : Q (.threw q) P1) : X w mL_law (d + 1) Q 694 ls (.int a1 :: .int a0 :: .ref b :: st) P := X_callV (M := mL_law) (MC := mX11_alike) (As := [.int a0, .int a1]) (T := TX11) (dL_law_694) calX11_alike xw_664 xw_665 xw_666 rfl rfl hP hC hst (fun v P2 h => by cases h.1) (fun q2 P2 h => by obtain ⟨h1, rfl⟩ := h; cases h1; exact Xt_out rfl hq)
theorem dL_law_697 : decode cL_law 697 = .ok (.istore 6, 2) := by decide +kernel
theorem sL_law_697 {l0 l1 l2 l3 l4 l5 l6 l7 : Option Value} {x : Int32} (hn : xnl l5 = true) (k : X w mL_law d Q 699 [l0, l1, l2, l3, l4, l5, some (.int x), l7] st P) : X w mL_law d Q 697 [l0, l1, l2, l3, l4, l5, l6, l7] (.int x :: st) P := X_istore (M := mL_law) (dL_law_697) (by decide) rfl (xnl_p (ls := [l0, l1, l2, l3, l4, l5, l6, l7]) (j := 5) rfl hn) k
theorem dL_law_699 : decode cL_law 699 = .ok (.aload_n 2, 1) := by decide +kernel
theorem sL_law_699 {l0 l1 l3 l4 l5 l6 l7 : Option Value} {x : Nat} (k : X w mL_law d Q 700 [l0, l1, some (.ref x), l3, l4, l5, l6, l7] (.ref x :: st) P) : X w mL_law d Q 699 [l0, l1, some (.ref x), l3, l4, l5, l6, l7] st P := X_aload_n (M := mL_law) (dL_law_699) rfl rfl k
theorem dL_law_700 : decode cL_law 700 = .ok (.invokevirtual 79, 3) := by decide +kernel
theorem sL_law_700_g {b : Nat} {fs : List Value}  {Qc : Outcome → xH → Prop} (hst : (st.map fun v => v.category).sum ≤ 8) (hP : P.1 b = some (xO 9 fs)) (hC : xC w d mX11_thrown [.ref b] P Qc) (kr : ∀ v P1, Qc (.returned v) P1 → X w mL_law (d + 1) Q 703 ls (v.toList ++ st) P1) (kt : ∀ q P1, Qc (.threw q) P1 → Xt w mL_law (d + 1) Q 700 ls st P1 q) : X w mL_law (d + 1) Q 700 ls (.ref b :: st) P := X_callV (M := mL_law) (MC := mX11_thrown) (As := []) (T := TX11) (dL_law_700) calX11_thrown xw_634 xw_635 xw_636 rfl rfl hP hC hst kr kt
theorem sL_law_700 {b : Nat} {fs : List Value}  {r : Int32} {P1 : xH} (hst : (st.map fun v => v.category).sum ≤ 8) (hP : P.1 b = some (xO 9 fs)) (hC : xC w d mX11_thrown [.ref b] P (xRet (some (.int r)) P1)) (k : X w mL_law (d + 1) Q 703 ls (.int r :: st) P1) : X w mL_law (d + 1) Q 700 ls (.ref b :: st) P := X_callV (M := mL_law) (MC := mX11_thrown) (As := []) (T := TX11) (dL_law_700) calX11_thrown xw_634 xw_635 xw_636 rfl rfl hP hC hst (fun v P2 h => by obtain ⟨h1, rfl⟩ := h; cases h1; exact k) (fun q P2 h => by cases h.1)
theorem sL_law_700_r {b : Nat} {fs : List Value}  {r : Int32} {Rp : xH → Prop} (hst : (st.map fun v => v.category).sum ≤ 8) (hP : P.1 b = some (xO 9 fs)) (hC : xC w d mX11_thrown [.ref b] P (xRl (some (.int r)) Rp)) (k : ∀ P1, Rp P1 → X w mL_law (d + 1) Q 703 ls (.int r :: st) P1) : X w mL_law (d + 1) Q 700 ls (.ref b :: st) P := X_callV (M := mL_law) (MC := mX11_thrown) (As := []) (T := TX11) (dL_law_700) calX11_thrown xw_634 xw_635 xw_636 rfl rfl hP hC hst (fun v P2 h => by obtain ⟨h1, hR⟩ := h; cases h1; exact k P2 hR) (fun q P2 h => by cases h.1)
theorem sL_law_700_t {b : Nat} {fs : List Value}  {q : Nat} {P1 : xH} (hst : (st.map fun v => v.category).sum ≤ 8) (hP : P.1 b = some (xO 9 fs)) (hC : xC w d mX11_thrown [.ref b] P (xThr q P1)) (hq : Q (.threw q) P1) : X w mL_law (d + 1) Q 700 ls (.ref b :: st) P := X_callV (M := mL_law) (MC := mX11_thrown) (As := []) (T := TX11) (dL_law_700) calX11_thrown xw_634 xw_635 xw_636 rfl rfl hP hC hst (fun v P2 h => by cases h.1) (fun q2 P2 h => by obtain ⟨h1, rfl⟩ := h; cases h1; exact Xt_out rfl hq)
theorem dL_law_703 : decode cL_law 703 = .ok (.iload 5, 2) := by decide +kernel
theorem sL_law_703 {l0 l1 l2 l3 l4 l6 l7 : Option Value} {x : Int32} (k : X w mL_law d Q 705 [l0, l1, l2, l3, l4, some (.int x), l6, l7] (.int x :: st) P) : X w mL_law d Q 703 [l0, l1, l2, l3, l4, some (.int x), l6, l7] st P := X_iload (M := mL_law) (dL_law_703) rfl k
theorem dL_law_705 : decode cL_law 705 = .ok (.if_icmp .eq 5, 3) := by decide +kernel
theorem sL_law_705 {x y : Int32} (kt : x = y → X w mL_law d Q 710 ls st P) (kf : ¬ x = y → X w mL_law d Q 708 ls st P) : X w mL_law d Q 705 ls (.int y :: .int x :: st) P := X_icmp_eq (M := mL_law) (dL_law_705) (by decide) kt kf
theorem dL_law_708 : decode cL_law 708 = .ok (.iconst 0, 1) := by decide +kernel
theorem sL_law_708 (k : X w mL_law d Q 709 ls (.int (0 : Int32) :: st) P) : X w mL_law d Q 708 ls st P := X_iconst (M := mL_law) (dL_law_708) (by decide) k
theorem dL_law_709 : decode cL_law 709 = .ok (.ireturn, 1) := by decide +kernel
theorem sL_law_709 {v : Int32} (hb : v = 0 ∨ v = 1) (hq : Q (.returned (some (.int v))) P) : X w mL_law d Q 709 ls [.int v] P := X_zret (M := mL_law) (ty := .boolean) (dL_law_709) rfl (xz_n hb) hq
theorem dL_law_710 : decode cL_law 710 = .ok (.iload 5, 2) := by decide +kernel
theorem sL_law_710 {l0 l1 l2 l3 l4 l6 l7 : Option Value} {x : Int32} (k : X w mL_law d Q 712 [l0, l1, l2, l3, l4, some (.int x), l6, l7] (.int x :: st) P) : X w mL_law d Q 710 [l0, l1, l2, l3, l4, some (.int x), l6, l7] st P := X_iload (M := mL_law) (dL_law_710) rfl k
theorem dL_law_712 : decode cL_law 712 = .ok (.ifCond .ne 22, 3) := by decide +kernel
theorem sL_law_712 {x : Int32} (kt : ¬ x = 0 → X w mL_law d Q 734 ls st P) (kf : x = 0 → X w mL_law d Q 715 ls st P) : X w mL_law d Q 712 ls (.int x :: st) P := X_if_ne (M := mL_law) (dL_law_712) (by decide) kt kf
theorem dL_law_715 : decode cL_law 715 = .ok (.aload_n 3, 1) := by decide +kernel
theorem sL_law_715 {l0 l1 l2 l4 l5 l6 l7 : Option Value} {x : Nat} (k : X w mL_law d Q 716 [l0, l1, l2, some (.ref x), l4, l5, l6, l7] (.ref x :: st) P) : X w mL_law d Q 715 [l0, l1, l2, some (.ref x), l4, l5, l6, l7] st P := X_aload_n (M := mL_law) (dL_law_715) rfl rfl k
theorem dL_law_716 : decode cL_law 716 = .ok (.iconst 0, 1) := by decide +kernel
theorem sL_law_716 (k : X w mL_law d Q 717 ls (.int (0 : Int32) :: st) P) : X w mL_law d Q 716 ls st P := X_iconst (M := mL_law) (dL_law_716) (by decide) k
theorem dL_law_717 : decode cL_law 717 = .ok (.laload, 1) := by decide +kernel
theorem sL_law_717 {a n : Nat} {f : Nat → Int64} {i : Int32} (hP : P.1 a = some (xJ n f)) (hi : vp_in i n) (k : X w mL_law d Q 718 ls (.long (f i.toNatClampNeg) :: st) P) : X w mL_law d Q 717 ls (.int i :: .ref a :: st) P := X_lald (M := mL_law) (dL_law_717) hP hi k
theorem dL_law_718 : decode cL_law 718 = .ok (.iload 6, 2) := by decide +kernel
theorem sL_law_718 {l0 l1 l2 l3 l4 l5 l7 : Option Value} {x : Int32} (k : X w mL_law d Q 720 [l0, l1, l2, l3, l4, l5, some (.int x), l7] (.int x :: st) P) : X w mL_law d Q 718 [l0, l1, l2, l3, l4, l5, some (.int x), l7] st P := X_iload (M := mL_law) (dL_law_718) rfl k
theorem dL_law_720 : decode cL_law 720 = .ok (.ifCond .eq 7, 3) := by decide +kernel
theorem sL_law_720 {x : Int32} (kt : x = 0 → X w mL_law d Q 727 ls st P) (kf : ¬ x = 0 → X w mL_law d Q 723 ls st P) : X w mL_law d Q 720 ls (.int x :: st) P := X_if_eq (M := mL_law) (dL_law_720) (by decide) kt kf
theorem dL_law_723 : decode cL_law 723 = .ok (.lconst 1, 1) := by decide +kernel
theorem sL_law_723 (k : X w mL_law d Q 724 ls (.long (1 : Int64) :: st) P) : X w mL_law d Q 723 ls st P := X_lconst (M := mL_law) (dL_law_723) (by decide) k
theorem dL_law_724 : decode cL_law 724 = .ok (.goto 4, 3) := by decide +kernel
theorem sL_law_724 (k : X w mL_law d Q 728 ls st P) : X w mL_law d Q 724 ls st P := X_goto (M := mL_law) (dL_law_724) (by decide) k
theorem dL_law_727 : decode cL_law 727 = .ok (.lconst 0, 1) := by decide +kernel
theorem sL_law_727 (k : X w mL_law d Q 728 ls (.long (0 : Int64) :: st) P) : X w mL_law d Q 727 ls st P := X_lconst (M := mL_law) (dL_law_727) (by decide) k
theorem dL_law_728 : decode cL_law 728 = .ok (.lcmp, 1) := by decide +kernel
theorem sL_law_728 {x y : Int64} (k : X w mL_law d Q 729 ls (.int (lg_cmp x y) :: st) P) : X w mL_law d Q 728 ls (.long y :: .long x :: st) P := X_lcmp (M := mL_law) (dL_law_728) k
theorem dL_law_729 : decode cL_law 729 = .ok (.ifCond .eq 5, 3) := by decide +kernel
theorem sL_law_729 {x : Int32} (kt : x = 0 → X w mL_law d Q 734 ls st P) (kf : ¬ x = 0 → X w mL_law d Q 732 ls st P) : X w mL_law d Q 729 ls (.int x :: st) P := X_if_eq (M := mL_law) (dL_law_729) (by decide) kt kf
theorem dL_law_732 : decode cL_law 732 = .ok (.iconst 0, 1) := by decide +kernel
theorem sL_law_732 (k : X w mL_law d Q 733 ls (.int (0 : Int32) :: st) P) : X w mL_law d Q 732 ls st P := X_iconst (M := mL_law) (dL_law_732) (by decide) k
theorem dL_law_733 : decode cL_law 733 = .ok (.ireturn, 1) := by decide +kernel
theorem sL_law_733 {v : Int32} (hb : v = 0 ∨ v = 1) (hq : Q (.returned (some (.int v))) P) : X w mL_law d Q 733 ls [.int v] P := X_zret (M := mL_law) (ty := .boolean) (dL_law_733) rfl (xz_n hb) hq
theorem dL_law_734 : decode cL_law 734 = .ok (.goto 355, 3) := by decide +kernel
theorem sL_law_734 (k : X w mL_law d Q 1089 ls st P) : X w mL_law d Q 734 ls st P := X_goto (M := mL_law) (dL_law_734) (by decide) k
theorem dL_law_737 : decode cL_law 737 = .ok (.aload_n 1, 1) := by decide +kernel
theorem sL_law_737 {l0 l2 l3 l4 l5 l6 l7 : Option Value} {x : Nat} (k : X w mL_law d Q 738 [l0, some (.ref x), l2, l3, l4, l5, l6, l7] (.ref x :: st) P) : X w mL_law d Q 737 [l0, some (.ref x), l2, l3, l4, l5, l6, l7] st P := X_aload_n (M := mL_law) (dL_law_737) rfl rfl k
theorem dL_law_738 : decode cL_law 738 = .ok (.aload_n 0, 1) := by decide +kernel
theorem sL_law_738 {l1 l2 l3 l4 l5 l6 l7 : Option Value} {x : Nat} (k : X w mL_law d Q 739 [some (.ref x), l1, l2, l3, l4, l5, l6, l7] (.ref x :: st) P) : X w mL_law d Q 738 [some (.ref x), l1, l2, l3, l4, l5, l6, l7] st P := X_aload_n (M := mL_law) (dL_law_738) rfl rfl k
theorem dL_law_739 : decode cL_law 739 = .ok (.iload 4, 2) := by decide +kernel
theorem sL_law_739 {l0 l1 l2 l3 l5 l6 l7 : Option Value} {x : Int32} (k : X w mL_law d Q 741 [l0, l1, l2, l3, some (.int x), l5, l6, l7] (.int x :: st) P) : X w mL_law d Q 739 [l0, l1, l2, l3, some (.int x), l5, l6, l7] st P := X_iload (M := mL_law) (dL_law_739) rfl k
theorem dL_law_741 : decode cL_law 741 = .ok (.iconst 1, 1) := by decide +kernel
theorem sL_law_741 (k : X w mL_law d Q 742 ls (.int (1 : Int32) :: st) P) : X w mL_law d Q 741 ls st P := X_iconst (M := mL_law) (dL_law_741) (by decide) k
theorem dL_law_742 : decode cL_law 742 = .ok (.iadd, 1) := by decide +kernel
theorem sL_law_742 {x y : Int32} (k : X w mL_law d Q 743 ls (.int (x + y) :: st) P) : X w mL_law d Q 742 ls (.int y :: .int x :: st) P := X_iadd (M := mL_law) (dL_law_742) k
theorem dL_law_743 : decode cL_law 743 = .ok (.iaload, 1) := by decide +kernel
theorem sL_law_743 {a n : Nat} {f : Nat → Int32} {i : Int32} (hP : P.1 a = some (xA 0 n f)) (hi : vp_in i n) (k : X w mL_law d Q 744 ls (.int (f i.toNatClampNeg) :: st) P) : X w mL_law d Q 743 ls (.int i :: .ref a :: st) P := X_iald (M := mL_law) (dL_law_743) hP hi k
theorem dL_law_744 : decode cL_law 744 = .ok (.aload_n 0, 1) := by decide +kernel
theorem sL_law_744 {l1 l2 l3 l4 l5 l6 l7 : Option Value} {x : Nat} (k : X w mL_law d Q 745 [some (.ref x), l1, l2, l3, l4, l5, l6, l7] (.ref x :: st) P) : X w mL_law d Q 744 [some (.ref x), l1, l2, l3, l4, l5, l6, l7] st P := X_aload_n (M := mL_law) (dL_law_744) rfl rfl k
theorem dL_law_745 : decode cL_law 745 = .ok (.iload 4, 2) := by decide +kernel
theorem sL_law_745 {l0 l1 l2 l3 l5 l6 l7 : Option Value} {x : Int32} (k : X w mL_law d Q 747 [l0, l1, l2, l3, some (.int x), l5, l6, l7] (.int x :: st) P) : X w mL_law d Q 745 [l0, l1, l2, l3, some (.int x), l5, l6, l7] st P := X_iload (M := mL_law) (dL_law_745) rfl k
theorem dL_law_747 : decode cL_law 747 = .ok (.iconst 2, 1) := by decide +kernel
theorem sL_law_747 (k : X w mL_law d Q 748 ls (.int (2 : Int32) :: st) P) : X w mL_law d Q 747 ls st P := X_iconst (M := mL_law) (dL_law_747) (by decide) k
theorem dL_law_748 : decode cL_law 748 = .ok (.iadd, 1) := by decide +kernel
theorem sL_law_748 {x y : Int32} (k : X w mL_law d Q 749 ls (.int (x + y) :: st) P) : X w mL_law d Q 748 ls (.int y :: .int x :: st) P := X_iadd (M := mL_law) (dL_law_748) k
theorem dL_law_749 : decode cL_law 749 = .ok (.iaload, 1) := by decide +kernel
theorem sL_law_749 {a n : Nat} {f : Nat → Int32} {i : Int32} (hP : P.1 a = some (xA 0 n f)) (hi : vp_in i n) (k : X w mL_law d Q 750 ls (.int (f i.toNatClampNeg) :: st) P) : X w mL_law d Q 749 ls (.int i :: .ref a :: st) P := X_iald (M := mL_law) (dL_law_749) hP hi k
theorem dL_law_750 : decode cL_law 750 = .ok (.aload_n 0, 1) := by decide +kernel
theorem sL_law_750 {l1 l2 l3 l4 l5 l6 l7 : Option Value} {x : Nat} (k : X w mL_law d Q 751 [some (.ref x), l1, l2, l3, l4, l5, l6, l7] (.ref x :: st) P) : X w mL_law d Q 750 [some (.ref x), l1, l2, l3, l4, l5, l6, l7] st P := X_aload_n (M := mL_law) (dL_law_750) rfl rfl k
theorem dL_law_751 : decode cL_law 751 = .ok (.iload 4, 2) := by decide +kernel
theorem sL_law_751 {l0 l1 l2 l3 l5 l6 l7 : Option Value} {x : Int32} (k : X w mL_law d Q 753 [l0, l1, l2, l3, some (.int x), l5, l6, l7] (.int x :: st) P) : X w mL_law d Q 751 [l0, l1, l2, l3, some (.int x), l5, l6, l7] st P := X_iload (M := mL_law) (dL_law_751) rfl k
theorem dL_law_753 : decode cL_law 753 = .ok (.iconst 3, 1) := by decide +kernel
theorem sL_law_753 (k : X w mL_law d Q 754 ls (.int (3 : Int32) :: st) P) : X w mL_law d Q 753 ls st P := X_iconst (M := mL_law) (dL_law_753) (by decide) k
theorem dL_law_754 : decode cL_law 754 = .ok (.iadd, 1) := by decide +kernel
theorem sL_law_754 {x y : Int32} (k : X w mL_law d Q 755 ls (.int (x + y) :: st) P) : X w mL_law d Q 754 ls (.int y :: .int x :: st) P := X_iadd (M := mL_law) (dL_law_754) k
theorem dL_law_755 : decode cL_law 755 = .ok (.iaload, 1) := by decide +kernel
theorem sL_law_755 {a n : Nat} {f : Nat → Int32} {i : Int32} (hP : P.1 a = some (xA 0 n f)) (hi : vp_in i n) (k : X w mL_law d Q 756 ls (.int (f i.toNatClampNeg) :: st) P) : X w mL_law d Q 755 ls (.int i :: .ref a :: st) P := X_iald (M := mL_law) (dL_law_755) hP hi k
theorem dL_law_756 : decode cL_law 756 = .ok (.aload_n 3, 1) := by decide +kernel
theorem sL_law_756 {l0 l1 l2 l4 l5 l6 l7 : Option Value} {x : Nat} (k : X w mL_law d Q 757 [l0, l1, l2, some (.ref x), l4, l5, l6, l7] (.ref x :: st) P) : X w mL_law d Q 756 [l0, l1, l2, some (.ref x), l4, l5, l6, l7] st P := X_aload_n (M := mL_law) (dL_law_756) rfl rfl k
theorem dL_law_757 : decode cL_law 757 = .ok (.invokestatic 102, 3) := by decide +kernel
theorem sL_law_757_g {a0 : Nat} {a1 : Int32} {a2 : Int32} {a3 : Int32} {a4 : Nat} {Qc : Outcome → xH → Prop} (hst : (st.map fun v => v.category).sum ≤ 8) (hC : xC w d mL_order [.ref a0, .int a1, .int a2, .int a3, .ref a4] P Qc) (kr : ∀ v P1, Qc (.returned v) P1 → X w mL_law (d + 1) Q 760 ls (v.toList ++ st) P1) (kt : ∀ q P1, Qc (.threw q) P1 → Xt w mL_law (d + 1) Q 757 ls st P1 q) : X w mL_law (d + 1) Q 757 ls (.ref a4 :: .int a3 :: .int a2 :: .int a1 :: .ref a0 :: st) P := X_callS (M := mL_law) (MC := mL_order) (As := [.ref a0, .int a1, .int a2, .int a3, .ref a4]) (dL_law_757) calL_order xw_667 xw_668 rfl hC hst kr kt
theorem sL_law_757 {a0 : Nat} {a1 : Int32} {a2 : Int32} {a3 : Int32} {a4 : Nat} {r : Int32} {P1 : xH} (hst : (st.map fun v => v.category).sum ≤ 8) (hC : xC w d mL_order [.ref a0, .int a1, .int a2, .int a3, .ref a4] P (xRet (some (.int r)) P1)) (k : X w mL_law (d + 1) Q 760 ls (.int r :: st) P1) : X w mL_law (d + 1) Q 757 ls (.ref a4 :: .int a3 :: .int a2 :: .int a1 :: .ref a0 :: st) P := X_callS (M := mL_law) (MC := mL_order) (As := [.ref a0, .int a1, .int a2, .int a3, .ref a4]) (dL_law_757) calL_order xw_667 xw_668 rfl hC hst (fun v P2 h => by obtain ⟨h1, rfl⟩ := h; cases h1; exact k) (fun q P2 h => by cases h.1)
theorem sL_law_757_r {a0 : Nat} {a1 : Int32} {a2 : Int32} {a3 : Int32} {a4 : Nat} {r : Int32} {Rp : xH → Prop} (hst : (st.map fun v => v.category).sum ≤ 8) (hC : xC w d mL_order [.ref a0, .int a1, .int a2, .int a3, .ref a4] P (xRl (some (.int r)) Rp)) (k : ∀ P1, Rp P1 → X w mL_law (d + 1) Q 760 ls (.int r :: st) P1) : X w mL_law (d + 1) Q 757 ls (.ref a4 :: .int a3 :: .int a2 :: .int a1 :: .ref a0 :: st) P := X_callS (M := mL_law) (MC := mL_order) (As := [.ref a0, .int a1, .int a2, .int a3, .ref a4]) (dL_law_757) calL_order xw_667 xw_668 rfl hC hst (fun v P2 h => by obtain ⟨h1, hR⟩ := h; cases h1; exact k P2 hR) (fun q P2 h => by cases h.1)
theorem sL_law_757_t {a0 : Nat} {a1 : Int32} {a2 : Int32} {a3 : Int32} {a4 : Nat} {q : Nat} {P1 : xH} (hst : (st.map fun v => v.category).sum ≤ 8) (hC : xC w d mL_order [.ref a0, .int a1, .int a2, .int a3, .ref a4] P (xThr q P1)) (hq : Q (.threw q) P1) : X w mL_law (d + 1) Q 757 ls (.ref a4 :: .int a3 :: .int a2 :: .int a1 :: .ref a0 :: st) P := X_callS (M := mL_law) (MC := mL_order) (As := [.ref a0, .int a1, .int a2, .int a3, .ref a4]) (dL_law_757) calL_order xw_667 xw_668 rfl hC hst (fun v P2 h => by cases h.1) (fun q2 P2 h => by obtain ⟨h1, rfl⟩ := h; cases h1; exact Xt_out rfl hq)
theorem dL_law_760 : decode cL_law 760 = .ok (.istore 5, 2) := by decide +kernel
theorem sL_law_760 {l0 l1 l2 l3 l4 l5 l6 l7 : Option Value} {x : Int32} (hn : xnl l4 = true) (k : X w mL_law d Q 762 [l0, l1, l2, l3, l4, some (.int x), l6, l7] st P) : X w mL_law d Q 760 [l0, l1, l2, l3, l4, l5, l6, l7] (.int x :: st) P := X_istore (M := mL_law) (dL_law_760) (by decide) rfl (xnl_p (ls := [l0, l1, l2, l3, l4, l5, l6, l7]) (j := 4) rfl hn) k
theorem dL_law_762 : decode cL_law 762 = .ok (.aload_n 2, 1) := by decide +kernel
theorem sL_law_762 {l0 l1 l3 l4 l5 l6 l7 : Option Value} {x : Nat} (k : X w mL_law d Q 763 [l0, l1, some (.ref x), l3, l4, l5, l6, l7] (.ref x :: st) P) : X w mL_law d Q 762 [l0, l1, some (.ref x), l3, l4, l5, l6, l7] st P := X_aload_n (M := mL_law) (dL_law_762) rfl rfl k
theorem dL_law_763 : decode cL_law 763 = .ok (.aload_n 0, 1) := by decide +kernel
theorem sL_law_763 {l1 l2 l3 l4 l5 l6 l7 : Option Value} {x : Nat} (k : X w mL_law d Q 764 [some (.ref x), l1, l2, l3, l4, l5, l6, l7] (.ref x :: st) P) : X w mL_law d Q 763 [some (.ref x), l1, l2, l3, l4, l5, l6, l7] st P := X_aload_n (M := mL_law) (dL_law_763) rfl rfl k
theorem dL_law_764 : decode cL_law 764 = .ok (.iload 4, 2) := by decide +kernel
theorem sL_law_764 {l0 l1 l2 l3 l5 l6 l7 : Option Value} {x : Int32} (k : X w mL_law d Q 766 [l0, l1, l2, l3, some (.int x), l5, l6, l7] (.int x :: st) P) : X w mL_law d Q 764 [l0, l1, l2, l3, some (.int x), l5, l6, l7] st P := X_iload (M := mL_law) (dL_law_764) rfl k
theorem dL_law_766 : decode cL_law 766 = .ok (.iconst 1, 1) := by decide +kernel
theorem sL_law_766 (k : X w mL_law d Q 767 ls (.int (1 : Int32) :: st) P) : X w mL_law d Q 766 ls st P := X_iconst (M := mL_law) (dL_law_766) (by decide) k
theorem dL_law_767 : decode cL_law 767 = .ok (.iadd, 1) := by decide +kernel
theorem sL_law_767 {x y : Int32} (k : X w mL_law d Q 768 ls (.int (x + y) :: st) P) : X w mL_law d Q 767 ls (.int y :: .int x :: st) P := X_iadd (M := mL_law) (dL_law_767) k
theorem dL_law_768 : decode cL_law 768 = .ok (.iaload, 1) := by decide +kernel
theorem sL_law_768 {a n : Nat} {f : Nat → Int32} {i : Int32} (hP : P.1 a = some (xA 0 n f)) (hi : vp_in i n) (k : X w mL_law d Q 769 ls (.int (f i.toNatClampNeg) :: st) P) : X w mL_law d Q 768 ls (.int i :: .ref a :: st) P := X_iald (M := mL_law) (dL_law_768) hP hi k
theorem dL_law_769 : decode cL_law 769 = .ok (.aload_n 0, 1) := by decide +kernel
theorem sL_law_769 {l1 l2 l3 l4 l5 l6 l7 : Option Value} {x : Nat} (k : X w mL_law d Q 770 [some (.ref x), l1, l2, l3, l4, l5, l6, l7] (.ref x :: st) P) : X w mL_law d Q 769 [some (.ref x), l1, l2, l3, l4, l5, l6, l7] st P := X_aload_n (M := mL_law) (dL_law_769) rfl rfl k
theorem dL_law_770 : decode cL_law 770 = .ok (.iload 4, 2) := by decide +kernel
theorem sL_law_770 {l0 l1 l2 l3 l5 l6 l7 : Option Value} {x : Int32} (k : X w mL_law d Q 772 [l0, l1, l2, l3, some (.int x), l5, l6, l7] (.int x :: st) P) : X w mL_law d Q 770 [l0, l1, l2, l3, some (.int x), l5, l6, l7] st P := X_iload (M := mL_law) (dL_law_770) rfl k
theorem dL_law_772 : decode cL_law 772 = .ok (.iconst 2, 1) := by decide +kernel
theorem sL_law_772 (k : X w mL_law d Q 773 ls (.int (2 : Int32) :: st) P) : X w mL_law d Q 772 ls st P := X_iconst (M := mL_law) (dL_law_772) (by decide) k
theorem dL_law_773 : decode cL_law 773 = .ok (.iadd, 1) := by decide +kernel
theorem sL_law_773 {x y : Int32} (k : X w mL_law d Q 774 ls (.int (x + y) :: st) P) : X w mL_law d Q 773 ls (.int y :: .int x :: st) P := X_iadd (M := mL_law) (dL_law_773) k
theorem dL_law_774 : decode cL_law 774 = .ok (.iaload, 1) := by decide +kernel
theorem sL_law_774 {a n : Nat} {f : Nat → Int32} {i : Int32} (hP : P.1 a = some (xA 0 n f)) (hi : vp_in i n) (k : X w mL_law d Q 775 ls (.int (f i.toNatClampNeg) :: st) P) : X w mL_law d Q 774 ls (.int i :: .ref a :: st) P := X_iald (M := mL_law) (dL_law_774) hP hi k
theorem dL_law_775 : decode cL_law 775 = .ok (.aload_n 0, 1) := by decide +kernel
theorem sL_law_775 {l1 l2 l3 l4 l5 l6 l7 : Option Value} {x : Nat} (k : X w mL_law d Q 776 [some (.ref x), l1, l2, l3, l4, l5, l6, l7] (.ref x :: st) P) : X w mL_law d Q 775 [some (.ref x), l1, l2, l3, l4, l5, l6, l7] st P := X_aload_n (M := mL_law) (dL_law_775) rfl rfl k
theorem dL_law_776 : decode cL_law 776 = .ok (.iload 4, 2) := by decide +kernel
theorem sL_law_776 {l0 l1 l2 l3 l5 l6 l7 : Option Value} {x : Int32} (k : X w mL_law d Q 778 [l0, l1, l2, l3, some (.int x), l5, l6, l7] (.int x :: st) P) : X w mL_law d Q 776 [l0, l1, l2, l3, some (.int x), l5, l6, l7] st P := X_iload (M := mL_law) (dL_law_776) rfl k
theorem dL_law_778 : decode cL_law 778 = .ok (.iconst 3, 1) := by decide +kernel
theorem sL_law_778 (k : X w mL_law d Q 779 ls (.int (3 : Int32) :: st) P) : X w mL_law d Q 778 ls st P := X_iconst (M := mL_law) (dL_law_778) (by decide) k
theorem dL_law_779 : decode cL_law 779 = .ok (.iadd, 1) := by decide +kernel
theorem sL_law_779 {x y : Int32} (k : X w mL_law d Q 780 ls (.int (x + y) :: st) P) : X w mL_law d Q 779 ls (.int y :: .int x :: st) P := X_iadd (M := mL_law) (dL_law_779) k
theorem dL_law_780 : decode cL_law 780 = .ok (.iaload, 1) := by decide +kernel
theorem sL_law_780 {a n : Nat} {f : Nat → Int32} {i : Int32} (hP : P.1 a = some (xA 0 n f)) (hi : vp_in i n) (k : X w mL_law d Q 781 ls (.int (f i.toNatClampNeg) :: st) P) : X w mL_law d Q 780 ls (.int i :: .ref a :: st) P := X_iald (M := mL_law) (dL_law_780) hP hi k
theorem dL_law_781 : decode cL_law 781 = .ok (.invokevirtual 104, 3) := by decide +kernel
theorem sL_law_781_g {b : Nat} {fs : List Value} {a0 : Int32} {a1 : Int32} {a2 : Int32} {Qc : Outcome → xH → Prop} (hst : (st.map fun v => v.category).sum ≤ 8) (hP : P.1 b = some (xO 9 fs)) (hC : xC w d mX11_order [.ref b, .int a0, .int a1, .int a2] P Qc) (kr : ∀ v P1, Qc (.returned v) P1 → X w mL_law (d + 1) Q 784 ls (v.toList ++ st) P1) (kt : ∀ q P1, Qc (.threw q) P1 → Xt w mL_law (d + 1) Q 781 ls st P1 q) : X w mL_law (d + 1) Q 781 ls (.int a2 :: .int a1 :: .int a0 :: .ref b :: st) P := X_callV (M := mL_law) (MC := mX11_order) (As := [.int a0, .int a1, .int a2]) (T := TX11) (dL_law_781) calX11_order xw_669 xw_670 xw_671 rfl rfl hP hC hst kr kt
theorem sL_law_781 {b : Nat} {fs : List Value} {a0 : Int32} {a1 : Int32} {a2 : Int32} {r : Int32} {P1 : xH} (hst : (st.map fun v => v.category).sum ≤ 8) (hP : P.1 b = some (xO 9 fs)) (hC : xC w d mX11_order [.ref b, .int a0, .int a1, .int a2] P (xRet (some (.int r)) P1)) (k : X w mL_law (d + 1) Q 784 ls (.int r :: st) P1) : X w mL_law (d + 1) Q 781 ls (.int a2 :: .int a1 :: .int a0 :: .ref b :: st) P := X_callV (M := mL_law) (MC := mX11_order) (As := [.int a0, .int a1, .int a2]) (T := TX11) (dL_law_781) calX11_order xw_669 xw_670 xw_671 rfl rfl hP hC hst (fun v P2 h => by obtain ⟨h1, rfl⟩ := h; cases h1; exact k) (fun q P2 h => by cases h.1)
theorem sL_law_781_r {b : Nat} {fs : List Value} {a0 : Int32} {a1 : Int32} {a2 : Int32} {r : Int32} {Rp : xH → Prop} (hst : (st.map fun v => v.category).sum ≤ 8) (hP : P.1 b = some (xO 9 fs)) (hC : xC w d mX11_order [.ref b, .int a0, .int a1, .int a2] P (xRl (some (.int r)) Rp)) (k : ∀ P1, Rp P1 → X w mL_law (d + 1) Q 784 ls (.int r :: st) P1) : X w mL_law (d + 1) Q 781 ls (.int a2 :: .int a1 :: .int a0 :: .ref b :: st) P := X_callV (M := mL_law) (MC := mX11_order) (As := [.int a0, .int a1, .int a2]) (T := TX11) (dL_law_781) calX11_order xw_669 xw_670 xw_671 rfl rfl hP hC hst (fun v P2 h => by obtain ⟨h1, hR⟩ := h; cases h1; exact k P2 hR) (fun q P2 h => by cases h.1)
theorem sL_law_781_t {b : Nat} {fs : List Value} {a0 : Int32} {a1 : Int32} {a2 : Int32} {q : Nat} {P1 : xH} (hst : (st.map fun v => v.category).sum ≤ 8) (hP : P.1 b = some (xO 9 fs)) (hC : xC w d mX11_order [.ref b, .int a0, .int a1, .int a2] P (xThr q P1)) (hq : Q (.threw q) P1) : X w mL_law (d + 1) Q 781 ls (.int a2 :: .int a1 :: .int a0 :: .ref b :: st) P := X_callV (M := mL_law) (MC := mX11_order) (As := [.int a0, .int a1, .int a2]) (T := TX11) (dL_law_781) calX11_order xw_669 xw_670 xw_671 rfl rfl hP hC hst (fun v P2 h => by cases h.1) (fun q2 P2 h => by obtain ⟨h1, rfl⟩ := h; cases h1; exact Xt_out rfl hq)
theorem dL_law_784 : decode cL_law 784 = .ok (.istore 6, 2) := by decide +kernel
theorem sL_law_784 {l0 l1 l2 l3 l4 l5 l6 l7 : Option Value} {x : Int32} (hn : xnl l5 = true) (k : X w mL_law d Q 786 [l0, l1, l2, l3, l4, l5, some (.int x), l7] st P) : X w mL_law d Q 784 [l0, l1, l2, l3, l4, l5, l6, l7] (.int x :: st) P := X_istore (M := mL_law) (dL_law_784) (by decide) rfl (xnl_p (ls := [l0, l1, l2, l3, l4, l5, l6, l7]) (j := 5) rfl hn) k
theorem dL_law_786 : decode cL_law 786 = .ok (.aload_n 2, 1) := by decide +kernel
theorem sL_law_786 {l0 l1 l3 l4 l5 l6 l7 : Option Value} {x : Nat} (k : X w mL_law d Q 787 [l0, l1, some (.ref x), l3, l4, l5, l6, l7] (.ref x :: st) P) : X w mL_law d Q 786 [l0, l1, some (.ref x), l3, l4, l5, l6, l7] st P := X_aload_n (M := mL_law) (dL_law_786) rfl rfl k
theorem dL_law_787 : decode cL_law 787 = .ok (.invokevirtual 79, 3) := by decide +kernel
theorem sL_law_787_g {b : Nat} {fs : List Value}  {Qc : Outcome → xH → Prop} (hst : (st.map fun v => v.category).sum ≤ 8) (hP : P.1 b = some (xO 9 fs)) (hC : xC w d mX11_thrown [.ref b] P Qc) (kr : ∀ v P1, Qc (.returned v) P1 → X w mL_law (d + 1) Q 790 ls (v.toList ++ st) P1) (kt : ∀ q P1, Qc (.threw q) P1 → Xt w mL_law (d + 1) Q 787 ls st P1 q) : X w mL_law (d + 1) Q 787 ls (.ref b :: st) P := X_callV (M := mL_law) (MC := mX11_thrown) (As := []) (T := TX11) (dL_law_787) calX11_thrown xw_634 xw_635 xw_636 rfl rfl hP hC hst kr kt
theorem sL_law_787 {b : Nat} {fs : List Value}  {r : Int32} {P1 : xH} (hst : (st.map fun v => v.category).sum ≤ 8) (hP : P.1 b = some (xO 9 fs)) (hC : xC w d mX11_thrown [.ref b] P (xRet (some (.int r)) P1)) (k : X w mL_law (d + 1) Q 790 ls (.int r :: st) P1) : X w mL_law (d + 1) Q 787 ls (.ref b :: st) P := X_callV (M := mL_law) (MC := mX11_thrown) (As := []) (T := TX11) (dL_law_787) calX11_thrown xw_634 xw_635 xw_636 rfl rfl hP hC hst (fun v P2 h => by obtain ⟨h1, rfl⟩ := h; cases h1; exact k) (fun q P2 h => by cases h.1)
theorem sL_law_787_r {b : Nat} {fs : List Value}  {r : Int32} {Rp : xH → Prop} (hst : (st.map fun v => v.category).sum ≤ 8) (hP : P.1 b = some (xO 9 fs)) (hC : xC w d mX11_thrown [.ref b] P (xRl (some (.int r)) Rp)) (k : ∀ P1, Rp P1 → X w mL_law (d + 1) Q 790 ls (.int r :: st) P1) : X w mL_law (d + 1) Q 787 ls (.ref b :: st) P := X_callV (M := mL_law) (MC := mX11_thrown) (As := []) (T := TX11) (dL_law_787) calX11_thrown xw_634 xw_635 xw_636 rfl rfl hP hC hst (fun v P2 h => by obtain ⟨h1, hR⟩ := h; cases h1; exact k P2 hR) (fun q P2 h => by cases h.1)
theorem sL_law_787_t {b : Nat} {fs : List Value}  {q : Nat} {P1 : xH} (hst : (st.map fun v => v.category).sum ≤ 8) (hP : P.1 b = some (xO 9 fs)) (hC : xC w d mX11_thrown [.ref b] P (xThr q P1)) (hq : Q (.threw q) P1) : X w mL_law (d + 1) Q 787 ls (.ref b :: st) P := X_callV (M := mL_law) (MC := mX11_thrown) (As := []) (T := TX11) (dL_law_787) calX11_thrown xw_634 xw_635 xw_636 rfl rfl hP hC hst (fun v P2 h => by cases h.1) (fun q2 P2 h => by obtain ⟨h1, rfl⟩ := h; cases h1; exact Xt_out rfl hq)
theorem dL_law_790 : decode cL_law 790 = .ok (.iload 5, 2) := by decide +kernel
theorem sL_law_790 {l0 l1 l2 l3 l4 l6 l7 : Option Value} {x : Int32} (k : X w mL_law d Q 792 [l0, l1, l2, l3, l4, some (.int x), l6, l7] (.int x :: st) P) : X w mL_law d Q 790 [l0, l1, l2, l3, l4, some (.int x), l6, l7] st P := X_iload (M := mL_law) (dL_law_790) rfl k
theorem dL_law_792 : decode cL_law 792 = .ok (.if_icmp .eq 5, 3) := by decide +kernel
theorem sL_law_792 {x y : Int32} (kt : x = y → X w mL_law d Q 797 ls st P) (kf : ¬ x = y → X w mL_law d Q 795 ls st P) : X w mL_law d Q 792 ls (.int y :: .int x :: st) P := X_icmp_eq (M := mL_law) (dL_law_792) (by decide) kt kf
theorem dL_law_795 : decode cL_law 795 = .ok (.iconst 0, 1) := by decide +kernel
theorem sL_law_795 (k : X w mL_law d Q 796 ls (.int (0 : Int32) :: st) P) : X w mL_law d Q 795 ls st P := X_iconst (M := mL_law) (dL_law_795) (by decide) k
theorem dL_law_796 : decode cL_law 796 = .ok (.ireturn, 1) := by decide +kernel
theorem sL_law_796 {v : Int32} (hb : v = 0 ∨ v = 1) (hq : Q (.returned (some (.int v))) P) : X w mL_law d Q 796 ls [.int v] P := X_zret (M := mL_law) (ty := .boolean) (dL_law_796) rfl (xz_n hb) hq
theorem dL_law_797 : decode cL_law 797 = .ok (.iload 5, 2) := by decide +kernel
theorem sL_law_797 {l0 l1 l2 l3 l4 l6 l7 : Option Value} {x : Int32} (k : X w mL_law d Q 799 [l0, l1, l2, l3, l4, some (.int x), l6, l7] (.int x :: st) P) : X w mL_law d Q 797 [l0, l1, l2, l3, l4, some (.int x), l6, l7] st P := X_iload (M := mL_law) (dL_law_797) rfl k
theorem dL_law_799 : decode cL_law 799 = .ok (.ifCond .ne 15, 3) := by decide +kernel
theorem sL_law_799 {x : Int32} (kt : ¬ x = 0 → X w mL_law d Q 814 ls st P) (kf : x = 0 → X w mL_law d Q 802 ls st P) : X w mL_law d Q 799 ls (.int x :: st) P := X_if_ne (M := mL_law) (dL_law_799) (by decide) kt kf
theorem dL_law_802 : decode cL_law 802 = .ok (.aload_n 3, 1) := by decide +kernel
theorem sL_law_802 {l0 l1 l2 l4 l5 l6 l7 : Option Value} {x : Nat} (k : X w mL_law d Q 803 [l0, l1, l2, some (.ref x), l4, l5, l6, l7] (.ref x :: st) P) : X w mL_law d Q 802 [l0, l1, l2, some (.ref x), l4, l5, l6, l7] st P := X_aload_n (M := mL_law) (dL_law_802) rfl rfl k
theorem dL_law_803 : decode cL_law 803 = .ok (.iconst 0, 1) := by decide +kernel
theorem sL_law_803 (k : X w mL_law d Q 804 ls (.int (0 : Int32) :: st) P) : X w mL_law d Q 803 ls st P := X_iconst (M := mL_law) (dL_law_803) (by decide) k
theorem dL_law_804 : decode cL_law 804 = .ok (.laload, 1) := by decide +kernel
theorem sL_law_804 {a n : Nat} {f : Nat → Int64} {i : Int32} (hP : P.1 a = some (xJ n f)) (hi : vp_in i n) (k : X w mL_law d Q 805 ls (.long (f i.toNatClampNeg) :: st) P) : X w mL_law d Q 804 ls (.int i :: .ref a :: st) P := X_lald (M := mL_law) (dL_law_804) hP hi k
theorem dL_law_805 : decode cL_law 805 = .ok (.iload 6, 2) := by decide +kernel
theorem sL_law_805 {l0 l1 l2 l3 l4 l5 l7 : Option Value} {x : Int32} (k : X w mL_law d Q 807 [l0, l1, l2, l3, l4, l5, some (.int x), l7] (.int x :: st) P) : X w mL_law d Q 805 [l0, l1, l2, l3, l4, l5, some (.int x), l7] st P := X_iload (M := mL_law) (dL_law_805) rfl k
theorem dL_law_807 : decode cL_law 807 = .ok (.i2l, 1) := by decide +kernel
theorem sL_law_807 {x : Int32} (k : X w mL_law d Q 808 ls (.long x.toInt64 :: st) P) : X w mL_law d Q 807 ls (.int x :: st) P := X_i2l (M := mL_law) (dL_law_807) k
theorem dL_law_808 : decode cL_law 808 = .ok (.lcmp, 1) := by decide +kernel
theorem sL_law_808 {x y : Int64} (k : X w mL_law d Q 809 ls (.int (lg_cmp x y) :: st) P) : X w mL_law d Q 808 ls (.long y :: .long x :: st) P := X_lcmp (M := mL_law) (dL_law_808) k
theorem dL_law_809 : decode cL_law 809 = .ok (.ifCond .eq 5, 3) := by decide +kernel
theorem sL_law_809 {x : Int32} (kt : x = 0 → X w mL_law d Q 814 ls st P) (kf : ¬ x = 0 → X w mL_law d Q 812 ls st P) : X w mL_law d Q 809 ls (.int x :: st) P := X_if_eq (M := mL_law) (dL_law_809) (by decide) kt kf
theorem dL_law_812 : decode cL_law 812 = .ok (.iconst 0, 1) := by decide +kernel
theorem sL_law_812 (k : X w mL_law d Q 813 ls (.int (0 : Int32) :: st) P) : X w mL_law d Q 812 ls st P := X_iconst (M := mL_law) (dL_law_812) (by decide) k
theorem dL_law_813 : decode cL_law 813 = .ok (.ireturn, 1) := by decide +kernel
theorem sL_law_813 {v : Int32} (hb : v = 0 ∨ v = 1) (hq : Q (.returned (some (.int v))) P) : X w mL_law d Q 813 ls [.int v] P := X_zret (M := mL_law) (ty := .boolean) (dL_law_813) rfl (xz_n hb) hq
theorem dL_law_814 : decode cL_law 814 = .ok (.goto 275, 3) := by decide +kernel
theorem sL_law_814 (k : X w mL_law d Q 1089 ls st P) : X w mL_law d Q 814 ls st P := X_goto (M := mL_law) (dL_law_814) (by decide) k
theorem dL_law_817 : decode cL_law 817 = .ok (.aload_n 1, 1) := by decide +kernel
theorem sL_law_817 {l0 l2 l3 l4 l5 l6 l7 : Option Value} {x : Nat} (k : X w mL_law d Q 818 [l0, some (.ref x), l2, l3, l4, l5, l6, l7] (.ref x :: st) P) : X w mL_law d Q 817 [l0, some (.ref x), l2, l3, l4, l5, l6, l7] st P := X_aload_n (M := mL_law) (dL_law_817) rfl rfl k
theorem dL_law_818 : decode cL_law 818 = .ok (.aload_n 0, 1) := by decide +kernel
theorem sL_law_818 {l1 l2 l3 l4 l5 l6 l7 : Option Value} {x : Nat} (k : X w mL_law d Q 819 [some (.ref x), l1, l2, l3, l4, l5, l6, l7] (.ref x :: st) P) : X w mL_law d Q 818 [some (.ref x), l1, l2, l3, l4, l5, l6, l7] st P := X_aload_n (M := mL_law) (dL_law_818) rfl rfl k
theorem dL_law_819 : decode cL_law 819 = .ok (.iload 4, 2) := by decide +kernel
theorem sL_law_819 {l0 l1 l2 l3 l5 l6 l7 : Option Value} {x : Int32} (k : X w mL_law d Q 821 [l0, l1, l2, l3, some (.int x), l5, l6, l7] (.int x :: st) P) : X w mL_law d Q 819 [l0, l1, l2, l3, some (.int x), l5, l6, l7] st P := X_iload (M := mL_law) (dL_law_819) rfl k
theorem dL_law_821 : decode cL_law 821 = .ok (.iconst 1, 1) := by decide +kernel
theorem sL_law_821 (k : X w mL_law d Q 822 ls (.int (1 : Int32) :: st) P) : X w mL_law d Q 821 ls st P := X_iconst (M := mL_law) (dL_law_821) (by decide) k
theorem dL_law_822 : decode cL_law 822 = .ok (.iadd, 1) := by decide +kernel
theorem sL_law_822 {x y : Int32} (k : X w mL_law d Q 823 ls (.int (x + y) :: st) P) : X w mL_law d Q 822 ls (.int y :: .int x :: st) P := X_iadd (M := mL_law) (dL_law_822) k
theorem dL_law_823 : decode cL_law 823 = .ok (.iaload, 1) := by decide +kernel
theorem sL_law_823 {a n : Nat} {f : Nat → Int32} {i : Int32} (hP : P.1 a = some (xA 0 n f)) (hi : vp_in i n) (k : X w mL_law d Q 824 ls (.int (f i.toNatClampNeg) :: st) P) : X w mL_law d Q 823 ls (.int i :: .ref a :: st) P := X_iald (M := mL_law) (dL_law_823) hP hi k
theorem dL_law_824 : decode cL_law 824 = .ok (.aload_n 0, 1) := by decide +kernel
theorem sL_law_824 {l1 l2 l3 l4 l5 l6 l7 : Option Value} {x : Nat} (k : X w mL_law d Q 825 [some (.ref x), l1, l2, l3, l4, l5, l6, l7] (.ref x :: st) P) : X w mL_law d Q 824 [some (.ref x), l1, l2, l3, l4, l5, l6, l7] st P := X_aload_n (M := mL_law) (dL_law_824) rfl rfl k
theorem dL_law_825 : decode cL_law 825 = .ok (.iload 4, 2) := by decide +kernel
theorem sL_law_825 {l0 l1 l2 l3 l5 l6 l7 : Option Value} {x : Int32} (k : X w mL_law d Q 827 [l0, l1, l2, l3, some (.int x), l5, l6, l7] (.int x :: st) P) : X w mL_law d Q 825 [l0, l1, l2, l3, some (.int x), l5, l6, l7] st P := X_iload (M := mL_law) (dL_law_825) rfl k
theorem dL_law_827 : decode cL_law 827 = .ok (.iconst 2, 1) := by decide +kernel
theorem sL_law_827 (k : X w mL_law d Q 828 ls (.int (2 : Int32) :: st) P) : X w mL_law d Q 827 ls st P := X_iconst (M := mL_law) (dL_law_827) (by decide) k
theorem dL_law_828 : decode cL_law 828 = .ok (.iadd, 1) := by decide +kernel
theorem sL_law_828 {x y : Int32} (k : X w mL_law d Q 829 ls (.int (x + y) :: st) P) : X w mL_law d Q 828 ls (.int y :: .int x :: st) P := X_iadd (M := mL_law) (dL_law_828) k
theorem dL_law_829 : decode cL_law 829 = .ok (.iaload, 1) := by decide +kernel
theorem sL_law_829 {a n : Nat} {f : Nat → Int32} {i : Int32} (hP : P.1 a = some (xA 0 n f)) (hi : vp_in i n) (k : X w mL_law d Q 830 ls (.int (f i.toNatClampNeg) :: st) P) : X w mL_law d Q 829 ls (.int i :: .ref a :: st) P := X_iald (M := mL_law) (dL_law_829) hP hi k
theorem dL_law_830 : decode cL_law 830 = .ok (.aload_n 3, 1) := by decide +kernel
theorem sL_law_830 {l0 l1 l2 l4 l5 l6 l7 : Option Value} {x : Nat} (k : X w mL_law d Q 831 [l0, l1, l2, some (.ref x), l4, l5, l6, l7] (.ref x :: st) P) : X w mL_law d Q 830 [l0, l1, l2, some (.ref x), l4, l5, l6, l7] st P := X_aload_n (M := mL_law) (dL_law_830) rfl rfl k
theorem dL_law_831 : decode cL_law 831 = .ok (.invokestatic 105, 3) := by decide +kernel
theorem sL_law_831_g {a0 : Nat} {a1 : Int32} {a2 : Int32} {a3 : Nat} {Qc : Outcome → xH → Prop} (hst : (st.map fun v => v.category).sum ≤ 8) (hC : xC w d mL_family [.ref a0, .int a1, .int a2, .ref a3] P Qc) (kr : ∀ v P1, Qc (.returned v) P1 → X w mL_law (d + 1) Q 834 ls (v.toList ++ st) P1) (kt : ∀ q P1, Qc (.threw q) P1 → Xt w mL_law (d + 1) Q 831 ls st P1 q) : X w mL_law (d + 1) Q 831 ls (.ref a3 :: .int a2 :: .int a1 :: .ref a0 :: st) P := X_callS (M := mL_law) (MC := mL_family) (As := [.ref a0, .int a1, .int a2, .ref a3]) (dL_law_831) calL_family xw_672 xw_673 rfl hC hst kr kt
theorem sL_law_831 {a0 : Nat} {a1 : Int32} {a2 : Int32} {a3 : Nat} {r : Int32} {P1 : xH} (hst : (st.map fun v => v.category).sum ≤ 8) (hC : xC w d mL_family [.ref a0, .int a1, .int a2, .ref a3] P (xRet (some (.int r)) P1)) (k : X w mL_law (d + 1) Q 834 ls (.int r :: st) P1) : X w mL_law (d + 1) Q 831 ls (.ref a3 :: .int a2 :: .int a1 :: .ref a0 :: st) P := X_callS (M := mL_law) (MC := mL_family) (As := [.ref a0, .int a1, .int a2, .ref a3]) (dL_law_831) calL_family xw_672 xw_673 rfl hC hst (fun v P2 h => by obtain ⟨h1, rfl⟩ := h; cases h1; exact k) (fun q P2 h => by cases h.1)
theorem sL_law_831_r {a0 : Nat} {a1 : Int32} {a2 : Int32} {a3 : Nat} {r : Int32} {Rp : xH → Prop} (hst : (st.map fun v => v.category).sum ≤ 8) (hC : xC w d mL_family [.ref a0, .int a1, .int a2, .ref a3] P (xRl (some (.int r)) Rp)) (k : ∀ P1, Rp P1 → X w mL_law (d + 1) Q 834 ls (.int r :: st) P1) : X w mL_law (d + 1) Q 831 ls (.ref a3 :: .int a2 :: .int a1 :: .ref a0 :: st) P := X_callS (M := mL_law) (MC := mL_family) (As := [.ref a0, .int a1, .int a2, .ref a3]) (dL_law_831) calL_family xw_672 xw_673 rfl hC hst (fun v P2 h => by obtain ⟨h1, hR⟩ := h; cases h1; exact k P2 hR) (fun q P2 h => by cases h.1)
theorem sL_law_831_t {a0 : Nat} {a1 : Int32} {a2 : Int32} {a3 : Nat} {q : Nat} {P1 : xH} (hst : (st.map fun v => v.category).sum ≤ 8) (hC : xC w d mL_family [.ref a0, .int a1, .int a2, .ref a3] P (xThr q P1)) (hq : Q (.threw q) P1) : X w mL_law (d + 1) Q 831 ls (.ref a3 :: .int a2 :: .int a1 :: .ref a0 :: st) P := X_callS (M := mL_law) (MC := mL_family) (As := [.ref a0, .int a1, .int a2, .ref a3]) (dL_law_831) calL_family xw_672 xw_673 rfl hC hst (fun v P2 h => by cases h.1) (fun q2 P2 h => by obtain ⟨h1, rfl⟩ := h; cases h1; exact Xt_out rfl hq)
theorem dL_law_834 : decode cL_law 834 = .ok (.istore 5, 2) := by decide +kernel
theorem sL_law_834 {l0 l1 l2 l3 l4 l5 l6 l7 : Option Value} {x : Int32} (hn : xnl l4 = true) (k : X w mL_law d Q 836 [l0, l1, l2, l3, l4, some (.int x), l6, l7] st P) : X w mL_law d Q 834 [l0, l1, l2, l3, l4, l5, l6, l7] (.int x :: st) P := X_istore (M := mL_law) (dL_law_834) (by decide) rfl (xnl_p (ls := [l0, l1, l2, l3, l4, l5, l6, l7]) (j := 4) rfl hn) k
theorem dL_law_836 : decode cL_law 836 = .ok (.aload_n 2, 1) := by decide +kernel
theorem sL_law_836 {l0 l1 l3 l4 l5 l6 l7 : Option Value} {x : Nat} (k : X w mL_law d Q 837 [l0, l1, some (.ref x), l3, l4, l5, l6, l7] (.ref x :: st) P) : X w mL_law d Q 836 [l0, l1, some (.ref x), l3, l4, l5, l6, l7] st P := X_aload_n (M := mL_law) (dL_law_836) rfl rfl k
theorem dL_law_837 : decode cL_law 837 = .ok (.aload_n 0, 1) := by decide +kernel
theorem sL_law_837 {l1 l2 l3 l4 l5 l6 l7 : Option Value} {x : Nat} (k : X w mL_law d Q 838 [some (.ref x), l1, l2, l3, l4, l5, l6, l7] (.ref x :: st) P) : X w mL_law d Q 837 [some (.ref x), l1, l2, l3, l4, l5, l6, l7] st P := X_aload_n (M := mL_law) (dL_law_837) rfl rfl k
theorem dL_law_838 : decode cL_law 838 = .ok (.iload 4, 2) := by decide +kernel
theorem sL_law_838 {l0 l1 l2 l3 l5 l6 l7 : Option Value} {x : Int32} (k : X w mL_law d Q 840 [l0, l1, l2, l3, some (.int x), l5, l6, l7] (.int x :: st) P) : X w mL_law d Q 838 [l0, l1, l2, l3, some (.int x), l5, l6, l7] st P := X_iload (M := mL_law) (dL_law_838) rfl k
theorem dL_law_840 : decode cL_law 840 = .ok (.iconst 1, 1) := by decide +kernel
theorem sL_law_840 (k : X w mL_law d Q 841 ls (.int (1 : Int32) :: st) P) : X w mL_law d Q 840 ls st P := X_iconst (M := mL_law) (dL_law_840) (by decide) k
theorem dL_law_841 : decode cL_law 841 = .ok (.iadd, 1) := by decide +kernel
theorem sL_law_841 {x y : Int32} (k : X w mL_law d Q 842 ls (.int (x + y) :: st) P) : X w mL_law d Q 841 ls (.int y :: .int x :: st) P := X_iadd (M := mL_law) (dL_law_841) k
theorem dL_law_842 : decode cL_law 842 = .ok (.iaload, 1) := by decide +kernel
theorem sL_law_842 {a n : Nat} {f : Nat → Int32} {i : Int32} (hP : P.1 a = some (xA 0 n f)) (hi : vp_in i n) (k : X w mL_law d Q 843 ls (.int (f i.toNatClampNeg) :: st) P) : X w mL_law d Q 842 ls (.int i :: .ref a :: st) P := X_iald (M := mL_law) (dL_law_842) hP hi k
theorem dL_law_843 : decode cL_law 843 = .ok (.aload_n 0, 1) := by decide +kernel
theorem sL_law_843 {l1 l2 l3 l4 l5 l6 l7 : Option Value} {x : Nat} (k : X w mL_law d Q 844 [some (.ref x), l1, l2, l3, l4, l5, l6, l7] (.ref x :: st) P) : X w mL_law d Q 843 [some (.ref x), l1, l2, l3, l4, l5, l6, l7] st P := X_aload_n (M := mL_law) (dL_law_843) rfl rfl k
theorem dL_law_844 : decode cL_law 844 = .ok (.iload 4, 2) := by decide +kernel
theorem sL_law_844 {l0 l1 l2 l3 l5 l6 l7 : Option Value} {x : Int32} (k : X w mL_law d Q 846 [l0, l1, l2, l3, some (.int x), l5, l6, l7] (.int x :: st) P) : X w mL_law d Q 844 [l0, l1, l2, l3, some (.int x), l5, l6, l7] st P := X_iload (M := mL_law) (dL_law_844) rfl k
theorem dL_law_846 : decode cL_law 846 = .ok (.iconst 2, 1) := by decide +kernel
theorem sL_law_846 (k : X w mL_law d Q 847 ls (.int (2 : Int32) :: st) P) : X w mL_law d Q 846 ls st P := X_iconst (M := mL_law) (dL_law_846) (by decide) k
theorem dL_law_847 : decode cL_law 847 = .ok (.iadd, 1) := by decide +kernel
theorem sL_law_847 {x y : Int32} (k : X w mL_law d Q 848 ls (.int (x + y) :: st) P) : X w mL_law d Q 847 ls (.int y :: .int x :: st) P := X_iadd (M := mL_law) (dL_law_847) k
theorem dL_law_848 : decode cL_law 848 = .ok (.iaload, 1) := by decide +kernel
theorem sL_law_848 {a n : Nat} {f : Nat → Int32} {i : Int32} (hP : P.1 a = some (xA 0 n f)) (hi : vp_in i n) (k : X w mL_law d Q 849 ls (.int (f i.toNatClampNeg) :: st) P) : X w mL_law d Q 848 ls (.int i :: .ref a :: st) P := X_iald (M := mL_law) (dL_law_848) hP hi k
theorem dL_law_849 : decode cL_law 849 = .ok (.invokevirtual 107, 3) := by decide +kernel
theorem sL_law_849_g {b : Nat} {fs : List Value} {a0 : Int32} {a1 : Int32} {Qc : Outcome → xH → Prop} (hst : (st.map fun v => v.category).sum ≤ 8) (hP : P.1 b = some (xO 9 fs)) (hC : xC w d mX11_family [.ref b, .int a0, .int a1] P Qc) (kr : ∀ v P1, Qc (.returned v) P1 → X w mL_law (d + 1) Q 852 ls (v.toList ++ st) P1) (kt : ∀ q P1, Qc (.threw q) P1 → Xt w mL_law (d + 1) Q 849 ls st P1 q) : X w mL_law (d + 1) Q 849 ls (.int a1 :: .int a0 :: .ref b :: st) P := X_callV (M := mL_law) (MC := mX11_family) (As := [.int a0, .int a1]) (T := TX11) (dL_law_849) calX11_family xw_674 xw_675 xw_676 rfl rfl hP hC hst kr kt
theorem sL_law_849 {b : Nat} {fs : List Value} {a0 : Int32} {a1 : Int32} {r : Int32} {P1 : xH} (hst : (st.map fun v => v.category).sum ≤ 8) (hP : P.1 b = some (xO 9 fs)) (hC : xC w d mX11_family [.ref b, .int a0, .int a1] P (xRet (some (.int r)) P1)) (k : X w mL_law (d + 1) Q 852 ls (.int r :: st) P1) : X w mL_law (d + 1) Q 849 ls (.int a1 :: .int a0 :: .ref b :: st) P := X_callV (M := mL_law) (MC := mX11_family) (As := [.int a0, .int a1]) (T := TX11) (dL_law_849) calX11_family xw_674 xw_675 xw_676 rfl rfl hP hC hst (fun v P2 h => by obtain ⟨h1, rfl⟩ := h; cases h1; exact k) (fun q P2 h => by cases h.1)
theorem sL_law_849_r {b : Nat} {fs : List Value} {a0 : Int32} {a1 : Int32} {r : Int32} {Rp : xH → Prop} (hst : (st.map fun v => v.category).sum ≤ 8) (hP : P.1 b = some (xO 9 fs)) (hC : xC w d mX11_family [.ref b, .int a0, .int a1] P (xRl (some (.int r)) Rp)) (k : ∀ P1, Rp P1 → X w mL_law (d + 1) Q 852 ls (.int r :: st) P1) : X w mL_law (d + 1) Q 849 ls (.int a1 :: .int a0 :: .ref b :: st) P := X_callV (M := mL_law) (MC := mX11_family) (As := [.int a0, .int a1]) (T := TX11) (dL_law_849) calX11_family xw_674 xw_675 xw_676 rfl rfl hP hC hst (fun v P2 h => by obtain ⟨h1, hR⟩ := h; cases h1; exact k P2 hR) (fun q P2 h => by cases h.1)
theorem sL_law_849_t {b : Nat} {fs : List Value} {a0 : Int32} {a1 : Int32} {q : Nat} {P1 : xH} (hst : (st.map fun v => v.category).sum ≤ 8) (hP : P.1 b = some (xO 9 fs)) (hC : xC w d mX11_family [.ref b, .int a0, .int a1] P (xThr q P1)) (hq : Q (.threw q) P1) : X w mL_law (d + 1) Q 849 ls (.int a1 :: .int a0 :: .ref b :: st) P := X_callV (M := mL_law) (MC := mX11_family) (As := [.int a0, .int a1]) (T := TX11) (dL_law_849) calX11_family xw_674 xw_675 xw_676 rfl rfl hP hC hst (fun v P2 h => by cases h.1) (fun q2 P2 h => by obtain ⟨h1, rfl⟩ := h; cases h1; exact Xt_out rfl hq)
theorem dL_law_852 : decode cL_law 852 = .ok (.istore 6, 2) := by decide +kernel
theorem sL_law_852 {l0 l1 l2 l3 l4 l5 l6 l7 : Option Value} {x : Int32} (hn : xnl l5 = true) (k : X w mL_law d Q 854 [l0, l1, l2, l3, l4, l5, some (.int x), l7] st P) : X w mL_law d Q 852 [l0, l1, l2, l3, l4, l5, l6, l7] (.int x :: st) P := X_istore (M := mL_law) (dL_law_852) (by decide) rfl (xnl_p (ls := [l0, l1, l2, l3, l4, l5, l6, l7]) (j := 5) rfl hn) k
theorem dL_law_854 : decode cL_law 854 = .ok (.aload_n 2, 1) := by decide +kernel
theorem sL_law_854 {l0 l1 l3 l4 l5 l6 l7 : Option Value} {x : Nat} (k : X w mL_law d Q 855 [l0, l1, some (.ref x), l3, l4, l5, l6, l7] (.ref x :: st) P) : X w mL_law d Q 854 [l0, l1, some (.ref x), l3, l4, l5, l6, l7] st P := X_aload_n (M := mL_law) (dL_law_854) rfl rfl k
theorem dL_law_855 : decode cL_law 855 = .ok (.invokevirtual 79, 3) := by decide +kernel
theorem sL_law_855_g {b : Nat} {fs : List Value}  {Qc : Outcome → xH → Prop} (hst : (st.map fun v => v.category).sum ≤ 8) (hP : P.1 b = some (xO 9 fs)) (hC : xC w d mX11_thrown [.ref b] P Qc) (kr : ∀ v P1, Qc (.returned v) P1 → X w mL_law (d + 1) Q 858 ls (v.toList ++ st) P1) (kt : ∀ q P1, Qc (.threw q) P1 → Xt w mL_law (d + 1) Q 855 ls st P1 q) : X w mL_law (d + 1) Q 855 ls (.ref b :: st) P := X_callV (M := mL_law) (MC := mX11_thrown) (As := []) (T := TX11) (dL_law_855) calX11_thrown xw_634 xw_635 xw_636 rfl rfl hP hC hst kr kt
theorem sL_law_855 {b : Nat} {fs : List Value}  {r : Int32} {P1 : xH} (hst : (st.map fun v => v.category).sum ≤ 8) (hP : P.1 b = some (xO 9 fs)) (hC : xC w d mX11_thrown [.ref b] P (xRet (some (.int r)) P1)) (k : X w mL_law (d + 1) Q 858 ls (.int r :: st) P1) : X w mL_law (d + 1) Q 855 ls (.ref b :: st) P := X_callV (M := mL_law) (MC := mX11_thrown) (As := []) (T := TX11) (dL_law_855) calX11_thrown xw_634 xw_635 xw_636 rfl rfl hP hC hst (fun v P2 h => by obtain ⟨h1, rfl⟩ := h; cases h1; exact k) (fun q P2 h => by cases h.1)
theorem sL_law_855_r {b : Nat} {fs : List Value}  {r : Int32} {Rp : xH → Prop} (hst : (st.map fun v => v.category).sum ≤ 8) (hP : P.1 b = some (xO 9 fs)) (hC : xC w d mX11_thrown [.ref b] P (xRl (some (.int r)) Rp)) (k : ∀ P1, Rp P1 → X w mL_law (d + 1) Q 858 ls (.int r :: st) P1) : X w mL_law (d + 1) Q 855 ls (.ref b :: st) P := X_callV (M := mL_law) (MC := mX11_thrown) (As := []) (T := TX11) (dL_law_855) calX11_thrown xw_634 xw_635 xw_636 rfl rfl hP hC hst (fun v P2 h => by obtain ⟨h1, hR⟩ := h; cases h1; exact k P2 hR) (fun q P2 h => by cases h.1)
theorem sL_law_855_t {b : Nat} {fs : List Value}  {q : Nat} {P1 : xH} (hst : (st.map fun v => v.category).sum ≤ 8) (hP : P.1 b = some (xO 9 fs)) (hC : xC w d mX11_thrown [.ref b] P (xThr q P1)) (hq : Q (.threw q) P1) : X w mL_law (d + 1) Q 855 ls (.ref b :: st) P := X_callV (M := mL_law) (MC := mX11_thrown) (As := []) (T := TX11) (dL_law_855) calX11_thrown xw_634 xw_635 xw_636 rfl rfl hP hC hst (fun v P2 h => by cases h.1) (fun q2 P2 h => by obtain ⟨h1, rfl⟩ := h; cases h1; exact Xt_out rfl hq)
theorem dL_law_858 : decode cL_law 858 = .ok (.iload 5, 2) := by decide +kernel
theorem sL_law_858 {l0 l1 l2 l3 l4 l6 l7 : Option Value} {x : Int32} (k : X w mL_law d Q 860 [l0, l1, l2, l3, l4, some (.int x), l6, l7] (.int x :: st) P) : X w mL_law d Q 858 [l0, l1, l2, l3, l4, some (.int x), l6, l7] st P := X_iload (M := mL_law) (dL_law_858) rfl k
theorem dL_law_860 : decode cL_law 860 = .ok (.if_icmp .eq 5, 3) := by decide +kernel
theorem sL_law_860 {x y : Int32} (kt : x = y → X w mL_law d Q 865 ls st P) (kf : ¬ x = y → X w mL_law d Q 863 ls st P) : X w mL_law d Q 860 ls (.int y :: .int x :: st) P := X_icmp_eq (M := mL_law) (dL_law_860) (by decide) kt kf
theorem dL_law_863 : decode cL_law 863 = .ok (.iconst 0, 1) := by decide +kernel
theorem sL_law_863 (k : X w mL_law d Q 864 ls (.int (0 : Int32) :: st) P) : X w mL_law d Q 863 ls st P := X_iconst (M := mL_law) (dL_law_863) (by decide) k
theorem dL_law_864 : decode cL_law 864 = .ok (.ireturn, 1) := by decide +kernel
theorem sL_law_864 {v : Int32} (hb : v = 0 ∨ v = 1) (hq : Q (.returned (some (.int v))) P) : X w mL_law d Q 864 ls [.int v] P := X_zret (M := mL_law) (ty := .boolean) (dL_law_864) rfl (xz_n hb) hq
theorem dL_law_865 : decode cL_law 865 = .ok (.iload 5, 2) := by decide +kernel
theorem sL_law_865 {l0 l1 l2 l3 l4 l6 l7 : Option Value} {x : Int32} (k : X w mL_law d Q 867 [l0, l1, l2, l3, l4, some (.int x), l6, l7] (.int x :: st) P) : X w mL_law d Q 865 [l0, l1, l2, l3, l4, some (.int x), l6, l7] st P := X_iload (M := mL_law) (dL_law_865) rfl k
theorem dL_law_867 : decode cL_law 867 = .ok (.ifCond .ne 15, 3) := by decide +kernel
theorem sL_law_867 {x : Int32} (kt : ¬ x = 0 → X w mL_law d Q 882 ls st P) (kf : x = 0 → X w mL_law d Q 870 ls st P) : X w mL_law d Q 867 ls (.int x :: st) P := X_if_ne (M := mL_law) (dL_law_867) (by decide) kt kf
theorem dL_law_870 : decode cL_law 870 = .ok (.aload_n 3, 1) := by decide +kernel
theorem sL_law_870 {l0 l1 l2 l4 l5 l6 l7 : Option Value} {x : Nat} (k : X w mL_law d Q 871 [l0, l1, l2, some (.ref x), l4, l5, l6, l7] (.ref x :: st) P) : X w mL_law d Q 870 [l0, l1, l2, some (.ref x), l4, l5, l6, l7] st P := X_aload_n (M := mL_law) (dL_law_870) rfl rfl k
theorem dL_law_871 : decode cL_law 871 = .ok (.iconst 0, 1) := by decide +kernel
theorem sL_law_871 (k : X w mL_law d Q 872 ls (.int (0 : Int32) :: st) P) : X w mL_law d Q 871 ls st P := X_iconst (M := mL_law) (dL_law_871) (by decide) k
theorem dL_law_872 : decode cL_law 872 = .ok (.laload, 1) := by decide +kernel
theorem sL_law_872 {a n : Nat} {f : Nat → Int64} {i : Int32} (hP : P.1 a = some (xJ n f)) (hi : vp_in i n) (k : X w mL_law d Q 873 ls (.long (f i.toNatClampNeg) :: st) P) : X w mL_law d Q 872 ls (.int i :: .ref a :: st) P := X_lald (M := mL_law) (dL_law_872) hP hi k
theorem dL_law_873 : decode cL_law 873 = .ok (.iload 6, 2) := by decide +kernel
theorem sL_law_873 {l0 l1 l2 l3 l4 l5 l7 : Option Value} {x : Int32} (k : X w mL_law d Q 875 [l0, l1, l2, l3, l4, l5, some (.int x), l7] (.int x :: st) P) : X w mL_law d Q 873 [l0, l1, l2, l3, l4, l5, some (.int x), l7] st P := X_iload (M := mL_law) (dL_law_873) rfl k
theorem dL_law_875 : decode cL_law 875 = .ok (.i2l, 1) := by decide +kernel
theorem sL_law_875 {x : Int32} (k : X w mL_law d Q 876 ls (.long x.toInt64 :: st) P) : X w mL_law d Q 875 ls (.int x :: st) P := X_i2l (M := mL_law) (dL_law_875) k
theorem dL_law_876 : decode cL_law 876 = .ok (.lcmp, 1) := by decide +kernel
theorem sL_law_876 {x y : Int64} (k : X w mL_law d Q 877 ls (.int (lg_cmp x y) :: st) P) : X w mL_law d Q 876 ls (.long y :: .long x :: st) P := X_lcmp (M := mL_law) (dL_law_876) k
theorem dL_law_877 : decode cL_law 877 = .ok (.ifCond .eq 5, 3) := by decide +kernel
theorem sL_law_877 {x : Int32} (kt : x = 0 → X w mL_law d Q 882 ls st P) (kf : ¬ x = 0 → X w mL_law d Q 880 ls st P) : X w mL_law d Q 877 ls (.int x :: st) P := X_if_eq (M := mL_law) (dL_law_877) (by decide) kt kf
theorem dL_law_880 : decode cL_law 880 = .ok (.iconst 0, 1) := by decide +kernel
theorem sL_law_880 (k : X w mL_law d Q 881 ls (.int (0 : Int32) :: st) P) : X w mL_law d Q 880 ls st P := X_iconst (M := mL_law) (dL_law_880) (by decide) k
theorem dL_law_881 : decode cL_law 881 = .ok (.ireturn, 1) := by decide +kernel
theorem sL_law_881 {v : Int32} (hb : v = 0 ∨ v = 1) (hq : Q (.returned (some (.int v))) P) : X w mL_law d Q 881 ls [.int v] P := X_zret (M := mL_law) (ty := .boolean) (dL_law_881) rfl (xz_n hb) hq
theorem dL_law_882 : decode cL_law 882 = .ok (.goto 207, 3) := by decide +kernel
theorem sL_law_882 (k : X w mL_law d Q 1089 ls st P) : X w mL_law d Q 882 ls st P := X_goto (M := mL_law) (dL_law_882) (by decide) k
theorem dL_law_885 : decode cL_law 885 = .ok (.aload_n 1, 1) := by decide +kernel
theorem sL_law_885 {l0 l2 l3 l4 l5 l6 l7 : Option Value} {x : Nat} (k : X w mL_law d Q 886 [l0, some (.ref x), l2, l3, l4, l5, l6, l7] (.ref x :: st) P) : X w mL_law d Q 885 [l0, some (.ref x), l2, l3, l4, l5, l6, l7] st P := X_aload_n (M := mL_law) (dL_law_885) rfl rfl k
theorem dL_law_886 : decode cL_law 886 = .ok (.aload_n 0, 1) := by decide +kernel
theorem sL_law_886 {l1 l2 l3 l4 l5 l6 l7 : Option Value} {x : Nat} (k : X w mL_law d Q 887 [some (.ref x), l1, l2, l3, l4, l5, l6, l7] (.ref x :: st) P) : X w mL_law d Q 886 [some (.ref x), l1, l2, l3, l4, l5, l6, l7] st P := X_aload_n (M := mL_law) (dL_law_886) rfl rfl k
theorem dL_law_887 : decode cL_law 887 = .ok (.iload 4, 2) := by decide +kernel
theorem sL_law_887 {l0 l1 l2 l3 l5 l6 l7 : Option Value} {x : Int32} (k : X w mL_law d Q 889 [l0, l1, l2, l3, some (.int x), l5, l6, l7] (.int x :: st) P) : X w mL_law d Q 887 [l0, l1, l2, l3, some (.int x), l5, l6, l7] st P := X_iload (M := mL_law) (dL_law_887) rfl k
theorem dL_law_889 : decode cL_law 889 = .ok (.iconst 1, 1) := by decide +kernel
theorem sL_law_889 (k : X w mL_law d Q 890 ls (.int (1 : Int32) :: st) P) : X w mL_law d Q 889 ls st P := X_iconst (M := mL_law) (dL_law_889) (by decide) k
theorem dL_law_890 : decode cL_law 890 = .ok (.iadd, 1) := by decide +kernel
theorem sL_law_890 {x y : Int32} (k : X w mL_law d Q 891 ls (.int (x + y) :: st) P) : X w mL_law d Q 890 ls (.int y :: .int x :: st) P := X_iadd (M := mL_law) (dL_law_890) k
theorem dL_law_891 : decode cL_law 891 = .ok (.iaload, 1) := by decide +kernel
theorem sL_law_891 {a n : Nat} {f : Nat → Int32} {i : Int32} (hP : P.1 a = some (xA 0 n f)) (hi : vp_in i n) (k : X w mL_law d Q 892 ls (.int (f i.toNatClampNeg) :: st) P) : X w mL_law d Q 891 ls (.int i :: .ref a :: st) P := X_iald (M := mL_law) (dL_law_891) hP hi k
theorem dL_law_892 : decode cL_law 892 = .ok (.aload_n 0, 1) := by decide +kernel
theorem sL_law_892 {l1 l2 l3 l4 l5 l6 l7 : Option Value} {x : Nat} (k : X w mL_law d Q 893 [some (.ref x), l1, l2, l3, l4, l5, l6, l7] (.ref x :: st) P) : X w mL_law d Q 892 [some (.ref x), l1, l2, l3, l4, l5, l6, l7] st P := X_aload_n (M := mL_law) (dL_law_892) rfl rfl k
theorem dL_law_893 : decode cL_law 893 = .ok (.iload 4, 2) := by decide +kernel
theorem sL_law_893 {l0 l1 l2 l3 l5 l6 l7 : Option Value} {x : Int32} (k : X w mL_law d Q 895 [l0, l1, l2, l3, some (.int x), l5, l6, l7] (.int x :: st) P) : X w mL_law d Q 893 [l0, l1, l2, l3, some (.int x), l5, l6, l7] st P := X_iload (M := mL_law) (dL_law_893) rfl k
theorem dL_law_895 : decode cL_law 895 = .ok (.iconst 2, 1) := by decide +kernel
theorem sL_law_895 (k : X w mL_law d Q 896 ls (.int (2 : Int32) :: st) P) : X w mL_law d Q 895 ls st P := X_iconst (M := mL_law) (dL_law_895) (by decide) k
theorem dL_law_896 : decode cL_law 896 = .ok (.iadd, 1) := by decide +kernel
theorem sL_law_896 {x y : Int32} (k : X w mL_law d Q 897 ls (.int (x + y) :: st) P) : X w mL_law d Q 896 ls (.int y :: .int x :: st) P := X_iadd (M := mL_law) (dL_law_896) k
theorem dL_law_897 : decode cL_law 897 = .ok (.iaload, 1) := by decide +kernel
theorem sL_law_897 {a n : Nat} {f : Nat → Int32} {i : Int32} (hP : P.1 a = some (xA 0 n f)) (hi : vp_in i n) (k : X w mL_law d Q 898 ls (.int (f i.toNatClampNeg) :: st) P) : X w mL_law d Q 897 ls (.int i :: .ref a :: st) P := X_iald (M := mL_law) (dL_law_897) hP hi k
theorem dL_law_898 : decode cL_law 898 = .ok (.aload_n 3, 1) := by decide +kernel
theorem sL_law_898 {l0 l1 l2 l4 l5 l6 l7 : Option Value} {x : Nat} (k : X w mL_law d Q 899 [l0, l1, l2, some (.ref x), l4, l5, l6, l7] (.ref x :: st) P) : X w mL_law d Q 898 [l0, l1, l2, some (.ref x), l4, l5, l6, l7] st P := X_aload_n (M := mL_law) (dL_law_898) rfl rfl k
theorem dL_law_899 : decode cL_law 899 = .ok (.invokestatic 108, 3) := by decide +kernel
theorem sL_law_899_g {a0 : Nat} {a1 : Int32} {a2 : Int32} {a3 : Nat} {Qc : Outcome → xH → Prop} (hst : (st.map fun v => v.category).sum ≤ 8) (hC : xC w d mL_best [.ref a0, .int a1, .int a2, .ref a3] P Qc) (kr : ∀ v P1, Qc (.returned v) P1 → X w mL_law (d + 1) Q 902 ls (v.toList ++ st) P1) (kt : ∀ q P1, Qc (.threw q) P1 → Xt w mL_law (d + 1) Q 899 ls st P1 q) : X w mL_law (d + 1) Q 899 ls (.ref a3 :: .int a2 :: .int a1 :: .ref a0 :: st) P := X_callS (M := mL_law) (MC := mL_best) (As := [.ref a0, .int a1, .int a2, .ref a3]) (dL_law_899) calL_best xw_677 xw_678 rfl hC hst kr kt
theorem sL_law_899 {a0 : Nat} {a1 : Int32} {a2 : Int32} {a3 : Nat} {r : Int32} {P1 : xH} (hst : (st.map fun v => v.category).sum ≤ 8) (hC : xC w d mL_best [.ref a0, .int a1, .int a2, .ref a3] P (xRet (some (.int r)) P1)) (k : X w mL_law (d + 1) Q 902 ls (.int r :: st) P1) : X w mL_law (d + 1) Q 899 ls (.ref a3 :: .int a2 :: .int a1 :: .ref a0 :: st) P := X_callS (M := mL_law) (MC := mL_best) (As := [.ref a0, .int a1, .int a2, .ref a3]) (dL_law_899) calL_best xw_677 xw_678 rfl hC hst (fun v P2 h => by obtain ⟨h1, rfl⟩ := h; cases h1; exact k) (fun q P2 h => by cases h.1)
theorem sL_law_899_r {a0 : Nat} {a1 : Int32} {a2 : Int32} {a3 : Nat} {r : Int32} {Rp : xH → Prop} (hst : (st.map fun v => v.category).sum ≤ 8) (hC : xC w d mL_best [.ref a0, .int a1, .int a2, .ref a3] P (xRl (some (.int r)) Rp)) (k : ∀ P1, Rp P1 → X w mL_law (d + 1) Q 902 ls (.int r :: st) P1) : X w mL_law (d + 1) Q 899 ls (.ref a3 :: .int a2 :: .int a1 :: .ref a0 :: st) P := X_callS (M := mL_law) (MC := mL_best) (As := [.ref a0, .int a1, .int a2, .ref a3]) (dL_law_899) calL_best xw_677 xw_678 rfl hC hst (fun v P2 h => by obtain ⟨h1, hR⟩ := h; cases h1; exact k P2 hR) (fun q P2 h => by cases h.1)
theorem sL_law_899_t {a0 : Nat} {a1 : Int32} {a2 : Int32} {a3 : Nat} {q : Nat} {P1 : xH} (hst : (st.map fun v => v.category).sum ≤ 8) (hC : xC w d mL_best [.ref a0, .int a1, .int a2, .ref a3] P (xThr q P1)) (hq : Q (.threw q) P1) : X w mL_law (d + 1) Q 899 ls (.ref a3 :: .int a2 :: .int a1 :: .ref a0 :: st) P := X_callS (M := mL_law) (MC := mL_best) (As := [.ref a0, .int a1, .int a2, .ref a3]) (dL_law_899) calL_best xw_677 xw_678 rfl hC hst (fun v P2 h => by cases h.1) (fun q2 P2 h => by obtain ⟨h1, rfl⟩ := h; cases h1; exact Xt_out rfl hq)
theorem dL_law_902 : decode cL_law 902 = .ok (.istore 5, 2) := by decide +kernel
theorem sL_law_902 {l0 l1 l2 l3 l4 l5 l6 l7 : Option Value} {x : Int32} (hn : xnl l4 = true) (k : X w mL_law d Q 904 [l0, l1, l2, l3, l4, some (.int x), l6, l7] st P) : X w mL_law d Q 902 [l0, l1, l2, l3, l4, l5, l6, l7] (.int x :: st) P := X_istore (M := mL_law) (dL_law_902) (by decide) rfl (xnl_p (ls := [l0, l1, l2, l3, l4, l5, l6, l7]) (j := 4) rfl hn) k
theorem dL_law_904 : decode cL_law 904 = .ok (.aload_n 2, 1) := by decide +kernel
theorem sL_law_904 {l0 l1 l3 l4 l5 l6 l7 : Option Value} {x : Nat} (k : X w mL_law d Q 905 [l0, l1, some (.ref x), l3, l4, l5, l6, l7] (.ref x :: st) P) : X w mL_law d Q 904 [l0, l1, some (.ref x), l3, l4, l5, l6, l7] st P := X_aload_n (M := mL_law) (dL_law_904) rfl rfl k
theorem dL_law_905 : decode cL_law 905 = .ok (.aload_n 0, 1) := by decide +kernel
theorem sL_law_905 {l1 l2 l3 l4 l5 l6 l7 : Option Value} {x : Nat} (k : X w mL_law d Q 906 [some (.ref x), l1, l2, l3, l4, l5, l6, l7] (.ref x :: st) P) : X w mL_law d Q 905 [some (.ref x), l1, l2, l3, l4, l5, l6, l7] st P := X_aload_n (M := mL_law) (dL_law_905) rfl rfl k
theorem dL_law_906 : decode cL_law 906 = .ok (.iload 4, 2) := by decide +kernel
theorem sL_law_906 {l0 l1 l2 l3 l5 l6 l7 : Option Value} {x : Int32} (k : X w mL_law d Q 908 [l0, l1, l2, l3, some (.int x), l5, l6, l7] (.int x :: st) P) : X w mL_law d Q 906 [l0, l1, l2, l3, some (.int x), l5, l6, l7] st P := X_iload (M := mL_law) (dL_law_906) rfl k
theorem dL_law_908 : decode cL_law 908 = .ok (.iconst 1, 1) := by decide +kernel
theorem sL_law_908 (k : X w mL_law d Q 909 ls (.int (1 : Int32) :: st) P) : X w mL_law d Q 908 ls st P := X_iconst (M := mL_law) (dL_law_908) (by decide) k
theorem dL_law_909 : decode cL_law 909 = .ok (.iadd, 1) := by decide +kernel
theorem sL_law_909 {x y : Int32} (k : X w mL_law d Q 910 ls (.int (x + y) :: st) P) : X w mL_law d Q 909 ls (.int y :: .int x :: st) P := X_iadd (M := mL_law) (dL_law_909) k
theorem dL_law_910 : decode cL_law 910 = .ok (.iaload, 1) := by decide +kernel
theorem sL_law_910 {a n : Nat} {f : Nat → Int32} {i : Int32} (hP : P.1 a = some (xA 0 n f)) (hi : vp_in i n) (k : X w mL_law d Q 911 ls (.int (f i.toNatClampNeg) :: st) P) : X w mL_law d Q 910 ls (.int i :: .ref a :: st) P := X_iald (M := mL_law) (dL_law_910) hP hi k
theorem dL_law_911 : decode cL_law 911 = .ok (.aload_n 0, 1) := by decide +kernel
theorem sL_law_911 {l1 l2 l3 l4 l5 l6 l7 : Option Value} {x : Nat} (k : X w mL_law d Q 912 [some (.ref x), l1, l2, l3, l4, l5, l6, l7] (.ref x :: st) P) : X w mL_law d Q 911 [some (.ref x), l1, l2, l3, l4, l5, l6, l7] st P := X_aload_n (M := mL_law) (dL_law_911) rfl rfl k
theorem dL_law_912 : decode cL_law 912 = .ok (.iload 4, 2) := by decide +kernel
theorem sL_law_912 {l0 l1 l2 l3 l5 l6 l7 : Option Value} {x : Int32} (k : X w mL_law d Q 914 [l0, l1, l2, l3, some (.int x), l5, l6, l7] (.int x :: st) P) : X w mL_law d Q 912 [l0, l1, l2, l3, some (.int x), l5, l6, l7] st P := X_iload (M := mL_law) (dL_law_912) rfl k
theorem dL_law_914 : decode cL_law 914 = .ok (.iconst 2, 1) := by decide +kernel
theorem sL_law_914 (k : X w mL_law d Q 915 ls (.int (2 : Int32) :: st) P) : X w mL_law d Q 914 ls st P := X_iconst (M := mL_law) (dL_law_914) (by decide) k
theorem dL_law_915 : decode cL_law 915 = .ok (.iadd, 1) := by decide +kernel
theorem sL_law_915 {x y : Int32} (k : X w mL_law d Q 916 ls (.int (x + y) :: st) P) : X w mL_law d Q 915 ls (.int y :: .int x :: st) P := X_iadd (M := mL_law) (dL_law_915) k
theorem dL_law_916 : decode cL_law 916 = .ok (.iaload, 1) := by decide +kernel
theorem sL_law_916 {a n : Nat} {f : Nat → Int32} {i : Int32} (hP : P.1 a = some (xA 0 n f)) (hi : vp_in i n) (k : X w mL_law d Q 917 ls (.int (f i.toNatClampNeg) :: st) P) : X w mL_law d Q 916 ls (.int i :: .ref a :: st) P := X_iald (M := mL_law) (dL_law_916) hP hi k
theorem dL_law_917 : decode cL_law 917 = .ok (.invokevirtual 110, 3) := by decide +kernel
theorem sL_law_917_g {b : Nat} {fs : List Value} {a0 : Int32} {a1 : Int32} {Qc : Outcome → xH → Prop} (hst : (st.map fun v => v.category).sum ≤ 8) (hP : P.1 b = some (xO 9 fs)) (hC : xC w d mX11_best [.ref b, .int a0, .int a1] P Qc) (kr : ∀ v P1, Qc (.returned v) P1 → X w mL_law (d + 1) Q 920 ls (v.toList ++ st) P1) (kt : ∀ q P1, Qc (.threw q) P1 → Xt w mL_law (d + 1) Q 917 ls st P1 q) : X w mL_law (d + 1) Q 917 ls (.int a1 :: .int a0 :: .ref b :: st) P := X_callV (M := mL_law) (MC := mX11_best) (As := [.int a0, .int a1]) (T := TX11) (dL_law_917) calX11_best xw_679 xw_680 xw_681 rfl rfl hP hC hst kr kt
theorem sL_law_917 {b : Nat} {fs : List Value} {a0 : Int32} {a1 : Int32} {r : Int32} {P1 : xH} (hst : (st.map fun v => v.category).sum ≤ 8) (hP : P.1 b = some (xO 9 fs)) (hC : xC w d mX11_best [.ref b, .int a0, .int a1] P (xRet (some (.int r)) P1)) (k : X w mL_law (d + 1) Q 920 ls (.int r :: st) P1) : X w mL_law (d + 1) Q 917 ls (.int a1 :: .int a0 :: .ref b :: st) P := X_callV (M := mL_law) (MC := mX11_best) (As := [.int a0, .int a1]) (T := TX11) (dL_law_917) calX11_best xw_679 xw_680 xw_681 rfl rfl hP hC hst (fun v P2 h => by obtain ⟨h1, rfl⟩ := h; cases h1; exact k) (fun q P2 h => by cases h.1)
theorem sL_law_917_r {b : Nat} {fs : List Value} {a0 : Int32} {a1 : Int32} {r : Int32} {Rp : xH → Prop} (hst : (st.map fun v => v.category).sum ≤ 8) (hP : P.1 b = some (xO 9 fs)) (hC : xC w d mX11_best [.ref b, .int a0, .int a1] P (xRl (some (.int r)) Rp)) (k : ∀ P1, Rp P1 → X w mL_law (d + 1) Q 920 ls (.int r :: st) P1) : X w mL_law (d + 1) Q 917 ls (.int a1 :: .int a0 :: .ref b :: st) P := X_callV (M := mL_law) (MC := mX11_best) (As := [.int a0, .int a1]) (T := TX11) (dL_law_917) calX11_best xw_679 xw_680 xw_681 rfl rfl hP hC hst (fun v P2 h => by obtain ⟨h1, hR⟩ := h; cases h1; exact k P2 hR) (fun q P2 h => by cases h.1)
theorem sL_law_917_t {b : Nat} {fs : List Value} {a0 : Int32} {a1 : Int32} {q : Nat} {P1 : xH} (hst : (st.map fun v => v.category).sum ≤ 8) (hP : P.1 b = some (xO 9 fs)) (hC : xC w d mX11_best [.ref b, .int a0, .int a1] P (xThr q P1)) (hq : Q (.threw q) P1) : X w mL_law (d + 1) Q 917 ls (.int a1 :: .int a0 :: .ref b :: st) P := X_callV (M := mL_law) (MC := mX11_best) (As := [.int a0, .int a1]) (T := TX11) (dL_law_917) calX11_best xw_679 xw_680 xw_681 rfl rfl hP hC hst (fun v P2 h => by cases h.1) (fun q2 P2 h => by obtain ⟨h1, rfl⟩ := h; cases h1; exact Xt_out rfl hq)
theorem dL_law_920 : decode cL_law 920 = .ok (.istore 6, 2) := by decide +kernel
theorem sL_law_920 {l0 l1 l2 l3 l4 l5 l6 l7 : Option Value} {x : Int32} (hn : xnl l5 = true) (k : X w mL_law d Q 922 [l0, l1, l2, l3, l4, l5, some (.int x), l7] st P) : X w mL_law d Q 920 [l0, l1, l2, l3, l4, l5, l6, l7] (.int x :: st) P := X_istore (M := mL_law) (dL_law_920) (by decide) rfl (xnl_p (ls := [l0, l1, l2, l3, l4, l5, l6, l7]) (j := 5) rfl hn) k
theorem dL_law_922 : decode cL_law 922 = .ok (.aload_n 2, 1) := by decide +kernel
theorem sL_law_922 {l0 l1 l3 l4 l5 l6 l7 : Option Value} {x : Nat} (k : X w mL_law d Q 923 [l0, l1, some (.ref x), l3, l4, l5, l6, l7] (.ref x :: st) P) : X w mL_law d Q 922 [l0, l1, some (.ref x), l3, l4, l5, l6, l7] st P := X_aload_n (M := mL_law) (dL_law_922) rfl rfl k
theorem dL_law_923 : decode cL_law 923 = .ok (.invokevirtual 79, 3) := by decide +kernel
theorem sL_law_923_g {b : Nat} {fs : List Value}  {Qc : Outcome → xH → Prop} (hst : (st.map fun v => v.category).sum ≤ 8) (hP : P.1 b = some (xO 9 fs)) (hC : xC w d mX11_thrown [.ref b] P Qc) (kr : ∀ v P1, Qc (.returned v) P1 → X w mL_law (d + 1) Q 926 ls (v.toList ++ st) P1) (kt : ∀ q P1, Qc (.threw q) P1 → Xt w mL_law (d + 1) Q 923 ls st P1 q) : X w mL_law (d + 1) Q 923 ls (.ref b :: st) P := X_callV (M := mL_law) (MC := mX11_thrown) (As := []) (T := TX11) (dL_law_923) calX11_thrown xw_634 xw_635 xw_636 rfl rfl hP hC hst kr kt
theorem sL_law_923 {b : Nat} {fs : List Value}  {r : Int32} {P1 : xH} (hst : (st.map fun v => v.category).sum ≤ 8) (hP : P.1 b = some (xO 9 fs)) (hC : xC w d mX11_thrown [.ref b] P (xRet (some (.int r)) P1)) (k : X w mL_law (d + 1) Q 926 ls (.int r :: st) P1) : X w mL_law (d + 1) Q 923 ls (.ref b :: st) P := X_callV (M := mL_law) (MC := mX11_thrown) (As := []) (T := TX11) (dL_law_923) calX11_thrown xw_634 xw_635 xw_636 rfl rfl hP hC hst (fun v P2 h => by obtain ⟨h1, rfl⟩ := h; cases h1; exact k) (fun q P2 h => by cases h.1)
theorem sL_law_923_r {b : Nat} {fs : List Value}  {r : Int32} {Rp : xH → Prop} (hst : (st.map fun v => v.category).sum ≤ 8) (hP : P.1 b = some (xO 9 fs)) (hC : xC w d mX11_thrown [.ref b] P (xRl (some (.int r)) Rp)) (k : ∀ P1, Rp P1 → X w mL_law (d + 1) Q 926 ls (.int r :: st) P1) : X w mL_law (d + 1) Q 923 ls (.ref b :: st) P := X_callV (M := mL_law) (MC := mX11_thrown) (As := []) (T := TX11) (dL_law_923) calX11_thrown xw_634 xw_635 xw_636 rfl rfl hP hC hst (fun v P2 h => by obtain ⟨h1, hR⟩ := h; cases h1; exact k P2 hR) (fun q P2 h => by cases h.1)
theorem sL_law_923_t {b : Nat} {fs : List Value}  {q : Nat} {P1 : xH} (hst : (st.map fun v => v.category).sum ≤ 8) (hP : P.1 b = some (xO 9 fs)) (hC : xC w d mX11_thrown [.ref b] P (xThr q P1)) (hq : Q (.threw q) P1) : X w mL_law (d + 1) Q 923 ls (.ref b :: st) P := X_callV (M := mL_law) (MC := mX11_thrown) (As := []) (T := TX11) (dL_law_923) calX11_thrown xw_634 xw_635 xw_636 rfl rfl hP hC hst (fun v P2 h => by cases h.1) (fun q2 P2 h => by obtain ⟨h1, rfl⟩ := h; cases h1; exact Xt_out rfl hq)
theorem dL_law_926 : decode cL_law 926 = .ok (.iload 5, 2) := by decide +kernel
theorem sL_law_926 {l0 l1 l2 l3 l4 l6 l7 : Option Value} {x : Int32} (k : X w mL_law d Q 928 [l0, l1, l2, l3, l4, some (.int x), l6, l7] (.int x :: st) P) : X w mL_law d Q 926 [l0, l1, l2, l3, l4, some (.int x), l6, l7] st P := X_iload (M := mL_law) (dL_law_926) rfl k
theorem dL_law_928 : decode cL_law 928 = .ok (.if_icmp .eq 5, 3) := by decide +kernel
theorem sL_law_928 {x y : Int32} (kt : x = y → X w mL_law d Q 933 ls st P) (kf : ¬ x = y → X w mL_law d Q 931 ls st P) : X w mL_law d Q 928 ls (.int y :: .int x :: st) P := X_icmp_eq (M := mL_law) (dL_law_928) (by decide) kt kf
theorem dL_law_931 : decode cL_law 931 = .ok (.iconst 0, 1) := by decide +kernel
theorem sL_law_931 (k : X w mL_law d Q 932 ls (.int (0 : Int32) :: st) P) : X w mL_law d Q 931 ls st P := X_iconst (M := mL_law) (dL_law_931) (by decide) k
theorem dL_law_932 : decode cL_law 932 = .ok (.ireturn, 1) := by decide +kernel
theorem sL_law_932 {v : Int32} (hb : v = 0 ∨ v = 1) (hq : Q (.returned (some (.int v))) P) : X w mL_law d Q 932 ls [.int v] P := X_zret (M := mL_law) (ty := .boolean) (dL_law_932) rfl (xz_n hb) hq
theorem dL_law_933 : decode cL_law 933 = .ok (.iload 5, 2) := by decide +kernel
theorem sL_law_933 {l0 l1 l2 l3 l4 l6 l7 : Option Value} {x : Int32} (k : X w mL_law d Q 935 [l0, l1, l2, l3, l4, some (.int x), l6, l7] (.int x :: st) P) : X w mL_law d Q 933 [l0, l1, l2, l3, l4, some (.int x), l6, l7] st P := X_iload (M := mL_law) (dL_law_933) rfl k
theorem dL_law_935 : decode cL_law 935 = .ok (.ifCond .ne 15, 3) := by decide +kernel
theorem sL_law_935 {x : Int32} (kt : ¬ x = 0 → X w mL_law d Q 950 ls st P) (kf : x = 0 → X w mL_law d Q 938 ls st P) : X w mL_law d Q 935 ls (.int x :: st) P := X_if_ne (M := mL_law) (dL_law_935) (by decide) kt kf
theorem dL_law_938 : decode cL_law 938 = .ok (.aload_n 3, 1) := by decide +kernel
theorem sL_law_938 {l0 l1 l2 l4 l5 l6 l7 : Option Value} {x : Nat} (k : X w mL_law d Q 939 [l0, l1, l2, some (.ref x), l4, l5, l6, l7] (.ref x :: st) P) : X w mL_law d Q 938 [l0, l1, l2, some (.ref x), l4, l5, l6, l7] st P := X_aload_n (M := mL_law) (dL_law_938) rfl rfl k
theorem dL_law_939 : decode cL_law 939 = .ok (.iconst 0, 1) := by decide +kernel
theorem sL_law_939 (k : X w mL_law d Q 940 ls (.int (0 : Int32) :: st) P) : X w mL_law d Q 939 ls st P := X_iconst (M := mL_law) (dL_law_939) (by decide) k
theorem dL_law_940 : decode cL_law 940 = .ok (.laload, 1) := by decide +kernel
theorem sL_law_940 {a n : Nat} {f : Nat → Int64} {i : Int32} (hP : P.1 a = some (xJ n f)) (hi : vp_in i n) (k : X w mL_law d Q 941 ls (.long (f i.toNatClampNeg) :: st) P) : X w mL_law d Q 940 ls (.int i :: .ref a :: st) P := X_lald (M := mL_law) (dL_law_940) hP hi k
theorem dL_law_941 : decode cL_law 941 = .ok (.iload 6, 2) := by decide +kernel
theorem sL_law_941 {l0 l1 l2 l3 l4 l5 l7 : Option Value} {x : Int32} (k : X w mL_law d Q 943 [l0, l1, l2, l3, l4, l5, some (.int x), l7] (.int x :: st) P) : X w mL_law d Q 941 [l0, l1, l2, l3, l4, l5, some (.int x), l7] st P := X_iload (M := mL_law) (dL_law_941) rfl k
theorem dL_law_943 : decode cL_law 943 = .ok (.i2l, 1) := by decide +kernel
theorem sL_law_943 {x : Int32} (k : X w mL_law d Q 944 ls (.long x.toInt64 :: st) P) : X w mL_law d Q 943 ls (.int x :: st) P := X_i2l (M := mL_law) (dL_law_943) k
theorem dL_law_944 : decode cL_law 944 = .ok (.lcmp, 1) := by decide +kernel
theorem sL_law_944 {x y : Int64} (k : X w mL_law d Q 945 ls (.int (lg_cmp x y) :: st) P) : X w mL_law d Q 944 ls (.long y :: .long x :: st) P := X_lcmp (M := mL_law) (dL_law_944) k
theorem dL_law_945 : decode cL_law 945 = .ok (.ifCond .eq 5, 3) := by decide +kernel
theorem sL_law_945 {x : Int32} (kt : x = 0 → X w mL_law d Q 950 ls st P) (kf : ¬ x = 0 → X w mL_law d Q 948 ls st P) : X w mL_law d Q 945 ls (.int x :: st) P := X_if_eq (M := mL_law) (dL_law_945) (by decide) kt kf
theorem dL_law_948 : decode cL_law 948 = .ok (.iconst 0, 1) := by decide +kernel
theorem sL_law_948 (k : X w mL_law d Q 949 ls (.int (0 : Int32) :: st) P) : X w mL_law d Q 948 ls st P := X_iconst (M := mL_law) (dL_law_948) (by decide) k
theorem dL_law_949 : decode cL_law 949 = .ok (.ireturn, 1) := by decide +kernel
theorem sL_law_949 {v : Int32} (hb : v = 0 ∨ v = 1) (hq : Q (.returned (some (.int v))) P) : X w mL_law d Q 949 ls [.int v] P := X_zret (M := mL_law) (ty := .boolean) (dL_law_949) rfl (xz_n hb) hq
theorem dL_law_950 : decode cL_law 950 = .ok (.goto 139, 3) := by decide +kernel
theorem sL_law_950 (k : X w mL_law d Q 1089 ls st P) : X w mL_law d Q 950 ls st P := X_goto (M := mL_law) (dL_law_950) (by decide) k
theorem dL_law_953 : decode cL_law 953 = .ok (.aload_n 1, 1) := by decide +kernel
theorem sL_law_953 {l0 l2 l3 l4 l5 l6 l7 : Option Value} {x : Nat} (k : X w mL_law d Q 954 [l0, some (.ref x), l2, l3, l4, l5, l6, l7] (.ref x :: st) P) : X w mL_law d Q 953 [l0, some (.ref x), l2, l3, l4, l5, l6, l7] st P := X_aload_n (M := mL_law) (dL_law_953) rfl rfl k
theorem dL_law_954 : decode cL_law 954 = .ok (.aload_n 0, 1) := by decide +kernel
theorem sL_law_954 {l1 l2 l3 l4 l5 l6 l7 : Option Value} {x : Nat} (k : X w mL_law d Q 955 [some (.ref x), l1, l2, l3, l4, l5, l6, l7] (.ref x :: st) P) : X w mL_law d Q 954 [some (.ref x), l1, l2, l3, l4, l5, l6, l7] st P := X_aload_n (M := mL_law) (dL_law_954) rfl rfl k
theorem dL_law_955 : decode cL_law 955 = .ok (.iload 4, 2) := by decide +kernel
theorem sL_law_955 {l0 l1 l2 l3 l5 l6 l7 : Option Value} {x : Int32} (k : X w mL_law d Q 957 [l0, l1, l2, l3, some (.int x), l5, l6, l7] (.int x :: st) P) : X w mL_law d Q 955 [l0, l1, l2, l3, some (.int x), l5, l6, l7] st P := X_iload (M := mL_law) (dL_law_955) rfl k
theorem dL_law_957 : decode cL_law 957 = .ok (.iconst 1, 1) := by decide +kernel
theorem sL_law_957 (k : X w mL_law d Q 958 ls (.int (1 : Int32) :: st) P) : X w mL_law d Q 957 ls st P := X_iconst (M := mL_law) (dL_law_957) (by decide) k
theorem dL_law_958 : decode cL_law 958 = .ok (.iadd, 1) := by decide +kernel
theorem sL_law_958 {x y : Int32} (k : X w mL_law d Q 959 ls (.int (x + y) :: st) P) : X w mL_law d Q 958 ls (.int y :: .int x :: st) P := X_iadd (M := mL_law) (dL_law_958) k
theorem dL_law_959 : decode cL_law 959 = .ok (.iaload, 1) := by decide +kernel
theorem sL_law_959 {a n : Nat} {f : Nat → Int32} {i : Int32} (hP : P.1 a = some (xA 0 n f)) (hi : vp_in i n) (k : X w mL_law d Q 960 ls (.int (f i.toNatClampNeg) :: st) P) : X w mL_law d Q 959 ls (.int i :: .ref a :: st) P := X_iald (M := mL_law) (dL_law_959) hP hi k
theorem dL_law_960 : decode cL_law 960 = .ok (.aload_n 0, 1) := by decide +kernel
theorem sL_law_960 {l1 l2 l3 l4 l5 l6 l7 : Option Value} {x : Nat} (k : X w mL_law d Q 961 [some (.ref x), l1, l2, l3, l4, l5, l6, l7] (.ref x :: st) P) : X w mL_law d Q 960 [some (.ref x), l1, l2, l3, l4, l5, l6, l7] st P := X_aload_n (M := mL_law) (dL_law_960) rfl rfl k
theorem dL_law_961 : decode cL_law 961 = .ok (.iload 4, 2) := by decide +kernel
theorem sL_law_961 {l0 l1 l2 l3 l5 l6 l7 : Option Value} {x : Int32} (k : X w mL_law d Q 963 [l0, l1, l2, l3, some (.int x), l5, l6, l7] (.int x :: st) P) : X w mL_law d Q 961 [l0, l1, l2, l3, some (.int x), l5, l6, l7] st P := X_iload (M := mL_law) (dL_law_961) rfl k
theorem dL_law_963 : decode cL_law 963 = .ok (.iconst 2, 1) := by decide +kernel
theorem sL_law_963 (k : X w mL_law d Q 964 ls (.int (2 : Int32) :: st) P) : X w mL_law d Q 963 ls st P := X_iconst (M := mL_law) (dL_law_963) (by decide) k
theorem dL_law_964 : decode cL_law 964 = .ok (.iadd, 1) := by decide +kernel
theorem sL_law_964 {x y : Int32} (k : X w mL_law d Q 965 ls (.int (x + y) :: st) P) : X w mL_law d Q 964 ls (.int y :: .int x :: st) P := X_iadd (M := mL_law) (dL_law_964) k
theorem dL_law_965 : decode cL_law 965 = .ok (.iaload, 1) := by decide +kernel
theorem sL_law_965 {a n : Nat} {f : Nat → Int32} {i : Int32} (hP : P.1 a = some (xA 0 n f)) (hi : vp_in i n) (k : X w mL_law d Q 966 ls (.int (f i.toNatClampNeg) :: st) P) : X w mL_law d Q 965 ls (.int i :: .ref a :: st) P := X_iald (M := mL_law) (dL_law_965) hP hi k
theorem dL_law_966 : decode cL_law 966 = .ok (.aload_n 0, 1) := by decide +kernel
theorem sL_law_966 {l1 l2 l3 l4 l5 l6 l7 : Option Value} {x : Nat} (k : X w mL_law d Q 967 [some (.ref x), l1, l2, l3, l4, l5, l6, l7] (.ref x :: st) P) : X w mL_law d Q 966 [some (.ref x), l1, l2, l3, l4, l5, l6, l7] st P := X_aload_n (M := mL_law) (dL_law_966) rfl rfl k
theorem dL_law_967 : decode cL_law 967 = .ok (.iload 4, 2) := by decide +kernel
theorem sL_law_967 {l0 l1 l2 l3 l5 l6 l7 : Option Value} {x : Int32} (k : X w mL_law d Q 969 [l0, l1, l2, l3, some (.int x), l5, l6, l7] (.int x :: st) P) : X w mL_law d Q 967 [l0, l1, l2, l3, some (.int x), l5, l6, l7] st P := X_iload (M := mL_law) (dL_law_967) rfl k
theorem dL_law_969 : decode cL_law 969 = .ok (.iconst 3, 1) := by decide +kernel
theorem sL_law_969 (k : X w mL_law d Q 970 ls (.int (3 : Int32) :: st) P) : X w mL_law d Q 969 ls st P := X_iconst (M := mL_law) (dL_law_969) (by decide) k
theorem dL_law_970 : decode cL_law 970 = .ok (.iadd, 1) := by decide +kernel
theorem sL_law_970 {x y : Int32} (k : X w mL_law d Q 971 ls (.int (x + y) :: st) P) : X w mL_law d Q 970 ls (.int y :: .int x :: st) P := X_iadd (M := mL_law) (dL_law_970) k
theorem dL_law_971 : decode cL_law 971 = .ok (.iaload, 1) := by decide +kernel
theorem sL_law_971 {a n : Nat} {f : Nat → Int32} {i : Int32} (hP : P.1 a = some (xA 0 n f)) (hi : vp_in i n) (k : X w mL_law d Q 972 ls (.int (f i.toNatClampNeg) :: st) P) : X w mL_law d Q 971 ls (.int i :: .ref a :: st) P := X_iald (M := mL_law) (dL_law_971) hP hi k
theorem dL_law_972 : decode cL_law 972 = .ok (.aload_n 3, 1) := by decide +kernel
theorem sL_law_972 {l0 l1 l2 l4 l5 l6 l7 : Option Value} {x : Nat} (k : X w mL_law d Q 973 [l0, l1, l2, some (.ref x), l4, l5, l6, l7] (.ref x :: st) P) : X w mL_law d Q 972 [l0, l1, l2, some (.ref x), l4, l5, l6, l7] st P := X_aload_n (M := mL_law) (dL_law_972) rfl rfl k
theorem dL_law_973 : decode cL_law 973 = .ok (.invokestatic 111, 3) := by decide +kernel
theorem sL_law_973_g {a0 : Nat} {a1 : Int32} {a2 : Int32} {a3 : Int32} {a4 : Nat} {Qc : Outcome → xH → Prop} (hst : (st.map fun v => v.category).sum ≤ 8) (hC : xC w d mL_letter [.ref a0, .int a1, .int a2, .int a3, .ref a4] P Qc) (kr : ∀ v P1, Qc (.returned v) P1 → X w mL_law (d + 1) Q 976 ls (v.toList ++ st) P1) (kt : ∀ q P1, Qc (.threw q) P1 → Xt w mL_law (d + 1) Q 973 ls st P1 q) : X w mL_law (d + 1) Q 973 ls (.ref a4 :: .int a3 :: .int a2 :: .int a1 :: .ref a0 :: st) P := X_callS (M := mL_law) (MC := mL_letter) (As := [.ref a0, .int a1, .int a2, .int a3, .ref a4]) (dL_law_973) calL_letter xw_682 xw_683 rfl hC hst kr kt
theorem sL_law_973 {a0 : Nat} {a1 : Int32} {a2 : Int32} {a3 : Int32} {a4 : Nat} {r : Int32} {P1 : xH} (hst : (st.map fun v => v.category).sum ≤ 8) (hC : xC w d mL_letter [.ref a0, .int a1, .int a2, .int a3, .ref a4] P (xRet (some (.int r)) P1)) (k : X w mL_law (d + 1) Q 976 ls (.int r :: st) P1) : X w mL_law (d + 1) Q 973 ls (.ref a4 :: .int a3 :: .int a2 :: .int a1 :: .ref a0 :: st) P := X_callS (M := mL_law) (MC := mL_letter) (As := [.ref a0, .int a1, .int a2, .int a3, .ref a4]) (dL_law_973) calL_letter xw_682 xw_683 rfl hC hst (fun v P2 h => by obtain ⟨h1, rfl⟩ := h; cases h1; exact k) (fun q P2 h => by cases h.1)
theorem sL_law_973_r {a0 : Nat} {a1 : Int32} {a2 : Int32} {a3 : Int32} {a4 : Nat} {r : Int32} {Rp : xH → Prop} (hst : (st.map fun v => v.category).sum ≤ 8) (hC : xC w d mL_letter [.ref a0, .int a1, .int a2, .int a3, .ref a4] P (xRl (some (.int r)) Rp)) (k : ∀ P1, Rp P1 → X w mL_law (d + 1) Q 976 ls (.int r :: st) P1) : X w mL_law (d + 1) Q 973 ls (.ref a4 :: .int a3 :: .int a2 :: .int a1 :: .ref a0 :: st) P := X_callS (M := mL_law) (MC := mL_letter) (As := [.ref a0, .int a1, .int a2, .int a3, .ref a4]) (dL_law_973) calL_letter xw_682 xw_683 rfl hC hst (fun v P2 h => by obtain ⟨h1, hR⟩ := h; cases h1; exact k P2 hR) (fun q P2 h => by cases h.1)
theorem sL_law_973_t {a0 : Nat} {a1 : Int32} {a2 : Int32} {a3 : Int32} {a4 : Nat} {q : Nat} {P1 : xH} (hst : (st.map fun v => v.category).sum ≤ 8) (hC : xC w d mL_letter [.ref a0, .int a1, .int a2, .int a3, .ref a4] P (xThr q P1)) (hq : Q (.threw q) P1) : X w mL_law (d + 1) Q 973 ls (.ref a4 :: .int a3 :: .int a2 :: .int a1 :: .ref a0 :: st) P := X_callS (M := mL_law) (MC := mL_letter) (As := [.ref a0, .int a1, .int a2, .int a3, .ref a4]) (dL_law_973) calL_letter xw_682 xw_683 rfl hC hst (fun v P2 h => by cases h.1) (fun q2 P2 h => by obtain ⟨h1, rfl⟩ := h; cases h1; exact Xt_out rfl hq)
theorem dL_law_976 : decode cL_law 976 = .ok (.istore 5, 2) := by decide +kernel
theorem sL_law_976 {l0 l1 l2 l3 l4 l5 l6 l7 : Option Value} {x : Int32} (hn : xnl l4 = true) (k : X w mL_law d Q 978 [l0, l1, l2, l3, l4, some (.int x), l6, l7] st P) : X w mL_law d Q 976 [l0, l1, l2, l3, l4, l5, l6, l7] (.int x :: st) P := X_istore (M := mL_law) (dL_law_976) (by decide) rfl (xnl_p (ls := [l0, l1, l2, l3, l4, l5, l6, l7]) (j := 4) rfl hn) k
theorem dL_law_978 : decode cL_law 978 = .ok (.aload_n 2, 1) := by decide +kernel
theorem sL_law_978 {l0 l1 l3 l4 l5 l6 l7 : Option Value} {x : Nat} (k : X w mL_law d Q 979 [l0, l1, some (.ref x), l3, l4, l5, l6, l7] (.ref x :: st) P) : X w mL_law d Q 978 [l0, l1, some (.ref x), l3, l4, l5, l6, l7] st P := X_aload_n (M := mL_law) (dL_law_978) rfl rfl k
theorem dL_law_979 : decode cL_law 979 = .ok (.aload_n 0, 1) := by decide +kernel
theorem sL_law_979 {l1 l2 l3 l4 l5 l6 l7 : Option Value} {x : Nat} (k : X w mL_law d Q 980 [some (.ref x), l1, l2, l3, l4, l5, l6, l7] (.ref x :: st) P) : X w mL_law d Q 979 [some (.ref x), l1, l2, l3, l4, l5, l6, l7] st P := X_aload_n (M := mL_law) (dL_law_979) rfl rfl k
theorem dL_law_980 : decode cL_law 980 = .ok (.iload 4, 2) := by decide +kernel
theorem sL_law_980 {l0 l1 l2 l3 l5 l6 l7 : Option Value} {x : Int32} (k : X w mL_law d Q 982 [l0, l1, l2, l3, some (.int x), l5, l6, l7] (.int x :: st) P) : X w mL_law d Q 980 [l0, l1, l2, l3, some (.int x), l5, l6, l7] st P := X_iload (M := mL_law) (dL_law_980) rfl k
theorem dL_law_982 : decode cL_law 982 = .ok (.iconst 1, 1) := by decide +kernel
theorem sL_law_982 (k : X w mL_law d Q 983 ls (.int (1 : Int32) :: st) P) : X w mL_law d Q 982 ls st P := X_iconst (M := mL_law) (dL_law_982) (by decide) k
theorem dL_law_983 : decode cL_law 983 = .ok (.iadd, 1) := by decide +kernel
theorem sL_law_983 {x y : Int32} (k : X w mL_law d Q 984 ls (.int (x + y) :: st) P) : X w mL_law d Q 983 ls (.int y :: .int x :: st) P := X_iadd (M := mL_law) (dL_law_983) k
theorem dL_law_984 : decode cL_law 984 = .ok (.iaload, 1) := by decide +kernel
theorem sL_law_984 {a n : Nat} {f : Nat → Int32} {i : Int32} (hP : P.1 a = some (xA 0 n f)) (hi : vp_in i n) (k : X w mL_law d Q 985 ls (.int (f i.toNatClampNeg) :: st) P) : X w mL_law d Q 984 ls (.int i :: .ref a :: st) P := X_iald (M := mL_law) (dL_law_984) hP hi k
theorem dL_law_985 : decode cL_law 985 = .ok (.aload_n 0, 1) := by decide +kernel
theorem sL_law_985 {l1 l2 l3 l4 l5 l6 l7 : Option Value} {x : Nat} (k : X w mL_law d Q 986 [some (.ref x), l1, l2, l3, l4, l5, l6, l7] (.ref x :: st) P) : X w mL_law d Q 985 [some (.ref x), l1, l2, l3, l4, l5, l6, l7] st P := X_aload_n (M := mL_law) (dL_law_985) rfl rfl k
theorem dL_law_986 : decode cL_law 986 = .ok (.iload 4, 2) := by decide +kernel
theorem sL_law_986 {l0 l1 l2 l3 l5 l6 l7 : Option Value} {x : Int32} (k : X w mL_law d Q 988 [l0, l1, l2, l3, some (.int x), l5, l6, l7] (.int x :: st) P) : X w mL_law d Q 986 [l0, l1, l2, l3, some (.int x), l5, l6, l7] st P := X_iload (M := mL_law) (dL_law_986) rfl k
theorem dL_law_988 : decode cL_law 988 = .ok (.iconst 2, 1) := by decide +kernel
theorem sL_law_988 (k : X w mL_law d Q 989 ls (.int (2 : Int32) :: st) P) : X w mL_law d Q 988 ls st P := X_iconst (M := mL_law) (dL_law_988) (by decide) k
theorem dL_law_989 : decode cL_law 989 = .ok (.iadd, 1) := by decide +kernel
theorem sL_law_989 {x y : Int32} (k : X w mL_law d Q 990 ls (.int (x + y) :: st) P) : X w mL_law d Q 989 ls (.int y :: .int x :: st) P := X_iadd (M := mL_law) (dL_law_989) k
theorem dL_law_990 : decode cL_law 990 = .ok (.iaload, 1) := by decide +kernel
theorem sL_law_990 {a n : Nat} {f : Nat → Int32} {i : Int32} (hP : P.1 a = some (xA 0 n f)) (hi : vp_in i n) (k : X w mL_law d Q 991 ls (.int (f i.toNatClampNeg) :: st) P) : X w mL_law d Q 990 ls (.int i :: .ref a :: st) P := X_iald (M := mL_law) (dL_law_990) hP hi k
theorem dL_law_991 : decode cL_law 991 = .ok (.aload_n 0, 1) := by decide +kernel
theorem sL_law_991 {l1 l2 l3 l4 l5 l6 l7 : Option Value} {x : Nat} (k : X w mL_law d Q 992 [some (.ref x), l1, l2, l3, l4, l5, l6, l7] (.ref x :: st) P) : X w mL_law d Q 991 [some (.ref x), l1, l2, l3, l4, l5, l6, l7] st P := X_aload_n (M := mL_law) (dL_law_991) rfl rfl k
theorem dL_law_992 : decode cL_law 992 = .ok (.iload 4, 2) := by decide +kernel
theorem sL_law_992 {l0 l1 l2 l3 l5 l6 l7 : Option Value} {x : Int32} (k : X w mL_law d Q 994 [l0, l1, l2, l3, some (.int x), l5, l6, l7] (.int x :: st) P) : X w mL_law d Q 992 [l0, l1, l2, l3, some (.int x), l5, l6, l7] st P := X_iload (M := mL_law) (dL_law_992) rfl k
theorem dL_law_994 : decode cL_law 994 = .ok (.iconst 3, 1) := by decide +kernel
theorem sL_law_994 (k : X w mL_law d Q 995 ls (.int (3 : Int32) :: st) P) : X w mL_law d Q 994 ls st P := X_iconst (M := mL_law) (dL_law_994) (by decide) k
theorem dL_law_995 : decode cL_law 995 = .ok (.iadd, 1) := by decide +kernel
theorem sL_law_995 {x y : Int32} (k : X w mL_law d Q 996 ls (.int (x + y) :: st) P) : X w mL_law d Q 995 ls (.int y :: .int x :: st) P := X_iadd (M := mL_law) (dL_law_995) k
theorem dL_law_996 : decode cL_law 996 = .ok (.iaload, 1) := by decide +kernel
theorem sL_law_996 {a n : Nat} {f : Nat → Int32} {i : Int32} (hP : P.1 a = some (xA 0 n f)) (hi : vp_in i n) (k : X w mL_law d Q 997 ls (.int (f i.toNatClampNeg) :: st) P) : X w mL_law d Q 996 ls (.int i :: .ref a :: st) P := X_iald (M := mL_law) (dL_law_996) hP hi k
theorem dL_law_997 : decode cL_law 997 = .ok (.invokevirtual 113, 3) := by decide +kernel
theorem sL_law_997_g {b : Nat} {fs : List Value} {a0 : Int32} {a1 : Int32} {a2 : Int32} {Qc : Outcome → xH → Prop} (hst : (st.map fun v => v.category).sum ≤ 8) (hP : P.1 b = some (xO 9 fs)) (hC : xC w d mX11_letter [.ref b, .int a0, .int a1, .int a2] P Qc) (kr : ∀ v P1, Qc (.returned v) P1 → X w mL_law (d + 1) Q 1000 ls (v.toList ++ st) P1) (kt : ∀ q P1, Qc (.threw q) P1 → Xt w mL_law (d + 1) Q 997 ls st P1 q) : X w mL_law (d + 1) Q 997 ls (.int a2 :: .int a1 :: .int a0 :: .ref b :: st) P := X_callV (M := mL_law) (MC := mX11_letter) (As := [.int a0, .int a1, .int a2]) (T := TX11) (dL_law_997) calX11_letter xw_684 xw_685 xw_686 rfl rfl hP hC hst kr kt
theorem sL_law_997 {b : Nat} {fs : List Value} {a0 : Int32} {a1 : Int32} {a2 : Int32} {r : Int32} {P1 : xH} (hst : (st.map fun v => v.category).sum ≤ 8) (hP : P.1 b = some (xO 9 fs)) (hC : xC w d mX11_letter [.ref b, .int a0, .int a1, .int a2] P (xRet (some (.int r)) P1)) (k : X w mL_law (d + 1) Q 1000 ls (.int r :: st) P1) : X w mL_law (d + 1) Q 997 ls (.int a2 :: .int a1 :: .int a0 :: .ref b :: st) P := X_callV (M := mL_law) (MC := mX11_letter) (As := [.int a0, .int a1, .int a2]) (T := TX11) (dL_law_997) calX11_letter xw_684 xw_685 xw_686 rfl rfl hP hC hst (fun v P2 h => by obtain ⟨h1, rfl⟩ := h; cases h1; exact k) (fun q P2 h => by cases h.1)
theorem sL_law_997_r {b : Nat} {fs : List Value} {a0 : Int32} {a1 : Int32} {a2 : Int32} {r : Int32} {Rp : xH → Prop} (hst : (st.map fun v => v.category).sum ≤ 8) (hP : P.1 b = some (xO 9 fs)) (hC : xC w d mX11_letter [.ref b, .int a0, .int a1, .int a2] P (xRl (some (.int r)) Rp)) (k : ∀ P1, Rp P1 → X w mL_law (d + 1) Q 1000 ls (.int r :: st) P1) : X w mL_law (d + 1) Q 997 ls (.int a2 :: .int a1 :: .int a0 :: .ref b :: st) P := X_callV (M := mL_law) (MC := mX11_letter) (As := [.int a0, .int a1, .int a2]) (T := TX11) (dL_law_997) calX11_letter xw_684 xw_685 xw_686 rfl rfl hP hC hst (fun v P2 h => by obtain ⟨h1, hR⟩ := h; cases h1; exact k P2 hR) (fun q P2 h => by cases h.1)
theorem sL_law_997_t {b : Nat} {fs : List Value} {a0 : Int32} {a1 : Int32} {a2 : Int32} {q : Nat} {P1 : xH} (hst : (st.map fun v => v.category).sum ≤ 8) (hP : P.1 b = some (xO 9 fs)) (hC : xC w d mX11_letter [.ref b, .int a0, .int a1, .int a2] P (xThr q P1)) (hq : Q (.threw q) P1) : X w mL_law (d + 1) Q 997 ls (.int a2 :: .int a1 :: .int a0 :: .ref b :: st) P := X_callV (M := mL_law) (MC := mX11_letter) (As := [.int a0, .int a1, .int a2]) (T := TX11) (dL_law_997) calX11_letter xw_684 xw_685 xw_686 rfl rfl hP hC hst (fun v P2 h => by cases h.1) (fun q2 P2 h => by obtain ⟨h1, rfl⟩ := h; cases h1; exact Xt_out rfl hq)
theorem dL_law_1000 : decode cL_law 1000 = .ok (.istore 6, 2) := by decide +kernel
theorem sL_law_1000 {l0 l1 l2 l3 l4 l5 l6 l7 : Option Value} {x : Int32} (hn : xnl l5 = true) (k : X w mL_law d Q 1002 [l0, l1, l2, l3, l4, l5, some (.int x), l7] st P) : X w mL_law d Q 1000 [l0, l1, l2, l3, l4, l5, l6, l7] (.int x :: st) P := X_istore (M := mL_law) (dL_law_1000) (by decide) rfl (xnl_p (ls := [l0, l1, l2, l3, l4, l5, l6, l7]) (j := 5) rfl hn) k
theorem dL_law_1002 : decode cL_law 1002 = .ok (.aload_n 2, 1) := by decide +kernel
theorem sL_law_1002 {l0 l1 l3 l4 l5 l6 l7 : Option Value} {x : Nat} (k : X w mL_law d Q 1003 [l0, l1, some (.ref x), l3, l4, l5, l6, l7] (.ref x :: st) P) : X w mL_law d Q 1002 [l0, l1, some (.ref x), l3, l4, l5, l6, l7] st P := X_aload_n (M := mL_law) (dL_law_1002) rfl rfl k
theorem dL_law_1003 : decode cL_law 1003 = .ok (.invokevirtual 79, 3) := by decide +kernel
theorem sL_law_1003_g {b : Nat} {fs : List Value}  {Qc : Outcome → xH → Prop} (hst : (st.map fun v => v.category).sum ≤ 8) (hP : P.1 b = some (xO 9 fs)) (hC : xC w d mX11_thrown [.ref b] P Qc) (kr : ∀ v P1, Qc (.returned v) P1 → X w mL_law (d + 1) Q 1006 ls (v.toList ++ st) P1) (kt : ∀ q P1, Qc (.threw q) P1 → Xt w mL_law (d + 1) Q 1003 ls st P1 q) : X w mL_law (d + 1) Q 1003 ls (.ref b :: st) P := X_callV (M := mL_law) (MC := mX11_thrown) (As := []) (T := TX11) (dL_law_1003) calX11_thrown xw_634 xw_635 xw_636 rfl rfl hP hC hst kr kt
theorem sL_law_1003 {b : Nat} {fs : List Value}  {r : Int32} {P1 : xH} (hst : (st.map fun v => v.category).sum ≤ 8) (hP : P.1 b = some (xO 9 fs)) (hC : xC w d mX11_thrown [.ref b] P (xRet (some (.int r)) P1)) (k : X w mL_law (d + 1) Q 1006 ls (.int r :: st) P1) : X w mL_law (d + 1) Q 1003 ls (.ref b :: st) P := X_callV (M := mL_law) (MC := mX11_thrown) (As := []) (T := TX11) (dL_law_1003) calX11_thrown xw_634 xw_635 xw_636 rfl rfl hP hC hst (fun v P2 h => by obtain ⟨h1, rfl⟩ := h; cases h1; exact k) (fun q P2 h => by cases h.1)
theorem sL_law_1003_r {b : Nat} {fs : List Value}  {r : Int32} {Rp : xH → Prop} (hst : (st.map fun v => v.category).sum ≤ 8) (hP : P.1 b = some (xO 9 fs)) (hC : xC w d mX11_thrown [.ref b] P (xRl (some (.int r)) Rp)) (k : ∀ P1, Rp P1 → X w mL_law (d + 1) Q 1006 ls (.int r :: st) P1) : X w mL_law (d + 1) Q 1003 ls (.ref b :: st) P := X_callV (M := mL_law) (MC := mX11_thrown) (As := []) (T := TX11) (dL_law_1003) calX11_thrown xw_634 xw_635 xw_636 rfl rfl hP hC hst (fun v P2 h => by obtain ⟨h1, hR⟩ := h; cases h1; exact k P2 hR) (fun q P2 h => by cases h.1)
theorem sL_law_1003_t {b : Nat} {fs : List Value}  {q : Nat} {P1 : xH} (hst : (st.map fun v => v.category).sum ≤ 8) (hP : P.1 b = some (xO 9 fs)) (hC : xC w d mX11_thrown [.ref b] P (xThr q P1)) (hq : Q (.threw q) P1) : X w mL_law (d + 1) Q 1003 ls (.ref b :: st) P := X_callV (M := mL_law) (MC := mX11_thrown) (As := []) (T := TX11) (dL_law_1003) calX11_thrown xw_634 xw_635 xw_636 rfl rfl hP hC hst (fun v P2 h => by cases h.1) (fun q2 P2 h => by obtain ⟨h1, rfl⟩ := h; cases h1; exact Xt_out rfl hq)
theorem dL_law_1006 : decode cL_law 1006 = .ok (.iload 5, 2) := by decide +kernel
theorem sL_law_1006 {l0 l1 l2 l3 l4 l6 l7 : Option Value} {x : Int32} (k : X w mL_law d Q 1008 [l0, l1, l2, l3, l4, some (.int x), l6, l7] (.int x :: st) P) : X w mL_law d Q 1006 [l0, l1, l2, l3, l4, some (.int x), l6, l7] st P := X_iload (M := mL_law) (dL_law_1006) rfl k
theorem dL_law_1008 : decode cL_law 1008 = .ok (.if_icmp .eq 5, 3) := by decide +kernel
theorem sL_law_1008 {x y : Int32} (kt : x = y → X w mL_law d Q 1013 ls st P) (kf : ¬ x = y → X w mL_law d Q 1011 ls st P) : X w mL_law d Q 1008 ls (.int y :: .int x :: st) P := X_icmp_eq (M := mL_law) (dL_law_1008) (by decide) kt kf
theorem dL_law_1011 : decode cL_law 1011 = .ok (.iconst 0, 1) := by decide +kernel
theorem sL_law_1011 (k : X w mL_law d Q 1012 ls (.int (0 : Int32) :: st) P) : X w mL_law d Q 1011 ls st P := X_iconst (M := mL_law) (dL_law_1011) (by decide) k
theorem dL_law_1012 : decode cL_law 1012 = .ok (.ireturn, 1) := by decide +kernel
theorem sL_law_1012 {v : Int32} (hb : v = 0 ∨ v = 1) (hq : Q (.returned (some (.int v))) P) : X w mL_law d Q 1012 ls [.int v] P := X_zret (M := mL_law) (ty := .boolean) (dL_law_1012) rfl (xz_n hb) hq
theorem dL_law_1013 : decode cL_law 1013 = .ok (.iload 5, 2) := by decide +kernel
theorem sL_law_1013 {l0 l1 l2 l3 l4 l6 l7 : Option Value} {x : Int32} (k : X w mL_law d Q 1015 [l0, l1, l2, l3, l4, some (.int x), l6, l7] (.int x :: st) P) : X w mL_law d Q 1013 [l0, l1, l2, l3, l4, some (.int x), l6, l7] st P := X_iload (M := mL_law) (dL_law_1013) rfl k
theorem dL_law_1015 : decode cL_law 1015 = .ok (.ifCond .ne 15, 3) := by decide +kernel
theorem sL_law_1015 {x : Int32} (kt : ¬ x = 0 → X w mL_law d Q 1030 ls st P) (kf : x = 0 → X w mL_law d Q 1018 ls st P) : X w mL_law d Q 1015 ls (.int x :: st) P := X_if_ne (M := mL_law) (dL_law_1015) (by decide) kt kf
theorem dL_law_1018 : decode cL_law 1018 = .ok (.aload_n 3, 1) := by decide +kernel
theorem sL_law_1018 {l0 l1 l2 l4 l5 l6 l7 : Option Value} {x : Nat} (k : X w mL_law d Q 1019 [l0, l1, l2, some (.ref x), l4, l5, l6, l7] (.ref x :: st) P) : X w mL_law d Q 1018 [l0, l1, l2, some (.ref x), l4, l5, l6, l7] st P := X_aload_n (M := mL_law) (dL_law_1018) rfl rfl k
theorem dL_law_1019 : decode cL_law 1019 = .ok (.iconst 0, 1) := by decide +kernel
theorem sL_law_1019 (k : X w mL_law d Q 1020 ls (.int (0 : Int32) :: st) P) : X w mL_law d Q 1019 ls st P := X_iconst (M := mL_law) (dL_law_1019) (by decide) k
theorem dL_law_1020 : decode cL_law 1020 = .ok (.laload, 1) := by decide +kernel
theorem sL_law_1020 {a n : Nat} {f : Nat → Int64} {i : Int32} (hP : P.1 a = some (xJ n f)) (hi : vp_in i n) (k : X w mL_law d Q 1021 ls (.long (f i.toNatClampNeg) :: st) P) : X w mL_law d Q 1020 ls (.int i :: .ref a :: st) P := X_lald (M := mL_law) (dL_law_1020) hP hi k
theorem dL_law_1021 : decode cL_law 1021 = .ok (.iload 6, 2) := by decide +kernel
theorem sL_law_1021 {l0 l1 l2 l3 l4 l5 l7 : Option Value} {x : Int32} (k : X w mL_law d Q 1023 [l0, l1, l2, l3, l4, l5, some (.int x), l7] (.int x :: st) P) : X w mL_law d Q 1021 [l0, l1, l2, l3, l4, l5, some (.int x), l7] st P := X_iload (M := mL_law) (dL_law_1021) rfl k
theorem dL_law_1023 : decode cL_law 1023 = .ok (.i2l, 1) := by decide +kernel
theorem sL_law_1023 {x : Int32} (k : X w mL_law d Q 1024 ls (.long x.toInt64 :: st) P) : X w mL_law d Q 1023 ls (.int x :: st) P := X_i2l (M := mL_law) (dL_law_1023) k
theorem dL_law_1024 : decode cL_law 1024 = .ok (.lcmp, 1) := by decide +kernel
theorem sL_law_1024 {x y : Int64} (k : X w mL_law d Q 1025 ls (.int (lg_cmp x y) :: st) P) : X w mL_law d Q 1024 ls (.long y :: .long x :: st) P := X_lcmp (M := mL_law) (dL_law_1024) k
theorem dL_law_1025 : decode cL_law 1025 = .ok (.ifCond .eq 5, 3) := by decide +kernel
theorem sL_law_1025 {x : Int32} (kt : x = 0 → X w mL_law d Q 1030 ls st P) (kf : ¬ x = 0 → X w mL_law d Q 1028 ls st P) : X w mL_law d Q 1025 ls (.int x :: st) P := X_if_eq (M := mL_law) (dL_law_1025) (by decide) kt kf
theorem dL_law_1028 : decode cL_law 1028 = .ok (.iconst 0, 1) := by decide +kernel
theorem sL_law_1028 (k : X w mL_law d Q 1029 ls (.int (0 : Int32) :: st) P) : X w mL_law d Q 1028 ls st P := X_iconst (M := mL_law) (dL_law_1028) (by decide) k
theorem dL_law_1029 : decode cL_law 1029 = .ok (.ireturn, 1) := by decide +kernel
theorem sL_law_1029 {v : Int32} (hb : v = 0 ∨ v = 1) (hq : Q (.returned (some (.int v))) P) : X w mL_law d Q 1029 ls [.int v] P := X_zret (M := mL_law) (ty := .boolean) (dL_law_1029) rfl (xz_n hb) hq
theorem dL_law_1030 : decode cL_law 1030 = .ok (.goto 59, 3) := by decide +kernel
theorem sL_law_1030 (k : X w mL_law d Q 1089 ls st P) : X w mL_law d Q 1030 ls st P := X_goto (M := mL_law) (dL_law_1030) (by decide) k
theorem dL_law_1033 : decode cL_law 1033 = .ok (.aload_n 1, 1) := by decide +kernel
theorem sL_law_1033 {l0 l2 l3 l4 l5 l6 l7 : Option Value} {x : Nat} (k : X w mL_law d Q 1034 [l0, some (.ref x), l2, l3, l4, l5, l6, l7] (.ref x :: st) P) : X w mL_law d Q 1033 [l0, some (.ref x), l2, l3, l4, l5, l6, l7] st P := X_aload_n (M := mL_law) (dL_law_1033) rfl rfl k
theorem dL_law_1034 : decode cL_law 1034 = .ok (.aload_n 0, 1) := by decide +kernel
theorem sL_law_1034 {l1 l2 l3 l4 l5 l6 l7 : Option Value} {x : Nat} (k : X w mL_law d Q 1035 [some (.ref x), l1, l2, l3, l4, l5, l6, l7] (.ref x :: st) P) : X w mL_law d Q 1034 [some (.ref x), l1, l2, l3, l4, l5, l6, l7] st P := X_aload_n (M := mL_law) (dL_law_1034) rfl rfl k
theorem dL_law_1035 : decode cL_law 1035 = .ok (.iload 4, 2) := by decide +kernel
theorem sL_law_1035 {l0 l1 l2 l3 l5 l6 l7 : Option Value} {x : Int32} (k : X w mL_law d Q 1037 [l0, l1, l2, l3, some (.int x), l5, l6, l7] (.int x :: st) P) : X w mL_law d Q 1035 [l0, l1, l2, l3, some (.int x), l5, l6, l7] st P := X_iload (M := mL_law) (dL_law_1035) rfl k
theorem dL_law_1037 : decode cL_law 1037 = .ok (.iconst 1, 1) := by decide +kernel
theorem sL_law_1037 (k : X w mL_law d Q 1038 ls (.int (1 : Int32) :: st) P) : X w mL_law d Q 1037 ls st P := X_iconst (M := mL_law) (dL_law_1037) (by decide) k
theorem dL_law_1038 : decode cL_law 1038 = .ok (.iadd, 1) := by decide +kernel
theorem sL_law_1038 {x y : Int32} (k : X w mL_law d Q 1039 ls (.int (x + y) :: st) P) : X w mL_law d Q 1038 ls (.int y :: .int x :: st) P := X_iadd (M := mL_law) (dL_law_1038) k
theorem dL_law_1039 : decode cL_law 1039 = .ok (.iaload, 1) := by decide +kernel
theorem sL_law_1039 {a n : Nat} {f : Nat → Int32} {i : Int32} (hP : P.1 a = some (xA 0 n f)) (hi : vp_in i n) (k : X w mL_law d Q 1040 ls (.int (f i.toNatClampNeg) :: st) P) : X w mL_law d Q 1039 ls (.int i :: .ref a :: st) P := X_iald (M := mL_law) (dL_law_1039) hP hi k
theorem dL_law_1040 : decode cL_law 1040 = .ok (.aload_n 3, 1) := by decide +kernel
theorem sL_law_1040 {l0 l1 l2 l4 l5 l6 l7 : Option Value} {x : Nat} (k : X w mL_law d Q 1041 [l0, l1, l2, some (.ref x), l4, l5, l6, l7] (.ref x :: st) P) : X w mL_law d Q 1040 [l0, l1, l2, some (.ref x), l4, l5, l6, l7] st P := X_aload_n (M := mL_law) (dL_law_1040) rfl rfl k
theorem dL_law_1041 : decode cL_law 1041 = .ok (.invokestatic 114, 3) := by decide +kernel
theorem sL_law_1041_g {a0 : Nat} {a1 : Int32} {a2 : Nat} {Qc : Outcome → xH → Prop} (hst : (st.map fun v => v.category).sum ≤ 8) (hC : xC w d mL_count [.ref a0, .int a1, .ref a2] P Qc) (kr : ∀ v P1, Qc (.returned v) P1 → X w mL_law (d + 1) Q 1044 ls (v.toList ++ st) P1) (kt : ∀ q P1, Qc (.threw q) P1 → Xt w mL_law (d + 1) Q 1041 ls st P1 q) : X w mL_law (d + 1) Q 1041 ls (.ref a2 :: .int a1 :: .ref a0 :: st) P := X_callS (M := mL_law) (MC := mL_count) (As := [.ref a0, .int a1, .ref a2]) (dL_law_1041) calL_count xw_687 xw_688 rfl hC hst kr kt
theorem sL_law_1041 {a0 : Nat} {a1 : Int32} {a2 : Nat} {r : Int32} {P1 : xH} (hst : (st.map fun v => v.category).sum ≤ 8) (hC : xC w d mL_count [.ref a0, .int a1, .ref a2] P (xRet (some (.int r)) P1)) (k : X w mL_law (d + 1) Q 1044 ls (.int r :: st) P1) : X w mL_law (d + 1) Q 1041 ls (.ref a2 :: .int a1 :: .ref a0 :: st) P := X_callS (M := mL_law) (MC := mL_count) (As := [.ref a0, .int a1, .ref a2]) (dL_law_1041) calL_count xw_687 xw_688 rfl hC hst (fun v P2 h => by obtain ⟨h1, rfl⟩ := h; cases h1; exact k) (fun q P2 h => by cases h.1)
theorem sL_law_1041_r {a0 : Nat} {a1 : Int32} {a2 : Nat} {r : Int32} {Rp : xH → Prop} (hst : (st.map fun v => v.category).sum ≤ 8) (hC : xC w d mL_count [.ref a0, .int a1, .ref a2] P (xRl (some (.int r)) Rp)) (k : ∀ P1, Rp P1 → X w mL_law (d + 1) Q 1044 ls (.int r :: st) P1) : X w mL_law (d + 1) Q 1041 ls (.ref a2 :: .int a1 :: .ref a0 :: st) P := X_callS (M := mL_law) (MC := mL_count) (As := [.ref a0, .int a1, .ref a2]) (dL_law_1041) calL_count xw_687 xw_688 rfl hC hst (fun v P2 h => by obtain ⟨h1, hR⟩ := h; cases h1; exact k P2 hR) (fun q P2 h => by cases h.1)
theorem sL_law_1041_t {a0 : Nat} {a1 : Int32} {a2 : Nat} {q : Nat} {P1 : xH} (hst : (st.map fun v => v.category).sum ≤ 8) (hC : xC w d mL_count [.ref a0, .int a1, .ref a2] P (xThr q P1)) (hq : Q (.threw q) P1) : X w mL_law (d + 1) Q 1041 ls (.ref a2 :: .int a1 :: .ref a0 :: st) P := X_callS (M := mL_law) (MC := mL_count) (As := [.ref a0, .int a1, .ref a2]) (dL_law_1041) calL_count xw_687 xw_688 rfl hC hst (fun v P2 h => by cases h.1) (fun q2 P2 h => by obtain ⟨h1, rfl⟩ := h; cases h1; exact Xt_out rfl hq)
theorem dL_law_1044 : decode cL_law 1044 = .ok (.istore 5, 2) := by decide +kernel
theorem sL_law_1044 {l0 l1 l2 l3 l4 l5 l6 l7 : Option Value} {x : Int32} (hn : xnl l4 = true) (k : X w mL_law d Q 1046 [l0, l1, l2, l3, l4, some (.int x), l6, l7] st P) : X w mL_law d Q 1044 [l0, l1, l2, l3, l4, l5, l6, l7] (.int x :: st) P := X_istore (M := mL_law) (dL_law_1044) (by decide) rfl (xnl_p (ls := [l0, l1, l2, l3, l4, l5, l6, l7]) (j := 4) rfl hn) k
theorem dL_law_1046 : decode cL_law 1046 = .ok (.aload_n 2, 1) := by decide +kernel
theorem sL_law_1046 {l0 l1 l3 l4 l5 l6 l7 : Option Value} {x : Nat} (k : X w mL_law d Q 1047 [l0, l1, some (.ref x), l3, l4, l5, l6, l7] (.ref x :: st) P) : X w mL_law d Q 1046 [l0, l1, some (.ref x), l3, l4, l5, l6, l7] st P := X_aload_n (M := mL_law) (dL_law_1046) rfl rfl k
theorem dL_law_1047 : decode cL_law 1047 = .ok (.aload_n 0, 1) := by decide +kernel
theorem sL_law_1047 {l1 l2 l3 l4 l5 l6 l7 : Option Value} {x : Nat} (k : X w mL_law d Q 1048 [some (.ref x), l1, l2, l3, l4, l5, l6, l7] (.ref x :: st) P) : X w mL_law d Q 1047 [some (.ref x), l1, l2, l3, l4, l5, l6, l7] st P := X_aload_n (M := mL_law) (dL_law_1047) rfl rfl k
theorem dL_law_1048 : decode cL_law 1048 = .ok (.iload 4, 2) := by decide +kernel
theorem sL_law_1048 {l0 l1 l2 l3 l5 l6 l7 : Option Value} {x : Int32} (k : X w mL_law d Q 1050 [l0, l1, l2, l3, some (.int x), l5, l6, l7] (.int x :: st) P) : X w mL_law d Q 1048 [l0, l1, l2, l3, some (.int x), l5, l6, l7] st P := X_iload (M := mL_law) (dL_law_1048) rfl k
theorem dL_law_1050 : decode cL_law 1050 = .ok (.iconst 1, 1) := by decide +kernel
theorem sL_law_1050 (k : X w mL_law d Q 1051 ls (.int (1 : Int32) :: st) P) : X w mL_law d Q 1050 ls st P := X_iconst (M := mL_law) (dL_law_1050) (by decide) k
theorem dL_law_1051 : decode cL_law 1051 = .ok (.iadd, 1) := by decide +kernel
theorem sL_law_1051 {x y : Int32} (k : X w mL_law d Q 1052 ls (.int (x + y) :: st) P) : X w mL_law d Q 1051 ls (.int y :: .int x :: st) P := X_iadd (M := mL_law) (dL_law_1051) k
theorem dL_law_1052 : decode cL_law 1052 = .ok (.iaload, 1) := by decide +kernel
theorem sL_law_1052 {a n : Nat} {f : Nat → Int32} {i : Int32} (hP : P.1 a = some (xA 0 n f)) (hi : vp_in i n) (k : X w mL_law d Q 1053 ls (.int (f i.toNatClampNeg) :: st) P) : X w mL_law d Q 1052 ls (.int i :: .ref a :: st) P := X_iald (M := mL_law) (dL_law_1052) hP hi k
theorem dL_law_1053 : decode cL_law 1053 = .ok (.invokevirtual 117, 3) := by decide +kernel
theorem sL_law_1053_g {b : Nat} {fs : List Value} {a0 : Int32} {Qc : Outcome → xH → Prop} (hst : (st.map fun v => v.category).sum ≤ 8) (hP : P.1 b = some (xO 9 fs)) (hC : xC w d mX11_count [.ref b, .int a0] P Qc) (kr : ∀ v P1, Qc (.returned v) P1 → X w mL_law (d + 1) Q 1056 ls (v.toList ++ st) P1) (kt : ∀ q P1, Qc (.threw q) P1 → Xt w mL_law (d + 1) Q 1053 ls st P1 q) : X w mL_law (d + 1) Q 1053 ls (.int a0 :: .ref b :: st) P := X_callV (M := mL_law) (MC := mX11_count) (As := [.int a0]) (T := TX11) (dL_law_1053) calX11_count xw_689 xw_690 xw_691 rfl rfl hP hC hst kr kt
theorem sL_law_1053 {b : Nat} {fs : List Value} {a0 : Int32} {r : Int32} {P1 : xH} (hst : (st.map fun v => v.category).sum ≤ 8) (hP : P.1 b = some (xO 9 fs)) (hC : xC w d mX11_count [.ref b, .int a0] P (xRet (some (.int r)) P1)) (k : X w mL_law (d + 1) Q 1056 ls (.int r :: st) P1) : X w mL_law (d + 1) Q 1053 ls (.int a0 :: .ref b :: st) P := X_callV (M := mL_law) (MC := mX11_count) (As := [.int a0]) (T := TX11) (dL_law_1053) calX11_count xw_689 xw_690 xw_691 rfl rfl hP hC hst (fun v P2 h => by obtain ⟨h1, rfl⟩ := h; cases h1; exact k) (fun q P2 h => by cases h.1)
theorem sL_law_1053_r {b : Nat} {fs : List Value} {a0 : Int32} {r : Int32} {Rp : xH → Prop} (hst : (st.map fun v => v.category).sum ≤ 8) (hP : P.1 b = some (xO 9 fs)) (hC : xC w d mX11_count [.ref b, .int a0] P (xRl (some (.int r)) Rp)) (k : ∀ P1, Rp P1 → X w mL_law (d + 1) Q 1056 ls (.int r :: st) P1) : X w mL_law (d + 1) Q 1053 ls (.int a0 :: .ref b :: st) P := X_callV (M := mL_law) (MC := mX11_count) (As := [.int a0]) (T := TX11) (dL_law_1053) calX11_count xw_689 xw_690 xw_691 rfl rfl hP hC hst (fun v P2 h => by obtain ⟨h1, hR⟩ := h; cases h1; exact k P2 hR) (fun q P2 h => by cases h.1)
theorem sL_law_1053_t {b : Nat} {fs : List Value} {a0 : Int32} {q : Nat} {P1 : xH} (hst : (st.map fun v => v.category).sum ≤ 8) (hP : P.1 b = some (xO 9 fs)) (hC : xC w d mX11_count [.ref b, .int a0] P (xThr q P1)) (hq : Q (.threw q) P1) : X w mL_law (d + 1) Q 1053 ls (.int a0 :: .ref b :: st) P := X_callV (M := mL_law) (MC := mX11_count) (As := [.int a0]) (T := TX11) (dL_law_1053) calX11_count xw_689 xw_690 xw_691 rfl rfl hP hC hst (fun v P2 h => by cases h.1) (fun q2 P2 h => by obtain ⟨h1, rfl⟩ := h; cases h1; exact Xt_out rfl hq)
theorem dL_law_1056 : decode cL_law 1056 = .ok (.istore 6, 2) := by decide +kernel
theorem sL_law_1056 {l0 l1 l2 l3 l4 l5 l6 l7 : Option Value} {x : Int32} (hn : xnl l5 = true) (k : X w mL_law d Q 1058 [l0, l1, l2, l3, l4, l5, some (.int x), l7] st P) : X w mL_law d Q 1056 [l0, l1, l2, l3, l4, l5, l6, l7] (.int x :: st) P := X_istore (M := mL_law) (dL_law_1056) (by decide) rfl (xnl_p (ls := [l0, l1, l2, l3, l4, l5, l6, l7]) (j := 5) rfl hn) k
theorem dL_law_1058 : decode cL_law 1058 = .ok (.aload_n 2, 1) := by decide +kernel
theorem sL_law_1058 {l0 l1 l3 l4 l5 l6 l7 : Option Value} {x : Nat} (k : X w mL_law d Q 1059 [l0, l1, some (.ref x), l3, l4, l5, l6, l7] (.ref x :: st) P) : X w mL_law d Q 1058 [l0, l1, some (.ref x), l3, l4, l5, l6, l7] st P := X_aload_n (M := mL_law) (dL_law_1058) rfl rfl k
theorem dL_law_1059 : decode cL_law 1059 = .ok (.invokevirtual 79, 3) := by decide +kernel
theorem sL_law_1059_g {b : Nat} {fs : List Value}  {Qc : Outcome → xH → Prop} (hst : (st.map fun v => v.category).sum ≤ 8) (hP : P.1 b = some (xO 9 fs)) (hC : xC w d mX11_thrown [.ref b] P Qc) (kr : ∀ v P1, Qc (.returned v) P1 → X w mL_law (d + 1) Q 1062 ls (v.toList ++ st) P1) (kt : ∀ q P1, Qc (.threw q) P1 → Xt w mL_law (d + 1) Q 1059 ls st P1 q) : X w mL_law (d + 1) Q 1059 ls (.ref b :: st) P := X_callV (M := mL_law) (MC := mX11_thrown) (As := []) (T := TX11) (dL_law_1059) calX11_thrown xw_634 xw_635 xw_636 rfl rfl hP hC hst kr kt
theorem sL_law_1059 {b : Nat} {fs : List Value}  {r : Int32} {P1 : xH} (hst : (st.map fun v => v.category).sum ≤ 8) (hP : P.1 b = some (xO 9 fs)) (hC : xC w d mX11_thrown [.ref b] P (xRet (some (.int r)) P1)) (k : X w mL_law (d + 1) Q 1062 ls (.int r :: st) P1) : X w mL_law (d + 1) Q 1059 ls (.ref b :: st) P := X_callV (M := mL_law) (MC := mX11_thrown) (As := []) (T := TX11) (dL_law_1059) calX11_thrown xw_634 xw_635 xw_636 rfl rfl hP hC hst (fun v P2 h => by obtain ⟨h1, rfl⟩ := h; cases h1; exact k) (fun q P2 h => by cases h.1)
theorem sL_law_1059_r {b : Nat} {fs : List Value}  {r : Int32} {Rp : xH → Prop} (hst : (st.map fun v => v.category).sum ≤ 8) (hP : P.1 b = some (xO 9 fs)) (hC : xC w d mX11_thrown [.ref b] P (xRl (some (.int r)) Rp)) (k : ∀ P1, Rp P1 → X w mL_law (d + 1) Q 1062 ls (.int r :: st) P1) : X w mL_law (d + 1) Q 1059 ls (.ref b :: st) P := X_callV (M := mL_law) (MC := mX11_thrown) (As := []) (T := TX11) (dL_law_1059) calX11_thrown xw_634 xw_635 xw_636 rfl rfl hP hC hst (fun v P2 h => by obtain ⟨h1, hR⟩ := h; cases h1; exact k P2 hR) (fun q P2 h => by cases h.1)
theorem sL_law_1059_t {b : Nat} {fs : List Value}  {q : Nat} {P1 : xH} (hst : (st.map fun v => v.category).sum ≤ 8) (hP : P.1 b = some (xO 9 fs)) (hC : xC w d mX11_thrown [.ref b] P (xThr q P1)) (hq : Q (.threw q) P1) : X w mL_law (d + 1) Q 1059 ls (.ref b :: st) P := X_callV (M := mL_law) (MC := mX11_thrown) (As := []) (T := TX11) (dL_law_1059) calX11_thrown xw_634 xw_635 xw_636 rfl rfl hP hC hst (fun v P2 h => by cases h.1) (fun q2 P2 h => by obtain ⟨h1, rfl⟩ := h; cases h1; exact Xt_out rfl hq)
theorem dL_law_1062 : decode cL_law 1062 = .ok (.iload 5, 2) := by decide +kernel
theorem sL_law_1062 {l0 l1 l2 l3 l4 l6 l7 : Option Value} {x : Int32} (k : X w mL_law d Q 1064 [l0, l1, l2, l3, l4, some (.int x), l6, l7] (.int x :: st) P) : X w mL_law d Q 1062 [l0, l1, l2, l3, l4, some (.int x), l6, l7] st P := X_iload (M := mL_law) (dL_law_1062) rfl k
theorem dL_law_1064 : decode cL_law 1064 = .ok (.if_icmp .eq 5, 3) := by decide +kernel
theorem sL_law_1064 {x y : Int32} (kt : x = y → X w mL_law d Q 1069 ls st P) (kf : ¬ x = y → X w mL_law d Q 1067 ls st P) : X w mL_law d Q 1064 ls (.int y :: .int x :: st) P := X_icmp_eq (M := mL_law) (dL_law_1064) (by decide) kt kf
theorem dL_law_1067 : decode cL_law 1067 = .ok (.iconst 0, 1) := by decide +kernel
theorem sL_law_1067 (k : X w mL_law d Q 1068 ls (.int (0 : Int32) :: st) P) : X w mL_law d Q 1067 ls st P := X_iconst (M := mL_law) (dL_law_1067) (by decide) k
theorem dL_law_1068 : decode cL_law 1068 = .ok (.ireturn, 1) := by decide +kernel
theorem sL_law_1068 {v : Int32} (hb : v = 0 ∨ v = 1) (hq : Q (.returned (some (.int v))) P) : X w mL_law d Q 1068 ls [.int v] P := X_zret (M := mL_law) (ty := .boolean) (dL_law_1068) rfl (xz_n hb) hq
theorem dL_law_1069 : decode cL_law 1069 = .ok (.iload 5, 2) := by decide +kernel
theorem sL_law_1069 {l0 l1 l2 l3 l4 l6 l7 : Option Value} {x : Int32} (k : X w mL_law d Q 1071 [l0, l1, l2, l3, l4, some (.int x), l6, l7] (.int x :: st) P) : X w mL_law d Q 1069 [l0, l1, l2, l3, l4, some (.int x), l6, l7] st P := X_iload (M := mL_law) (dL_law_1069) rfl k
theorem dL_law_1071 : decode cL_law 1071 = .ok (.ifCond .ne 15, 3) := by decide +kernel
theorem sL_law_1071 {x : Int32} (kt : ¬ x = 0 → X w mL_law d Q 1086 ls st P) (kf : x = 0 → X w mL_law d Q 1074 ls st P) : X w mL_law d Q 1071 ls (.int x :: st) P := X_if_ne (M := mL_law) (dL_law_1071) (by decide) kt kf
theorem dL_law_1074 : decode cL_law 1074 = .ok (.aload_n 3, 1) := by decide +kernel
theorem sL_law_1074 {l0 l1 l2 l4 l5 l6 l7 : Option Value} {x : Nat} (k : X w mL_law d Q 1075 [l0, l1, l2, some (.ref x), l4, l5, l6, l7] (.ref x :: st) P) : X w mL_law d Q 1074 [l0, l1, l2, some (.ref x), l4, l5, l6, l7] st P := X_aload_n (M := mL_law) (dL_law_1074) rfl rfl k
theorem dL_law_1075 : decode cL_law 1075 = .ok (.iconst 0, 1) := by decide +kernel
theorem sL_law_1075 (k : X w mL_law d Q 1076 ls (.int (0 : Int32) :: st) P) : X w mL_law d Q 1075 ls st P := X_iconst (M := mL_law) (dL_law_1075) (by decide) k
theorem dL_law_1076 : decode cL_law 1076 = .ok (.laload, 1) := by decide +kernel
theorem sL_law_1076 {a n : Nat} {f : Nat → Int64} {i : Int32} (hP : P.1 a = some (xJ n f)) (hi : vp_in i n) (k : X w mL_law d Q 1077 ls (.long (f i.toNatClampNeg) :: st) P) : X w mL_law d Q 1076 ls (.int i :: .ref a :: st) P := X_lald (M := mL_law) (dL_law_1076) hP hi k
theorem dL_law_1077 : decode cL_law 1077 = .ok (.iload 6, 2) := by decide +kernel
theorem sL_law_1077 {l0 l1 l2 l3 l4 l5 l7 : Option Value} {x : Int32} (k : X w mL_law d Q 1079 [l0, l1, l2, l3, l4, l5, some (.int x), l7] (.int x :: st) P) : X w mL_law d Q 1077 [l0, l1, l2, l3, l4, l5, some (.int x), l7] st P := X_iload (M := mL_law) (dL_law_1077) rfl k
theorem dL_law_1079 : decode cL_law 1079 = .ok (.i2l, 1) := by decide +kernel
theorem sL_law_1079 {x : Int32} (k : X w mL_law d Q 1080 ls (.long x.toInt64 :: st) P) : X w mL_law d Q 1079 ls (.int x :: st) P := X_i2l (M := mL_law) (dL_law_1079) k
theorem dL_law_1080 : decode cL_law 1080 = .ok (.lcmp, 1) := by decide +kernel
theorem sL_law_1080 {x y : Int64} (k : X w mL_law d Q 1081 ls (.int (lg_cmp x y) :: st) P) : X w mL_law d Q 1080 ls (.long y :: .long x :: st) P := X_lcmp (M := mL_law) (dL_law_1080) k
theorem dL_law_1081 : decode cL_law 1081 = .ok (.ifCond .eq 5, 3) := by decide +kernel
theorem sL_law_1081 {x : Int32} (kt : x = 0 → X w mL_law d Q 1086 ls st P) (kf : ¬ x = 0 → X w mL_law d Q 1084 ls st P) : X w mL_law d Q 1081 ls (.int x :: st) P := X_if_eq (M := mL_law) (dL_law_1081) (by decide) kt kf
theorem dL_law_1084 : decode cL_law 1084 = .ok (.iconst 0, 1) := by decide +kernel
theorem sL_law_1084 (k : X w mL_law d Q 1085 ls (.int (0 : Int32) :: st) P) : X w mL_law d Q 1084 ls st P := X_iconst (M := mL_law) (dL_law_1084) (by decide) k
theorem dL_law_1085 : decode cL_law 1085 = .ok (.ireturn, 1) := by decide +kernel
theorem sL_law_1085 {v : Int32} (hb : v = 0 ∨ v = 1) (hq : Q (.returned (some (.int v))) P) : X w mL_law d Q 1085 ls [.int v] P := X_zret (M := mL_law) (ty := .boolean) (dL_law_1085) rfl (xz_n hb) hq
theorem dL_law_1086 : decode cL_law 1086 = .ok (.goto 3, 3) := by decide +kernel
theorem sL_law_1086 (k : X w mL_law d Q 1089 ls st P) : X w mL_law d Q 1086 ls st P := X_goto (M := mL_law) (dL_law_1086) (by decide) k
theorem dL_law_1089 : decode cL_law 1089 = .ok (.iinc 4 6, 3) := by decide +kernel
theorem sL_law_1089 {l0 l1 l2 l3 l5 l6 l7 : Option Value} {x : Int32} (hn : xnl l3 = true) (k : X w mL_law d Q 1092 [l0, l1, l2, l3, some (.int (x + (6 : Int32))), l5, l6, l7] st P) : X w mL_law d Q 1089 [l0, l1, l2, l3, some (.int x), l5, l6, l7] st P := X_iinc (M := mL_law) (dL_law_1089) rfl (by rfl) (by decide) rfl (xnl_p (ls := [l0, l1, l2, l3, some (.int x), l5, l6, l7]) (j := 3) rfl hn) k
theorem dL_law_1092 : decode cL_law 1092 = .ok (.goto (-1069), 3) := by decide +kernel
theorem sL_law_1092 (k : X w mL_law d Q 23 ls st P) : X w mL_law d Q 1092 ls st P := X_goto (M := mL_law) (dL_law_1092) (by decide) k
theorem dL_law_1095 : decode cL_law 1095 = .ok (.iconst 1, 1) := by decide +kernel
theorem sL_law_1095 (k : X w mL_law d Q 1096 ls (.int (1 : Int32) :: st) P) : X w mL_law d Q 1095 ls st P := X_iconst (M := mL_law) (dL_law_1095) (by decide) k
theorem dL_law_1096 : decode cL_law 1096 = .ok (.ireturn, 1) := by decide +kernel
theorem sL_law_1096 {v : Int32} (hb : v = 0 ∨ v = 1) (hq : Q (.returned (some (.int v))) P) : X w mL_law d Q 1096 ls [.int v] P := X_zret (M := mL_law) (ty := .boolean) (dL_law_1096) rfl (xz_n hb) hq
end
