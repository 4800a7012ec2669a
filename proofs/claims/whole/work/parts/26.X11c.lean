section
variable {w : xWd} {d : Nat} {Q : Outcome → xH → Prop} {ls : List (Option Value)} {st : List Value} {P : xH}
theorem dX11_readOutput_0 : decode cX11_readOutput 0 = .ok (.aload_n 0, 1) := by decide +kernel
theorem sX11_readOutput_0 {l1 : Option Value} {x : Nat} (k : X w mX11_readOutput d Q 1 [some (.ref x), l1] (.ref x :: st) P) : X w mX11_readOutput d Q 0 [some (.ref x), l1] st P := X_aload_n (M := mX11_readOutput) (dX11_readOutput_0) rfl rfl k
theorem dX11_readOutput_1 : decode cX11_readOutput 1 = .ok (.invokevirtual 131, 3) := by decide +kernel
theorem sX11_readOutput_1_g {b : Nat} {fs : List Value}  {Qc : Outcome → xH → Prop} (hst : (st.map fun v => v.category).sum ≤ 8) (hP : P.1 b = some (xO 9 fs)) (hC : xC w d mX11_go [.ref b] P Qc) (kr : ∀ v P1, Qc (.returned v) P1 → X w mX11_readOutput (d + 1) Q 4 ls (v.toList ++ st) P1) (kt : ∀ q P1, Qc (.threw q) P1 → Xt w mX11_readOutput (d + 1) Q 1 ls st P1 q) : X w mX11_readOutput (d + 1) Q 1 ls (.ref b :: st) P := X_callV (M := mX11_readOutput) (MC := mX11_go) (As := []) (T := TX11) (dX11_readOutput_1) calX11_go xw_451 xw_452 xw_453 rfl rfl hP hC hst kr kt
theorem sX11_readOutput_1 {b : Nat} {fs : List Value}  {P1 : xH} (hst : (st.map fun v => v.category).sum ≤ 8) (hP : P.1 b = some (xO 9 fs)) (hC : xC w d mX11_go [.ref b] P (xRet none P1)) (k : X w mX11_readOutput (d + 1) Q 4 ls st P1) : X w mX11_readOutput (d + 1) Q 1 ls (.ref b :: st) P := X_callV (M := mX11_readOutput) (MC := mX11_go) (As := []) (T := TX11) (dX11_readOutput_1) calX11_go xw_451 xw_452 xw_453 rfl rfl hP hC hst (fun v P2 h => by obtain ⟨h1, rfl⟩ := h; cases h1; exact k) (fun q P2 h => by cases h.1)
theorem sX11_readOutput_1_r {b : Nat} {fs : List Value}  {Rp : xH → Prop} (hst : (st.map fun v => v.category).sum ≤ 8) (hP : P.1 b = some (xO 9 fs)) (hC : xC w d mX11_go [.ref b] P (xRl none Rp)) (k : ∀ P1, Rp P1 → X w mX11_readOutput (d + 1) Q 4 ls st P1) : X w mX11_readOutput (d + 1) Q 1 ls (.ref b :: st) P := X_callV (M := mX11_readOutput) (MC := mX11_go) (As := []) (T := TX11) (dX11_readOutput_1) calX11_go xw_451 xw_452 xw_453 rfl rfl hP hC hst (fun v P2 h => by obtain ⟨h1, hR⟩ := h; cases h1; exact k P2 hR) (fun q P2 h => by cases h.1)
theorem sX11_readOutput_1_t {b : Nat} {fs : List Value}  {q : Nat} {P1 : xH} (hst : (st.map fun v => v.category).sum ≤ 8) (hP : P.1 b = some (xO 9 fs)) (hC : xC w d mX11_go [.ref b] P (xThr q P1)) (hq : Q (.threw q) P1) : X w mX11_readOutput (d + 1) Q 1 ls (.ref b :: st) P := X_callV (M := mX11_readOutput) (MC := mX11_go) (As := []) (T := TX11) (dX11_readOutput_1) calX11_go xw_451 xw_452 xw_453 rfl rfl hP hC hst (fun v P2 h => by cases h.1) (fun q2 P2 h => by obtain ⟨h1, rfl⟩ := h; cases h1; exact Xt_out rfl hq)
theorem dX11_readOutput_4 : decode cX11_readOutput 4 = .ok (.aload_n 0, 1) := by decide +kernel
theorem sX11_readOutput_4 {l1 : Option Value} {x : Nat} (k : X w mX11_readOutput d Q 5 [some (.ref x), l1] (.ref x :: st) P) : X w mX11_readOutput d Q 4 [some (.ref x), l1] st P := X_aload_n (M := mX11_readOutput) (dX11_readOutput_4) rfl rfl k
theorem dX11_readOutput_5 : decode cX11_readOutput 5 = .ok (.aload_n 0, 1) := by decide +kernel
theorem sX11_readOutput_5 {l1 : Option Value} {x : Nat} (k : X w mX11_readOutput d Q 6 [some (.ref x), l1] (.ref x :: st) P) : X w mX11_readOutput d Q 5 [some (.ref x), l1] st P := X_aload_n (M := mX11_readOutput) (dX11_readOutput_5) rfl rfl k
theorem dX11_readOutput_6 : decode cX11_readOutput 6 = .ok (.getfield 108, 3) := by decide +kernel
theorem sX11_readOutput_6 {a : Nat} {fs : List Value} {v : Int32} (hP : P.1 a = some (xO 9 fs)) (hv : fs[25]? = some (.int v)) (k : X w mX11_readOutput d Q 9 ls (.int v :: st) P) : X w mX11_readOutput d Q 6 ls (.ref a :: st) P := X_get (M := mX11_readOutput) (j := 25) (T := TX11) (dX11_readOutput_6) rfl (by decide) x_in11 xw_436 hP hv k
theorem dX11_readOutput_9 : decode cX11_readOutput 9 = .ok (.iconst 1, 1) := by decide +kernel
theorem sX11_readOutput_9 (k : X w mX11_readOutput d Q 10 ls (.int (1 : Int32) :: st) P) : X w mX11_readOutput d Q 9 ls st P := X_iconst (M := mX11_readOutput) (dX11_readOutput_9) (by decide) k
theorem dX11_readOutput_10 : decode cX11_readOutput 10 = .ok (.if_icmp .ne 27, 3) := by decide +kernel
theorem sX11_readOutput_10 {x y : Int32} (kt : ¬ x = y → X w mX11_readOutput d Q 37 ls st P) (kf : x = y → X w mX11_readOutput d Q 13 ls st P) : X w mX11_readOutput d Q 10 ls (.int y :: .int x :: st) P := X_icmp_ne (M := mX11_readOutput) (dX11_readOutput_10) (by decide) kt kf
theorem dX11_readOutput_13 : decode cX11_readOutput 13 = .ok (.aload_n 0, 1) := by decide +kernel
theorem sX11_readOutput_13 {l1 : Option Value} {x : Nat} (k : X w mX11_readOutput d Q 14 [some (.ref x), l1] (.ref x :: st) P) : X w mX11_readOutput d Q 13 [some (.ref x), l1] st P := X_aload_n (M := mX11_readOutput) (dX11_readOutput_13) rfl rfl k
theorem dX11_readOutput_14 : decode cX11_readOutput 14 = .ok (.invokevirtual 186, 3) := by decide +kernel
theorem sX11_readOutput_14_g {b : Nat} {fs : List Value}  {Qc : Outcome → xH → Prop} (hst : (st.map fun v => v.category).sum ≤ 8) (hP : P.1 b = some (xO 9 fs)) (hC : xC w d mX11_isPin [.ref b] P Qc) (kr : ∀ v P1, Qc (.returned v) P1 → X w mX11_readOutput (d + 1) Q 17 ls (v.toList ++ st) P1) (kt : ∀ q P1, Qc (.threw q) P1 → Xt w mX11_readOutput (d + 1) Q 14 ls st P1 q) : X w mX11_readOutput (d + 1) Q 14 ls (.ref b :: st) P := X_callV (M := mX11_readOutput) (MC := mX11_isPin) (As := []) (T := TX11) (dX11_readOutput_14) calX11_isPin xw_494 xw_495 xw_496 rfl rfl hP hC hst kr kt
theorem sX11_readOutput_14 {b : Nat} {fs : List Value}  {r : Int32} {P1 : xH} (hst : (st.map fun v => v.category).sum ≤ 8) (hP : P.1 b = some (xO 9 fs)) (hC : xC w d mX11_isPin [.ref b] P (xRet (some (.int r)) P1)) (k : X w mX11_readOutput (d + 1) Q 17 ls (.int r :: st) P1) : X w mX11_readOutput (d + 1) Q 14 ls (.ref b :: st) P := X_callV (M := mX11_readOutput) (MC := mX11_isPin) (As := []) (T := TX11) (dX11_readOutput_14) calX11_isPin xw_494 xw_495 xw_496 rfl rfl hP hC hst (fun v P2 h => by obtain ⟨h1, rfl⟩ := h; cases h1; exact k) (fun q P2 h => by cases h.1)
theorem sX11_readOutput_14_r {b : Nat} {fs : List Value}  {r : Int32} {Rp : xH → Prop} (hst : (st.map fun v => v.category).sum ≤ 8) (hP : P.1 b = some (xO 9 fs)) (hC : xC w d mX11_isPin [.ref b] P (xRl (some (.int r)) Rp)) (k : ∀ P1, Rp P1 → X w mX11_readOutput (d + 1) Q 17 ls (.int r :: st) P1) : X w mX11_readOutput (d + 1) Q 14 ls (.ref b :: st) P := X_callV (M := mX11_readOutput) (MC := mX11_isPin) (As := []) (T := TX11) (dX11_readOutput_14) calX11_isPin xw_494 xw_495 xw_496 rfl rfl hP hC hst (fun v P2 h => by obtain ⟨h1, hR⟩ := h; cases h1; exact k P2 hR) (fun q P2 h => by cases h.1)
theorem sX11_readOutput_14_t {b : Nat} {fs : List Value}  {q : Nat} {P1 : xH} (hst : (st.map fun v => v.category).sum ≤ 8) (hP : P.1 b = some (xO 9 fs)) (hC : xC w d mX11_isPin [.ref b] P (xThr q P1)) (hq : Q (.threw q) P1) : X w mX11_readOutput (d + 1) Q 14 ls (.ref b :: st) P := X_callV (M := mX11_readOutput) (MC := mX11_isPin) (As := []) (T := TX11) (dX11_readOutput_14) calX11_isPin xw_494 xw_495 xw_496 rfl rfl hP hC hst (fun v P2 h => by cases h.1) (fun q2 P2 h => by obtain ⟨h1, rfl⟩ := h; cases h1; exact Xt_out rfl hq)
theorem dX11_readOutput_17 : decode cX11_readOutput 17 = .ok (.ifCond .ne 20, 3) := by decide +kernel
theorem sX11_readOutput_17 {x : Int32} (kt : ¬ x = 0 → X w mX11_readOutput d Q 37 ls st P) (kf : x = 0 → X w mX11_readOutput d Q 20 ls st P) : X w mX11_readOutput d Q 17 ls (.int x :: st) P := X_if_ne (M := mX11_readOutput) (dX11_readOutput_17) (by decide) kt kf
theorem dX11_readOutput_20 : decode cX11_readOutput 20 = .ok (.aload_n 0, 1) := by decide +kernel
theorem sX11_readOutput_20 {l1 : Option Value} {x : Nat} (k : X w mX11_readOutput d Q 21 [some (.ref x), l1] (.ref x :: st) P) : X w mX11_readOutput d Q 20 [some (.ref x), l1] st P := X_aload_n (M := mX11_readOutput) (dX11_readOutput_20) rfl rfl k
theorem dX11_readOutput_21 : decode cX11_readOutput 21 = .ok (.getfield 50, 3) := by decide +kernel
theorem sX11_readOutput_21 {a : Nat} {fs : List Value} {v : Nat} (hP : P.1 a = some (xO 9 fs)) (hv : fs[16]? = some (.ref v)) (k : X w mX11_readOutput d Q 24 ls (.ref v :: st) P) : X w mX11_readOutput d Q 21 ls (.ref a :: st) P := X_get (M := mX11_readOutput) (j := 16) (T := TX11) (dX11_readOutput_21) rfl (by decide) x_in11 xw_417 hP hv k
theorem dX11_readOutput_24 : decode cX11_readOutput 24 = .ok (.aload_n 0, 1) := by decide +kernel
theorem sX11_readOutput_24 {l1 : Option Value} {x : Nat} (k : X w mX11_readOutput d Q 25 [some (.ref x), l1] (.ref x :: st) P) : X w mX11_readOutput d Q 24 [some (.ref x), l1] st P := X_aload_n (M := mX11_readOutput) (dX11_readOutput_24) rfl rfl k
theorem dX11_readOutput_25 : decode cX11_readOutput 25 = .ok (.getfield 157, 3) := by decide +kernel
theorem sX11_readOutput_25 {a : Nat} {fs : List Value} {v : Int32} (hP : P.1 a = some (xO 9 fs)) (hv : fs[30]? = some (.int v)) (k : X w mX11_readOutput d Q 28 ls (.int v :: st) P) : X w mX11_readOutput d Q 25 ls (.ref a :: st) P := X_get (M := mX11_readOutput) (j := 30) (T := TX11) (dX11_readOutput_25) rfl (by decide) x_in11 xw_469 hP hv k
theorem dX11_readOutput_28 : decode cX11_readOutput 28 = .ok (.iaload, 1) := by decide +kernel
theorem sX11_readOutput_28 {a n : Nat} {f : Nat → Int32} {i : Int32} (hP : P.1 a = some (xA 0 n f)) (hi : vp_in i n) (k : X w mX11_readOutput d Q 29 ls (.int (f i.toNatClampNeg) :: st) P) : X w mX11_readOutput d Q 28 ls (.int i :: .ref a :: st) P := X_iald (M := mX11_readOutput) (dX11_readOutput_28) hP hi k
theorem dX11_readOutput_29 : decode cX11_readOutput 29 = .ok (.iconst 3, 1) := by decide +kernel
theorem sX11_readOutput_29 (k : X w mX11_readOutput d Q 30 ls (.int (3 : Int32) :: st) P) : X w mX11_readOutput d Q 29 ls st P := X_iconst (M := mX11_readOutput) (dX11_readOutput_29) (by decide) k
theorem dX11_readOutput_30 : decode cX11_readOutput 30 = .ok (.if_icmp .ge 7, 3) := by decide +kernel
theorem sX11_readOutput_30 {x y : Int32} (kt : y ≤ x → X w mX11_readOutput d Q 37 ls st P) (kf : ¬ y ≤ x → X w mX11_readOutput d Q 33 ls st P) : X w mX11_readOutput d Q 30 ls (.int y :: .int x :: st) P := X_icmp_ge (M := mX11_readOutput) (dX11_readOutput_30) (by decide) kt kf
theorem dX11_readOutput_33 : decode cX11_readOutput 33 = .ok (.iconst 1, 1) := by decide +kernel
theorem sX11_readOutput_33 (k : X w mX11_readOutput d Q 34 ls (.int (1 : Int32) :: st) P) : X w mX11_readOutput d Q 33 ls st P := X_iconst (M := mX11_readOutput) (dX11_readOutput_33) (by decide) k
theorem dX11_readOutput_34 : decode cX11_readOutput 34 = .ok (.goto 4, 3) := by decide +kernel
theorem sX11_readOutput_34 (k : X w mX11_readOutput d Q 38 ls st P) : X w mX11_readOutput d Q 34 ls st P := X_goto (M := mX11_readOutput) (dX11_readOutput_34) (by decide) k
theorem dX11_readOutput_37 : decode cX11_readOutput 37 = .ok (.iconst 0, 1) := by decide +kernel
theorem sX11_readOutput_37 (k : X w mX11_readOutput d Q 38 ls (.int (0 : Int32) :: st) P) : X w mX11_readOutput d Q 37 ls st P := X_iconst (M := mX11_readOutput) (dX11_readOutput_37) (by decide) k
theorem dX11_readOutput_38 : decode cX11_readOutput 38 = .ok (.invokevirtual 127, 3) := by decide +kernel
theorem sX11_readOutput_38_g {b : Nat} {fs : List Value} {a0 : Int32} {Qc : Outcome → xH → Prop} (hst : (st.map fun v => v.category).sum ≤ 8) (hP : P.1 b = some (xO 9 fs)) (hC : xC w d mX11_need [.ref b, .int a0] P Qc) (kr : ∀ v P1, Qc (.returned v) P1 → X w mX11_readOutput (d + 1) Q 41 ls (v.toList ++ st) P1) (kt : ∀ q P1, Qc (.threw q) P1 → Xt w mX11_readOutput (d + 1) Q 38 ls st P1 q) : X w mX11_readOutput (d + 1) Q 38 ls (.int a0 :: .ref b :: st) P := X_callV (M := mX11_readOutput) (MC := mX11_need) (As := [.int a0]) (T := TX11) (dX11_readOutput_38) calX11_need xw_448 xw_449 xw_450 rfl rfl hP hC hst kr kt
theorem sX11_readOutput_38 {b : Nat} {fs : List Value} {a0 : Int32} {P1 : xH} (hst : (st.map fun v => v.category).sum ≤ 8) (hP : P.1 b = some (xO 9 fs)) (hC : xC w d mX11_need [.ref b, .int a0] P (xRet none P1)) (k : X w mX11_readOutput (d + 1) Q 41 ls st P1) : X w mX11_readOutput (d + 1) Q 38 ls (.int a0 :: .ref b :: st) P := X_callV (M := mX11_readOutput) (MC := mX11_need) (As := [.int a0]) (T := TX11) (dX11_readOutput_38) calX11_need xw_448 xw_449 xw_450 rfl rfl hP hC hst (fun v P2 h => by obtain ⟨h1, rfl⟩ := h; cases h1; exact k) (fun q P2 h => by cases h.1)
theorem sX11_readOutput_38_r {b : Nat} {fs : List Value} {a0 : Int32} {Rp : xH → Prop} (hst : (st.map fun v => v.category).sum ≤ 8) (hP : P.1 b = some (xO 9 fs)) (hC : xC w d mX11_need [.ref b, .int a0] P (xRl none Rp)) (k : ∀ P1, Rp P1 → X w mX11_readOutput (d + 1) Q 41 ls st P1) : X w mX11_readOutput (d + 1) Q 38 ls (.int a0 :: .ref b :: st) P := X_callV (M := mX11_readOutput) (MC := mX11_need) (As := [.int a0]) (T := TX11) (dX11_readOutput_38) calX11_need xw_448 xw_449 xw_450 rfl rfl hP hC hst (fun v P2 h => by obtain ⟨h1, hR⟩ := h; cases h1; exact k P2 hR) (fun q P2 h => by cases h.1)
theorem sX11_readOutput_38_t {b : Nat} {fs : List Value} {a0 : Int32} {q : Nat} {P1 : xH} (hst : (st.map fun v => v.category).sum ≤ 8) (hP : P.1 b = some (xO 9 fs)) (hC : xC w d mX11_need [.ref b, .int a0] P (xThr q P1)) (hq : Q (.threw q) P1) : X w mX11_readOutput (d + 1) Q 38 ls (.int a0 :: .ref b :: st) P := X_callV (M := mX11_readOutput) (MC := mX11_need) (As := [.int a0]) (T := TX11) (dX11_readOutput_38) calX11_need xw_448 xw_449 xw_450 rfl rfl hP hC hst (fun v P2 h => by cases h.1) (fun q2 P2 h => by obtain ⟨h1, rfl⟩ := h; cases h1; exact Xt_out rfl hq)
theorem dX11_readOutput_41 : decode cX11_readOutput 41 = .ok (.aload_n 0, 1) := by decide +kernel
theorem sX11_readOutput_41 {l1 : Option Value} {x : Nat} (k : X w mX11_readOutput d Q 42 [some (.ref x), l1] (.ref x :: st) P) : X w mX11_readOutput d Q 41 [some (.ref x), l1] st P := X_aload_n (M := mX11_readOutput) (dX11_readOutput_41) rfl rfl k
theorem dX11_readOutput_42 : decode cX11_readOutput 42 = .ok (.getfield 50, 3) := by decide +kernel
theorem sX11_readOutput_42 {a : Nat} {fs : List Value} {v : Nat} (hP : P.1 a = some (xO 9 fs)) (hv : fs[16]? = some (.ref v)) (k : X w mX11_readOutput d Q 45 ls (.ref v :: st) P) : X w mX11_readOutput d Q 42 ls (.ref a :: st) P := X_get (M := mX11_readOutput) (j := 16) (T := TX11) (dX11_readOutput_42) rfl (by decide) x_in11 xw_417 hP hv k
theorem dX11_readOutput_45 : decode cX11_readOutput 45 = .ok (.aload_n 0, 1) := by decide +kernel
theorem sX11_readOutput_45 {l1 : Option Value} {x : Nat} (k : X w mX11_readOutput d Q 46 [some (.ref x), l1] (.ref x :: st) P) : X w mX11_readOutput d Q 45 [some (.ref x), l1] st P := X_aload_n (M := mX11_readOutput) (dX11_readOutput_45) rfl rfl k
theorem dX11_readOutput_46 : decode cX11_readOutput 46 = .ok (.getfield 157, 3) := by decide +kernel
theorem sX11_readOutput_46 {a : Nat} {fs : List Value} {v : Int32} (hP : P.1 a = some (xO 9 fs)) (hv : fs[30]? = some (.int v)) (k : X w mX11_readOutput d Q 49 ls (.int v :: st) P) : X w mX11_readOutput d Q 46 ls (.ref a :: st) P := X_get (M := mX11_readOutput) (j := 30) (T := TX11) (dX11_readOutput_46) rfl (by decide) x_in11 xw_469 hP hv k
theorem dX11_readOutput_49 : decode cX11_readOutput 49 = .ok (.iaload, 1) := by decide +kernel
theorem sX11_readOutput_49 {a n : Nat} {f : Nat → Int32} {i : Int32} (hP : P.1 a = some (xA 0 n f)) (hi : vp_in i n) (k : X w mX11_readOutput d Q 50 ls (.int (f i.toNatClampNeg) :: st) P) : X w mX11_readOutput d Q 49 ls (.int i :: .ref a :: st) P := X_iald (M := mX11_readOutput) (dX11_readOutput_49) hP hi k
theorem dX11_readOutput_50 : decode cX11_readOutput 50 = .ok (.iconst 3, 1) := by decide +kernel
theorem sX11_readOutput_50 (k : X w mX11_readOutput d Q 51 ls (.int (3 : Int32) :: st) P) : X w mX11_readOutput d Q 50 ls st P := X_iconst (M := mX11_readOutput) (dX11_readOutput_50) (by decide) k
theorem dX11_readOutput_51 : decode cX11_readOutput 51 = .ok (.irem, 1) := by decide +kernel
theorem sX11_readOutput_51 {x y : Int32} (hne : ¬ y = 0) (k : X w mX11_readOutput d Q 52 ls (.int (x - x / y * y) :: st) P) : X w mX11_readOutput d Q 51 ls (.int y :: .int x :: st) P := X_irem (M := mX11_readOutput) (dX11_readOutput_51) hne k
theorem dX11_readOutput_52 : decode cX11_readOutput 52 = .ok (.istore_n 1, 1) := by decide +kernel
theorem sX11_readOutput_52 {l0 l1 : Option Value} {x : Int32} (hn : xnl l0 = true) (k : X w mX11_readOutput d Q 53 [l0, some (.int x)] st P) : X w mX11_readOutput d Q 52 [l0, l1] (.int x :: st) P := X_istore_n (M := mX11_readOutput) (dX11_readOutput_52) rfl (by decide) rfl (xnl_p (ls := [l0, l1]) (j := 0) rfl hn) k
theorem dX11_readOutput_53 : decode cX11_readOutput 53 = .ok (.aload_n 0, 1) := by decide +kernel
theorem sX11_readOutput_53 {l1 : Option Value} {x : Nat} (k : X w mX11_readOutput d Q 54 [some (.ref x), l1] (.ref x :: st) P) : X w mX11_readOutput d Q 53 [some (.ref x), l1] st P := X_aload_n (M := mX11_readOutput) (dX11_readOutput_53) rfl rfl k
theorem dX11_readOutput_54 : decode cX11_readOutput 54 = .ok (.getfield 117, 3) := by decide +kernel
theorem sX11_readOutput_54 {a : Nat} {fs : List Value} {v : Int32} (hP : P.1 a = some (xO 9 fs)) (hv : fs[28]? = some (.int v)) (k : X w mX11_readOutput d Q 57 ls (.int v :: st) P) : X w mX11_readOutput d Q 54 ls (.ref a :: st) P := X_get (M := mX11_readOutput) (j := 28) (T := TX11) (dX11_readOutput_54) rfl (by decide) x_in11 xw_441 hP hv k
theorem dX11_readOutput_57 : decode cX11_readOutput 57 = .ok (.ifCond .eq 24, 3) := by decide +kernel
theorem sX11_readOutput_57 {x : Int32} (kt : x = 0 → X w mX11_readOutput d Q 81 ls st P) (kf : ¬ x = 0 → X w mX11_readOutput d Q 60 ls st P) : X w mX11_readOutput d Q 57 ls (.int x :: st) P := X_if_eq (M := mX11_readOutput) (dX11_readOutput_57) (by decide) kt kf
theorem dX11_readOutput_60 : decode cX11_readOutput 60 = .ok (.aload_n 0, 1) := by decide +kernel
theorem sX11_readOutput_60 {l1 : Option Value} {x : Nat} (k : X w mX11_readOutput d Q 61 [some (.ref x), l1] (.ref x :: st) P) : X w mX11_readOutput d Q 60 [some (.ref x), l1] st P := X_aload_n (M := mX11_readOutput) (dX11_readOutput_60) rfl rfl k
theorem dX11_readOutput_61 : decode cX11_readOutput 61 = .ok (.getfield 44, 3) := by decide +kernel
theorem sX11_readOutput_61 {a : Nat} {fs : List Value} {v : Nat} (hP : P.1 a = some (xO 9 fs)) (hv : fs[14]? = some (.ref v)) (k : X w mX11_readOutput d Q 64 ls (.ref v :: st) P) : X w mX11_readOutput d Q 61 ls (.ref a :: st) P := X_get (M := mX11_readOutput) (j := 14) (T := TX11) (dX11_readOutput_61) rfl (by decide) x_in11 xw_415 hP hv k
theorem dX11_readOutput_64 : decode cX11_readOutput 64 = .ok (.bipush 9, 2) := by decide +kernel
theorem sX11_readOutput_64 (k : X w mX11_readOutput d Q 66 ls (.int (9 : Int32) :: st) P) : X w mX11_readOutput d Q 64 ls st P := X_bipush (M := mX11_readOutput) (dX11_readOutput_64) (by decide) k
theorem dX11_readOutput_66 : decode cX11_readOutput 66 = .ok (.aload_n 0, 1) := by decide +kernel
theorem sX11_readOutput_66 {l1 : Option Value} {x : Nat} (k : X w mX11_readOutput d Q 67 [some (.ref x), l1] (.ref x :: st) P) : X w mX11_readOutput d Q 66 [some (.ref x), l1] st P := X_aload_n (M := mX11_readOutput) (dX11_readOutput_66) rfl rfl k
theorem dX11_readOutput_67 : decode cX11_readOutput 67 = .ok (.getfield 157, 3) := by decide +kernel
theorem sX11_readOutput_67 {a : Nat} {fs : List Value} {v : Int32} (hP : P.1 a = some (xO 9 fs)) (hv : fs[30]? = some (.int v)) (k : X w mX11_readOutput d Q 70 ls (.int v :: st) P) : X w mX11_readOutput d Q 67 ls (.ref a :: st) P := X_get (M := mX11_readOutput) (j := 30) (T := TX11) (dX11_readOutput_67) rfl (by decide) x_in11 xw_469 hP hv k
theorem dX11_readOutput_70 : decode cX11_readOutput 70 = .ok (.imul, 1) := by decide +kernel
theorem sX11_readOutput_70 {x y : Int32} (k : X w mX11_readOutput d Q 71 ls (.int (x * y) :: st) P) : X w mX11_readOutput d Q 70 ls (.int y :: .int x :: st) P := X_imul (M := mX11_readOutput) (dX11_readOutput_70) k
theorem dX11_readOutput_71 : decode cX11_readOutput 71 = .ok (.bipush 6, 2) := by decide +kernel
theorem sX11_readOutput_71 (k : X w mX11_readOutput d Q 73 ls (.int (6 : Int32) :: st) P) : X w mX11_readOutput d Q 71 ls st P := X_bipush (M := mX11_readOutput) (dX11_readOutput_71) (by decide) k
theorem dX11_readOutput_73 : decode cX11_readOutput 73 = .ok (.iadd, 1) := by decide +kernel
theorem sX11_readOutput_73 {x y : Int32} (k : X w mX11_readOutput d Q 74 ls (.int (x + y) :: st) P) : X w mX11_readOutput d Q 73 ls (.int y :: .int x :: st) P := X_iadd (M := mX11_readOutput) (dX11_readOutput_73) k
theorem dX11_readOutput_74 : decode cX11_readOutput 74 = .ok (.iload_n 1, 1) := by decide +kernel
theorem sX11_readOutput_74 {l0 : Option Value} {x : Int32} (k : X w mX11_readOutput d Q 75 [l0, some (.int x)] (.int x :: st) P) : X w mX11_readOutput d Q 74 [l0, some (.int x)] st P := X_iload_n (M := mX11_readOutput) (dX11_readOutput_74) rfl rfl k
theorem dX11_readOutput_75 : decode cX11_readOutput 75 = .ok (.iadd, 1) := by decide +kernel
theorem sX11_readOutput_75 {x y : Int32} (k : X w mX11_readOutput d Q 76 ls (.int (x + y) :: st) P) : X w mX11_readOutput d Q 75 ls (.int y :: .int x :: st) P := X_iadd (M := mX11_readOutput) (dX11_readOutput_75) k
theorem dX11_readOutput_76 : decode cX11_readOutput 76 = .ok (.aload_n 0, 1) := by decide +kernel
theorem sX11_readOutput_76 {l1 : Option Value} {x : Nat} (k : X w mX11_readOutput d Q 77 [some (.ref x), l1] (.ref x :: st) P) : X w mX11_readOutput d Q 76 [some (.ref x), l1] st P := X_aload_n (M := mX11_readOutput) (dX11_readOutput_76) rfl rfl k
theorem dX11_readOutput_77 : decode cX11_readOutput 77 = .ok (.getfield 101, 3) := by decide +kernel
theorem sX11_readOutput_77 {a : Nat} {fs : List Value} {v : Int64} (hP : P.1 a = some (xO 9 fs)) (hv : fs[26]? = some (.long v)) (k : X w mX11_readOutput d Q 80 ls (.long v :: st) P) : X w mX11_readOutput d Q 77 ls (.ref a :: st) P := X_get (M := mX11_readOutput) (j := 26) (T := TX11) (dX11_readOutput_77) rfl (by decide) x_in11 xw_434 hP hv k
theorem dX11_readOutput_80 : decode cX11_readOutput 80 = .ok (.lastore, 1) := by decide +kernel
theorem sX11_readOutput_80 {a n : Nat} {f : Nat → Int64} {i : Int32} {x : Int64} (hP : P.1 a = some (xJ n f)) (hi : vp_in i n) (k : X w mX11_readOutput d Q 81 ls st (xs P a (xJ n (vp_updL f i.toNatClampNeg x)))) : X w mX11_readOutput d Q 80 ls (.long x :: .int i :: .ref a :: st) P := X_last (M := mX11_readOutput) (dX11_readOutput_80) hP hi k
theorem dX11_readOutput_81 : decode cX11_readOutput 81 = .ok (.aload_n 0, 1) := by decide +kernel
theorem sX11_readOutput_81 {l1 : Option Value} {x : Nat} (k : X w mX11_readOutput d Q 82 [some (.ref x), l1] (.ref x :: st) P) : X w mX11_readOutput d Q 81 [some (.ref x), l1] st P := X_aload_n (M := mX11_readOutput) (dX11_readOutput_81) rfl rfl k
theorem dX11_readOutput_82 : decode cX11_readOutput 82 = .ok (.invokevirtual 131, 3) := by decide +kernel
theorem sX11_readOutput_82_g {b : Nat} {fs : List Value}  {Qc : Outcome → xH → Prop} (hst : (st.map fun v => v.category).sum ≤ 8) (hP : P.1 b = some (xO 9 fs)) (hC : xC w d mX11_go [.ref b] P Qc) (kr : ∀ v P1, Qc (.returned v) P1 → X w mX11_readOutput (d + 1) Q 85 ls (v.toList ++ st) P1) (kt : ∀ q P1, Qc (.threw q) P1 → Xt w mX11_readOutput (d + 1) Q 82 ls st P1 q) : X w mX11_readOutput (d + 1) Q 82 ls (.ref b :: st) P := X_callV (M := mX11_readOutput) (MC := mX11_go) (As := []) (T := TX11) (dX11_readOutput_82) calX11_go xw_451 xw_452 xw_453 rfl rfl hP hC hst kr kt
theorem sX11_readOutput_82 {b : Nat} {fs : List Value}  {P1 : xH} (hst : (st.map fun v => v.category).sum ≤ 8) (hP : P.1 b = some (xO 9 fs)) (hC : xC w d mX11_go [.ref b] P (xRet none P1)) (k : X w mX11_readOutput (d + 1) Q 85 ls st P1) : X w mX11_readOutput (d + 1) Q 82 ls (.ref b :: st) P := X_callV (M := mX11_readOutput) (MC := mX11_go) (As := []) (T := TX11) (dX11_readOutput_82) calX11_go xw_451 xw_452 xw_453 rfl rfl hP hC hst (fun v P2 h => by obtain ⟨h1, rfl⟩ := h; cases h1; exact k) (fun q P2 h => by cases h.1)
theorem sX11_readOutput_82_r {b : Nat} {fs : List Value}  {Rp : xH → Prop} (hst : (st.map fun v => v.category).sum ≤ 8) (hP : P.1 b = some (xO 9 fs)) (hC : xC w d mX11_go [.ref b] P (xRl none Rp)) (k : ∀ P1, Rp P1 → X w mX11_readOutput (d + 1) Q 85 ls st P1) : X w mX11_readOutput (d + 1) Q 82 ls (.ref b :: st) P := X_callV (M := mX11_readOutput) (MC := mX11_go) (As := []) (T := TX11) (dX11_readOutput_82) calX11_go xw_451 xw_452 xw_453 rfl rfl hP hC hst (fun v P2 h => by obtain ⟨h1, hR⟩ := h; cases h1; exact k P2 hR) (fun q P2 h => by cases h.1)
theorem sX11_readOutput_82_t {b : Nat} {fs : List Value}  {q : Nat} {P1 : xH} (hst : (st.map fun v => v.category).sum ≤ 8) (hP : P.1 b = some (xO 9 fs)) (hC : xC w d mX11_go [.ref b] P (xThr q P1)) (hq : Q (.threw q) P1) : X w mX11_readOutput (d + 1) Q 82 ls (.ref b :: st) P := X_callV (M := mX11_readOutput) (MC := mX11_go) (As := []) (T := TX11) (dX11_readOutput_82) calX11_go xw_451 xw_452 xw_453 rfl rfl hP hC hst (fun v P2 h => by cases h.1) (fun q2 P2 h => by obtain ⟨h1, rfl⟩ := h; cases h1; exact Xt_out rfl hq)
theorem dX11_readOutput_85 : decode cX11_readOutput 85 = .ok (.aload_n 0, 1) := by decide +kernel
theorem sX11_readOutput_85 {l1 : Option Value} {x : Nat} (k : X w mX11_readOutput d Q 86 [some (.ref x), l1] (.ref x :: st) P) : X w mX11_readOutput d Q 85 [some (.ref x), l1] st P := X_aload_n (M := mX11_readOutput) (dX11_readOutput_85) rfl rfl k
theorem dX11_readOutput_86 : decode cX11_readOutput 86 = .ok (.bipush 61, 2) := by decide +kernel
theorem sX11_readOutput_86 (k : X w mX11_readOutput d Q 88 ls (.int (61 : Int32) :: st) P) : X w mX11_readOutput d Q 86 ls st P := X_bipush (M := mX11_readOutput) (dX11_readOutput_86) (by decide) k
theorem dX11_readOutput_88 : decode cX11_readOutput 88 = .ok (.invokevirtual 145, 3) := by decide +kernel
theorem sX11_readOutput_88_g {b : Nat} {fs : List Value} {a0 : Int32} {Qc : Outcome → xH → Prop} (hst : (st.map fun v => v.category).sum ≤ 8) (hP : P.1 b = some (xO 9 fs)) (hC : xC w d mX11_sign [.ref b, .int a0] P Qc) (kr : ∀ v P1, Qc (.returned v) P1 → X w mX11_readOutput (d + 1) Q 91 ls (v.toList ++ st) P1) (kt : ∀ q P1, Qc (.threw q) P1 → Xt w mX11_readOutput (d + 1) Q 88 ls st P1 q) : X w mX11_readOutput (d + 1) Q 88 ls (.int a0 :: .ref b :: st) P := X_callV (M := mX11_readOutput) (MC := mX11_sign) (As := [.int a0]) (T := TX11) (dX11_readOutput_88) calX11_sign xw_460 xw_461 xw_462 rfl rfl hP hC hst kr kt
theorem sX11_readOutput_88 {b : Nat} {fs : List Value} {a0 : Int32} {P1 : xH} (hst : (st.map fun v => v.category).sum ≤ 8) (hP : P.1 b = some (xO 9 fs)) (hC : xC w d mX11_sign [.ref b, .int a0] P (xRet none P1)) (k : X w mX11_readOutput (d + 1) Q 91 ls st P1) : X w mX11_readOutput (d + 1) Q 88 ls (.int a0 :: .ref b :: st) P := X_callV (M := mX11_readOutput) (MC := mX11_sign) (As := [.int a0]) (T := TX11) (dX11_readOutput_88) calX11_sign xw_460 xw_461 xw_462 rfl rfl hP hC hst (fun v P2 h => by obtain ⟨h1, rfl⟩ := h; cases h1; exact k) (fun q P2 h => by cases h.1)
theorem sX11_readOutput_88_r {b : Nat} {fs : List Value} {a0 : Int32} {Rp : xH → Prop} (hst : (st.map fun v => v.category).sum ≤ 8) (hP : P.1 b = some (xO 9 fs)) (hC : xC w d mX11_sign [.ref b, .int a0] P (xRl none Rp)) (k : ∀ P1, Rp P1 → X w mX11_readOutput (d + 1) Q 91 ls st P1) : X w mX11_readOutput (d + 1) Q 88 ls (.int a0 :: .ref b :: st) P := X_callV (M := mX11_readOutput) (MC := mX11_sign) (As := [.int a0]) (T := TX11) (dX11_readOutput_88) calX11_sign xw_460 xw_461 xw_462 rfl rfl hP hC hst (fun v P2 h => by obtain ⟨h1, hR⟩ := h; cases h1; exact k P2 hR) (fun q P2 h => by cases h.1)
theorem sX11_readOutput_88_t {b : Nat} {fs : List Value} {a0 : Int32} {q : Nat} {P1 : xH} (hst : (st.map fun v => v.category).sum ≤ 8) (hP : P.1 b = some (xO 9 fs)) (hC : xC w d mX11_sign [.ref b, .int a0] P (xThr q P1)) (hq : Q (.threw q) P1) : X w mX11_readOutput (d + 1) Q 88 ls (.int a0 :: .ref b :: st) P := X_callV (M := mX11_readOutput) (MC := mX11_sign) (As := [.int a0]) (T := TX11) (dX11_readOutput_88) calX11_sign xw_460 xw_461 xw_462 rfl rfl hP hC hst (fun v P2 h => by cases h.1) (fun q2 P2 h => by obtain ⟨h1, rfl⟩ := h; cases h1; exact Xt_out rfl hq)
theorem dX11_readOutput_91 : decode cX11_readOutput 91 = .ok (.aload_n 0, 1) := by decide +kernel
theorem sX11_readOutput_91 {l1 : Option Value} {x : Nat} (k : X w mX11_readOutput d Q 92 [some (.ref x), l1] (.ref x :: st) P) : X w mX11_readOutput d Q 91 [some (.ref x), l1] st P := X_aload_n (M := mX11_readOutput) (dX11_readOutput_91) rfl rfl k
theorem dX11_readOutput_92 : decode cX11_readOutput 92 = .ok (.getfield 60, 3) := by decide +kernel
theorem sX11_readOutput_92 {a : Nat} {fs : List Value} {v : Nat} (hP : P.1 a = some (xO 9 fs)) (hv : fs[19]? = some (.ref v)) (k : X w mX11_readOutput d Q 95 ls (.ref v :: st) P) : X w mX11_readOutput d Q 92 ls (.ref a :: st) P := X_get (M := mX11_readOutput) (j := 19) (T := TX11) (dX11_readOutput_92) rfl (by decide) x_in11 xw_420 hP hv k
theorem dX11_readOutput_95 : decode cX11_readOutput 95 = .ok (.iconst 3, 1) := by decide +kernel
theorem sX11_readOutput_95 (k : X w mX11_readOutput d Q 96 ls (.int (3 : Int32) :: st) P) : X w mX11_readOutput d Q 95 ls st P := X_iconst (M := mX11_readOutput) (dX11_readOutput_95) (by decide) k
theorem dX11_readOutput_96 : decode cX11_readOutput 96 = .ok (.aload_n 0, 1) := by decide +kernel
theorem sX11_readOutput_96 {l1 : Option Value} {x : Nat} (k : X w mX11_readOutput d Q 97 [some (.ref x), l1] (.ref x :: st) P) : X w mX11_readOutput d Q 96 [some (.ref x), l1] st P := X_aload_n (M := mX11_readOutput) (dX11_readOutput_96) rfl rfl k
theorem dX11_readOutput_97 : decode cX11_readOutput 97 = .ok (.getfield 157, 3) := by decide +kernel
theorem sX11_readOutput_97 {a : Nat} {fs : List Value} {v : Int32} (hP : P.1 a = some (xO 9 fs)) (hv : fs[30]? = some (.int v)) (k : X w mX11_readOutput d Q 100 ls (.int v :: st) P) : X w mX11_readOutput d Q 97 ls (.ref a :: st) P := X_get (M := mX11_readOutput) (j := 30) (T := TX11) (dX11_readOutput_97) rfl (by decide) x_in11 xw_469 hP hv k
theorem dX11_readOutput_100 : decode cX11_readOutput 100 = .ok (.imul, 1) := by decide +kernel
theorem sX11_readOutput_100 {x y : Int32} (k : X w mX11_readOutput d Q 101 ls (.int (x * y) :: st) P) : X w mX11_readOutput d Q 100 ls (.int y :: .int x :: st) P := X_imul (M := mX11_readOutput) (dX11_readOutput_100) k
theorem dX11_readOutput_101 : decode cX11_readOutput 101 = .ok (.iload_n 1, 1) := by decide +kernel
theorem sX11_readOutput_101 {l0 : Option Value} {x : Int32} (k : X w mX11_readOutput d Q 102 [l0, some (.int x)] (.int x :: st) P) : X w mX11_readOutput d Q 101 [l0, some (.int x)] st P := X_iload_n (M := mX11_readOutput) (dX11_readOutput_101) rfl rfl k
theorem dX11_readOutput_102 : decode cX11_readOutput 102 = .ok (.iadd, 1) := by decide +kernel
theorem sX11_readOutput_102 {x y : Int32} (k : X w mX11_readOutput d Q 103 ls (.int (x + y) :: st) P) : X w mX11_readOutput d Q 102 ls (.int y :: .int x :: st) P := X_iadd (M := mX11_readOutput) (dX11_readOutput_102) k
theorem dX11_readOutput_103 : decode cX11_readOutput 103 = .ok (.aload_n 0, 1) := by decide +kernel
theorem sX11_readOutput_103 {l1 : Option Value} {x : Nat} (k : X w mX11_readOutput d Q 104 [some (.ref x), l1] (.ref x :: st) P) : X w mX11_readOutput d Q 103 [some (.ref x), l1] st P := X_aload_n (M := mX11_readOutput) (dX11_readOutput_103) rfl rfl k
theorem dX11_readOutput_104 : decode cX11_readOutput 104 = .ok (.invokevirtual 222, 3) := by decide +kernel
theorem sX11_readOutput_104_g {b : Nat} {fs : List Value}  {Qc : Outcome → xH → Prop} (hst : (st.map fun v => v.category).sum ≤ 8) (hP : P.1 b = some (xO 9 fs)) (hC : xC w d mX11_expression [.ref b] P Qc) (kr : ∀ v P1, Qc (.returned v) P1 → X w mX11_readOutput (d + 1) Q 107 ls (v.toList ++ st) P1) (kt : ∀ q P1, Qc (.threw q) P1 → Xt w mX11_readOutput (d + 1) Q 104 ls st P1 q) : X w mX11_readOutput (d + 1) Q 104 ls (.ref b :: st) P := X_callV (M := mX11_readOutput) (MC := mX11_expression) (As := []) (T := TX11) (dX11_readOutput_104) calX11_expression xw_518 xw_519 xw_520 rfl rfl hP hC hst kr kt
theorem sX11_readOutput_104 {b : Nat} {fs : List Value}  {r : Int64} {P1 : xH} (hst : (st.map fun v => v.category).sum ≤ 8) (hP : P.1 b = some (xO 9 fs)) (hC : xC w d mX11_expression [.ref b] P (xRet (some (.long r)) P1)) (k : X w mX11_readOutput (d + 1) Q 107 ls (.long r :: st) P1) : X w mX11_readOutput (d + 1) Q 104 ls (.ref b :: st) P := X_callV (M := mX11_readOutput) (MC := mX11_expression) (As := []) (T := TX11) (dX11_readOutput_104) calX11_expression xw_518 xw_519 xw_520 rfl rfl hP hC hst (fun v P2 h => by obtain ⟨h1, rfl⟩ := h; cases h1; exact k) (fun q P2 h => by cases h.1)
theorem sX11_readOutput_104_r {b : Nat} {fs : List Value}  {r : Int64} {Rp : xH → Prop} (hst : (st.map fun v => v.category).sum ≤ 8) (hP : P.1 b = some (xO 9 fs)) (hC : xC w d mX11_expression [.ref b] P (xRl (some (.long r)) Rp)) (k : ∀ P1, Rp P1 → X w mX11_readOutput (d + 1) Q 107 ls (.long r :: st) P1) : X w mX11_readOutput (d + 1) Q 104 ls (.ref b :: st) P := X_callV (M := mX11_readOutput) (MC := mX11_expression) (As := []) (T := TX11) (dX11_readOutput_104) calX11_expression xw_518 xw_519 xw_520 rfl rfl hP hC hst (fun v P2 h => by obtain ⟨h1, hR⟩ := h; cases h1; exact k P2 hR) (fun q P2 h => by cases h.1)
theorem sX11_readOutput_104_t {b : Nat} {fs : List Value}  {q : Nat} {P1 : xH} (hst : (st.map fun v => v.category).sum ≤ 8) (hP : P.1 b = some (xO 9 fs)) (hC : xC w d mX11_expression [.ref b] P (xThr q P1)) (hq : Q (.threw q) P1) : X w mX11_readOutput (d + 1) Q 104 ls (.ref b :: st) P := X_callV (M := mX11_readOutput) (MC := mX11_expression) (As := []) (T := TX11) (dX11_readOutput_104) calX11_expression xw_518 xw_519 xw_520 rfl rfl hP hC hst (fun v P2 h => by cases h.1) (fun q2 P2 h => by obtain ⟨h1, rfl⟩ := h; cases h1; exact Xt_out rfl hq)
theorem dX11_readOutput_107 : decode cX11_readOutput 107 = .ok (.lastore, 1) := by decide +kernel
theorem sX11_readOutput_107 {a n : Nat} {f : Nat → Int64} {i : Int32} {x : Int64} (hP : P.1 a = some (xJ n f)) (hi : vp_in i n) (k : X w mX11_readOutput d Q 108 ls st (xs P a (xJ n (vp_updL f i.toNatClampNeg x)))) : X w mX11_readOutput d Q 107 ls (.long x :: .int i :: .ref a :: st) P := X_last (M := mX11_readOutput) (dX11_readOutput_107) hP hi k
theorem dX11_readOutput_108 : decode cX11_readOutput 108 = .ok (.aload_n 0, 1) := by decide +kernel
theorem sX11_readOutput_108 {l1 : Option Value} {x : Nat} (k : X w mX11_readOutput d Q 109 [some (.ref x), l1] (.ref x :: st) P) : X w mX11_readOutput d Q 108 [some (.ref x), l1] st P := X_aload_n (M := mX11_readOutput) (dX11_readOutput_108) rfl rfl k
theorem dX11_readOutput_109 : decode cX11_readOutput 109 = .ok (.getfield 50, 3) := by decide +kernel
theorem sX11_readOutput_109 {a : Nat} {fs : List Value} {v : Nat} (hP : P.1 a = some (xO 9 fs)) (hv : fs[16]? = some (.ref v)) (k : X w mX11_readOutput d Q 112 ls (.ref v :: st) P) : X w mX11_readOutput d Q 109 ls (.ref a :: st) P := X_get (M := mX11_readOutput) (j := 16) (T := TX11) (dX11_readOutput_109) rfl (by decide) x_in11 xw_417 hP hv k
theorem dX11_readOutput_112 : decode cX11_readOutput 112 = .ok (.aload_n 0, 1) := by decide +kernel
theorem sX11_readOutput_112 {l1 : Option Value} {x : Nat} (k : X w mX11_readOutput d Q 113 [some (.ref x), l1] (.ref x :: st) P) : X w mX11_readOutput d Q 112 [some (.ref x), l1] st P := X_aload_n (M := mX11_readOutput) (dX11_readOutput_112) rfl rfl k
theorem dX11_readOutput_113 : decode cX11_readOutput 113 = .ok (.getfield 157, 3) := by decide +kernel
theorem sX11_readOutput_113 {a : Nat} {fs : List Value} {v : Int32} (hP : P.1 a = some (xO 9 fs)) (hv : fs[30]? = some (.int v)) (k : X w mX11_readOutput d Q 116 ls (.int v :: st) P) : X w mX11_readOutput d Q 113 ls (.ref a :: st) P := X_get (M := mX11_readOutput) (j := 30) (T := TX11) (dX11_readOutput_113) rfl (by decide) x_in11 xw_469 hP hv k
theorem dX11_readOutput_116 : decode cX11_readOutput 116 = .ok (.dup2, 1) := by decide +kernel
theorem sX11_readOutput_116 {i : Int32} {a : Nat} (k : X w mX11_readOutput d Q 117 ls (.int i :: .ref a :: .int i :: .ref a :: st) P) : X w mX11_readOutput d Q 116 ls (.int i :: .ref a :: st) P := X_dup2 (M := mX11_readOutput) (dX11_readOutput_116) rfl rfl k
theorem dX11_readOutput_117 : decode cX11_readOutput 117 = .ok (.iaload, 1) := by decide +kernel
theorem sX11_readOutput_117 {a n : Nat} {f : Nat → Int32} {i : Int32} (hP : P.1 a = some (xA 0 n f)) (hi : vp_in i n) (k : X w mX11_readOutput d Q 118 ls (.int (f i.toNatClampNeg) :: st) P) : X w mX11_readOutput d Q 117 ls (.int i :: .ref a :: st) P := X_iald (M := mX11_readOutput) (dX11_readOutput_117) hP hi k
theorem dX11_readOutput_118 : decode cX11_readOutput 118 = .ok (.aload_n 0, 1) := by decide +kernel
theorem sX11_readOutput_118 {l1 : Option Value} {x : Nat} (k : X w mX11_readOutput d Q 119 [some (.ref x), l1] (.ref x :: st) P) : X w mX11_readOutput d Q 118 [some (.ref x), l1] st P := X_aload_n (M := mX11_readOutput) (dX11_readOutput_118) rfl rfl k
theorem dX11_readOutput_119 : decode cX11_readOutput 119 = .ok (.getfield 117, 3) := by decide +kernel
theorem sX11_readOutput_119 {a : Nat} {fs : List Value} {v : Int32} (hP : P.1 a = some (xO 9 fs)) (hv : fs[28]? = some (.int v)) (k : X w mX11_readOutput d Q 122 ls (.int v :: st) P) : X w mX11_readOutput d Q 119 ls (.ref a :: st) P := X_get (M := mX11_readOutput) (j := 28) (T := TX11) (dX11_readOutput_119) rfl (by decide) x_in11 xw_441 hP hv k
theorem dX11_readOutput_122 : decode cX11_readOutput 122 = .ok (.ifCond .eq 7, 3) := by decide +kernel
theorem sX11_readOutput_122 {x : Int32} (kt : x = 0 → X w mX11_readOutput d Q 129 ls st P) (kf : ¬ x = 0 → X w mX11_readOutput d Q 125 ls st P) : X w mX11_readOutput d Q 122 ls (.int x :: st) P := X_if_eq (M := mX11_readOutput) (dX11_readOutput_122) (by decide) kt kf
theorem dX11_readOutput_125 : decode cX11_readOutput 125 = .ok (.iconst 1, 1) := by decide +kernel
theorem sX11_readOutput_125 (k : X w mX11_readOutput d Q 126 ls (.int (1 : Int32) :: st) P) : X w mX11_readOutput d Q 125 ls st P := X_iconst (M := mX11_readOutput) (dX11_readOutput_125) (by decide) k
theorem dX11_readOutput_126 : decode cX11_readOutput 126 = .ok (.goto 4, 3) := by decide +kernel
theorem sX11_readOutput_126 (k : X w mX11_readOutput d Q 130 ls st P) : X w mX11_readOutput d Q 126 ls st P := X_goto (M := mX11_readOutput) (dX11_readOutput_126) (by decide) k
theorem dX11_readOutput_129 : decode cX11_readOutput 129 = .ok (.iconst 0, 1) := by decide +kernel
theorem sX11_readOutput_129 (k : X w mX11_readOutput d Q 130 ls (.int (0 : Int32) :: st) P) : X w mX11_readOutput d Q 129 ls st P := X_iconst (M := mX11_readOutput) (dX11_readOutput_129) (by decide) k
theorem dX11_readOutput_130 : decode cX11_readOutput 130 = .ok (.iadd, 1) := by decide +kernel
theorem sX11_readOutput_130 {x y : Int32} (k : X w mX11_readOutput d Q 131 ls (.int (x + y) :: st) P) : X w mX11_readOutput d Q 130 ls (.int y :: .int x :: st) P := X_iadd (M := mX11_readOutput) (dX11_readOutput_130) k
theorem dX11_readOutput_131 : decode cX11_readOutput 131 = .ok (.iastore, 1) := by decide +kernel
theorem sX11_readOutput_131 {a n : Nat} {f : Nat → Int32} {i x : Int32} (hP : P.1 a = some (xA 0 n f)) (hi : vp_in i n) (k : X w mX11_readOutput d Q 132 ls st (xs P a (xA 0 n (upd f i.toNatClampNeg x)))) : X w mX11_readOutput d Q 131 ls (.int x :: .int i :: .ref a :: st) P := X_iast (M := mX11_readOutput) (dX11_readOutput_131) hP hi k
theorem dX11_readOutput_132 : decode cX11_readOutput 132 = .ok (.return_, 1) := by decide +kernel
theorem sX11_readOutput_132 (hq : Q (.returned none) P) : X w mX11_readOutput d Q 132 ls [] P := X_vret (M := mX11_readOutput) (dX11_readOutput_132) rfl hq
theorem dX11_read_0 : decode cX11_read 0 = .ok (.aload_n 0, 1) := by decide +kernel
theorem sX11_read_0 {x : Nat} (k : X w mX11_read d Q 1 [some (.ref x)] (.ref x :: st) P) : X w mX11_read d Q 0 [some (.ref x)] st P := X_aload_n (M := mX11_read) (dX11_read_0) rfl rfl k
theorem dX11_read_1 : decode cX11_read 1 = .ok (.iconst 0, 1) := by decide +kernel
theorem sX11_read_1 (k : X w mX11_read d Q 2 ls (.int (0 : Int32) :: st) P) : X w mX11_read d Q 1 ls st P := X_iconst (M := mX11_read) (dX11_read_1) (by decide) k
theorem dX11_read_2 : decode cX11_read 2 = .ok (.putfield 84, 3) := by decide +kernel
theorem sX11_read_2 {a : Nat} {fs : List Value} {v : Int32} (hP : P.1 a = some (xO 9 fs)) (hl : 0 < fs.length) (k : X w mX11_read d Q 5 ls st (xs P a (xO 9 (fs.set 0 (.int v))))) : X w mX11_read d Q 2 ls (.int v :: .ref a :: st) P := X_put (M := mX11_read) (j := 0) (T := TX11) (dX11_read_2) rfl (by decide) x_c11 xw_428 rfl hP rfl rfl hl k
theorem dX11_read_5 : decode cX11_read 5 = .ok (.aload_n 0, 1) := by decide +kernel
theorem sX11_read_5 {x : Nat} (k : X w mX11_read d Q 6 [some (.ref x)] (.ref x :: st) P) : X w mX11_read d Q 5 [some (.ref x)] st P := X_aload_n (M := mX11_read) (dX11_read_5) rfl rfl k
theorem dX11_read_6 : decode cX11_read 6 = .ok (.iconst 1, 1) := by decide +kernel
theorem sX11_read_6 (k : X w mX11_read d Q 7 ls (.int (1 : Int32) :: st) P) : X w mX11_read d Q 6 ls st P := X_iconst (M := mX11_read) (dX11_read_6) (by decide) k
theorem dX11_read_7 : decode cX11_read 7 = .ok (.aload_n 0, 1) := by decide +kernel
theorem sX11_read_7 {x : Nat} (k : X w mX11_read d Q 8 [some (.ref x)] (.ref x :: st) P) : X w mX11_read d Q 7 [some (.ref x)] st P := X_aload_n (M := mX11_read) (dX11_read_7) rfl rfl k
theorem dX11_read_8 : decode cX11_read 8 = .ok (.getfield 226, 3) := by decide +kernel
theorem sX11_read_8 {a : Nat} {fs : List Value} {v : Int32} (hP : P.1 a = some (xO 9 fs)) (hv : fs[3]? = some (.int v)) (k : X w mX11_read d Q 11 ls (.int v :: st) P) : X w mX11_read d Q 8 ls (.ref a :: st) P := X_get (M := mX11_read) (j := 3) (T := TX11) (dX11_read_8) rfl (by decide) x_in11 xw_521 hP hv k
theorem dX11_read_11 : decode cX11_read 11 = .ok (.isub, 1) := by decide +kernel
theorem sX11_read_11 {x y : Int32} (k : X w mX11_read d Q 12 ls (.int (x - y) :: st) P) : X w mX11_read d Q 11 ls (.int y :: .int x :: st) P := X_isub (M := mX11_read) (dX11_read_11) k
theorem dX11_read_12 : decode cX11_read 12 = .ok (.putfield 138, 3) := by decide +kernel
theorem sX11_read_12 {a : Nat} {fs : List Value} {v : Int32} (hP : P.1 a = some (xO 9 fs)) (hl : 29 < fs.length) (k : X w mX11_read d Q 15 ls st (xs P a (xO 9 (fs.set 29 (.int v))))) : X w mX11_read d Q 12 ls (.int v :: .ref a :: st) P := X_put (M := mX11_read) (j := 29) (T := TX11) (dX11_read_12) rfl (by decide) x_c11 xw_456 rfl hP rfl rfl hl k
theorem dX11_read_15 : decode cX11_read 15 = .ok (.aload_n 0, 1) := by decide +kernel
theorem sX11_read_15 {x : Nat} (k : X w mX11_read d Q 16 [some (.ref x)] (.ref x :: st) P) : X w mX11_read d Q 15 [some (.ref x)] st P := X_aload_n (M := mX11_read) (dX11_read_15) rfl rfl k
theorem dX11_read_16 : decode cX11_read 16 = .ok (.getfield 13, 3) := by decide +kernel
theorem sX11_read_16 {a : Nat} {fs : List Value} {v : Nat} (hP : P.1 a = some (xO 9 fs)) (hv : fs[4]? = some (.ref v)) (k : X w mX11_read d Q 19 ls (.ref v :: st) P) : X w mX11_read d Q 16 ls (.ref a :: st) P := X_get (M := mX11_read) (j := 4) (T := TX11) (dX11_read_16) rfl (by decide) x_in11 xw_405 hP hv k
theorem dX11_read_19 : decode cX11_read 19 = .ok (.aload_n 0, 1) := by decide +kernel
theorem sX11_read_19 {x : Nat} (k : X w mX11_read d Q 20 [some (.ref x)] (.ref x :: st) P) : X w mX11_read d Q 19 [some (.ref x)] st P := X_aload_n (M := mX11_read) (dX11_read_19) rfl rfl k
theorem dX11_read_20 : decode cX11_read 20 = .ok (.getfield 138, 3) := by decide +kernel
theorem sX11_read_20 {a : Nat} {fs : List Value} {v : Int32} (hP : P.1 a = some (xO 9 fs)) (hv : fs[29]? = some (.int v)) (k : X w mX11_read d Q 23 ls (.int v :: st) P) : X w mX11_read d Q 20 ls (.ref a :: st) P := X_get (M := mX11_read) (j := 29) (T := TX11) (dX11_read_20) rfl (by decide) x_in11 xw_456 hP hv k
theorem dX11_read_23 : decode cX11_read 23 = .ok (.iconst 0, 1) := by decide +kernel
theorem sX11_read_23 (k : X w mX11_read d Q 24 ls (.int (0 : Int32) :: st) P) : X w mX11_read d Q 23 ls st P := X_iconst (M := mX11_read) (dX11_read_23) (by decide) k
theorem dX11_read_24 : decode cX11_read 24 = .ok (.iastore, 1) := by decide +kernel
theorem sX11_read_24 {a n : Nat} {f : Nat → Int32} {i x : Int32} (hP : P.1 a = some (xA 0 n f)) (hi : vp_in i n) (k : X w mX11_read d Q 25 ls st (xs P a (xA 0 n (upd f i.toNatClampNeg x)))) : X w mX11_read d Q 24 ls (.int x :: .int i :: .ref a :: st) P := X_iast (M := mX11_read) (dX11_read_24) hP hi k
theorem dX11_read_25 : decode cX11_read 25 = .ok (.aload_n 0, 1) := by decide +kernel
theorem sX11_read_25 {x : Nat} (k : X w mX11_read d Q 26 [some (.ref x)] (.ref x :: st) P) : X w mX11_read d Q 25 [some (.ref x)] st P := X_aload_n (M := mX11_read) (dX11_read_25) rfl rfl k
theorem dX11_read_26 : decode cX11_read 26 = .ok (.getfield 35, 3) := by decide +kernel
theorem sX11_read_26 {a : Nat} {fs : List Value} {v : Nat} (hP : P.1 a = some (xO 9 fs)) (hv : fs[11]? = some (.ref v)) (k : X w mX11_read d Q 29 ls (.ref v :: st) P) : X w mX11_read d Q 26 ls (.ref a :: st) P := X_get (M := mX11_read) (j := 11) (T := TX11) (dX11_read_26) rfl (by decide) x_in11 xw_412 hP hv k
theorem dX11_read_29 : decode cX11_read 29 = .ok (.aload_n 0, 1) := by decide +kernel
theorem sX11_read_29 {x : Nat} (k : X w mX11_read d Q 30 [some (.ref x)] (.ref x :: st) P) : X w mX11_read d Q 29 [some (.ref x)] st P := X_aload_n (M := mX11_read) (dX11_read_29) rfl rfl k
theorem dX11_read_30 : decode cX11_read 30 = .ok (.getfield 138, 3) := by decide +kernel
theorem sX11_read_30 {a : Nat} {fs : List Value} {v : Int32} (hP : P.1 a = some (xO 9 fs)) (hv : fs[29]? = some (.int v)) (k : X w mX11_read d Q 33 ls (.int v :: st) P) : X w mX11_read d Q 30 ls (.ref a :: st) P := X_get (M := mX11_read) (j := 29) (T := TX11) (dX11_read_30) rfl (by decide) x_in11 xw_456 hP hv k
theorem dX11_read_33 : decode cX11_read 33 = .ok (.iconst 0, 1) := by decide +kernel
theorem sX11_read_33 (k : X w mX11_read d Q 34 ls (.int (0 : Int32) :: st) P) : X w mX11_read d Q 33 ls st P := X_iconst (M := mX11_read) (dX11_read_33) (by decide) k
theorem dX11_read_34 : decode cX11_read 34 = .ok (.iastore, 1) := by decide +kernel
theorem sX11_read_34 {a n : Nat} {f : Nat → Int32} {i x : Int32} (hP : P.1 a = some (xA 0 n f)) (hi : vp_in i n) (k : X w mX11_read d Q 35 ls st (xs P a (xA 0 n (upd f i.toNatClampNeg x)))) : X w mX11_read d Q 34 ls (.int x :: .int i :: .ref a :: st) P := X_iast (M := mX11_read) (dX11_read_34) hP hi k
theorem dX11_read_35 : decode cX11_read 35 = .ok (.aload_n 0, 1) := by decide +kernel
theorem sX11_read_35 {x : Nat} (k : X w mX11_read d Q 36 [some (.ref x)] (.ref x :: st) P) : X w mX11_read d Q 35 [some (.ref x)] st P := X_aload_n (M := mX11_read) (dX11_read_35) rfl rfl k
theorem dX11_read_36 : decode cX11_read 36 = .ok (.iconst 1, 1) := by decide +kernel
theorem sX11_read_36 (k : X w mX11_read d Q 37 ls (.int (1 : Int32) :: st) P) : X w mX11_read d Q 36 ls st P := X_iconst (M := mX11_read) (dX11_read_36) (by decide) k
theorem dX11_read_37 : decode cX11_read 37 = .ok (.putfield 117, 3) := by decide +kernel
theorem sX11_read_37 {a : Nat} {fs : List Value} {v : Int32} (hP : P.1 a = some (xO 9 fs)) (hl : 28 < fs.length) (hb : v = 0 ∨ v = 1) (k : X w mX11_read d Q 40 ls st (xs P a (xO 9 (fs.set 28 (.int v))))) : X w mX11_read d Q 37 ls (.int v :: .ref a :: st) P := X_put (M := mX11_read) (j := 28) (T := TX11) (dX11_read_37) rfl (by decide) x_c11 xw_441 rfl hP (xz_n hb) (xz_f hb) hl k
theorem dX11_read_40 : decode cX11_read 40 = .ok (.aload_n 0, 1) := by decide +kernel
theorem sX11_read_40 {x : Nat} (k : X w mX11_read d Q 41 [some (.ref x)] (.ref x :: st) P) : X w mX11_read d Q 40 [some (.ref x)] st P := X_aload_n (M := mX11_read) (dX11_read_40) rfl rfl k
theorem dX11_read_41 : decode cX11_read 41 = .ok (.iconst 0, 1) := by decide +kernel
theorem sX11_read_41 (k : X w mX11_read d Q 42 ls (.int (0 : Int32) :: st) P) : X w mX11_read d Q 41 ls st P := X_iconst (M := mX11_read) (dX11_read_41) (by decide) k
theorem dX11_read_42 : decode cX11_read 42 = .ok (.putfield 95, 3) := by decide +kernel
theorem sX11_read_42 {a : Nat} {fs : List Value} {v : Int32} (hP : P.1 a = some (xO 9 fs)) (hl : 23 < fs.length) (k : X w mX11_read d Q 45 ls st (xs P a (xO 9 (fs.set 23 (.int v))))) : X w mX11_read d Q 42 ls (.int v :: .ref a :: st) P := X_put (M := mX11_read) (j := 23) (T := TX11) (dX11_read_42) rfl (by decide) x_c11 xw_432 rfl hP rfl rfl hl k
theorem dX11_read_45 : decode cX11_read 45 = .ok (.aload_n 0, 1) := by decide +kernel
theorem sX11_read_45 {x : Nat} (k : X w mX11_read d Q 46 [some (.ref x)] (.ref x :: st) P) : X w mX11_read d Q 45 [some (.ref x)] st P := X_aload_n (M := mX11_read) (dX11_read_45) rfl rfl k
theorem dX11_read_46 : decode cX11_read 46 = .ok (.invokevirtual 121, 3) := by decide +kernel
theorem sX11_read_46_g {b : Nat} {fs : List Value}  {Qc : Outcome → xH → Prop} (hst : (st.map fun v => v.category).sum ≤ 8) (hP : P.1 b = some (xO 9 fs)) (hC : xC w d mX11_look [.ref b] P Qc) (kr : ∀ v P1, Qc (.returned v) P1 → X w mX11_read (d + 1) Q 49 ls (v.toList ++ st) P1) (kt : ∀ q P1, Qc (.threw q) P1 → Xt w mX11_read (d + 1) Q 46 ls st P1 q) : X w mX11_read (d + 1) Q 46 ls (.ref b :: st) P := X_callV (M := mX11_read) (MC := mX11_look) (As := []) (T := TX11) (dX11_read_46) calX11_look xw_442 xw_443 xw_444 rfl rfl hP hC hst kr kt
theorem sX11_read_46 {b : Nat} {fs : List Value}  {P1 : xH} (hst : (st.map fun v => v.category).sum ≤ 8) (hP : P.1 b = some (xO 9 fs)) (hC : xC w d mX11_look [.ref b] P (xRet none P1)) (k : X w mX11_read (d + 1) Q 49 ls st P1) : X w mX11_read (d + 1) Q 46 ls (.ref b :: st) P := X_callV (M := mX11_read) (MC := mX11_look) (As := []) (T := TX11) (dX11_read_46) calX11_look xw_442 xw_443 xw_444 rfl rfl hP hC hst (fun v P2 h => by obtain ⟨h1, rfl⟩ := h; cases h1; exact k) (fun q P2 h => by cases h.1)
theorem sX11_read_46_r {b : Nat} {fs : List Value}  {Rp : xH → Prop} (hst : (st.map fun v => v.category).sum ≤ 8) (hP : P.1 b = some (xO 9 fs)) (hC : xC w d mX11_look [.ref b] P (xRl none Rp)) (k : ∀ P1, Rp P1 → X w mX11_read (d + 1) Q 49 ls st P1) : X w mX11_read (d + 1) Q 46 ls (.ref b :: st) P := X_callV (M := mX11_read) (MC := mX11_look) (As := []) (T := TX11) (dX11_read_46) calX11_look xw_442 xw_443 xw_444 rfl rfl hP hC hst (fun v P2 h => by obtain ⟨h1, hR⟩ := h; cases h1; exact k P2 hR) (fun q P2 h => by cases h.1)
theorem sX11_read_46_t {b : Nat} {fs : List Value}  {q : Nat} {P1 : xH} (hst : (st.map fun v => v.category).sum ≤ 8) (hP : P.1 b = some (xO 9 fs)) (hC : xC w d mX11_look [.ref b] P (xThr q P1)) (hq : Q (.threw q) P1) : X w mX11_read (d + 1) Q 46 ls (.ref b :: st) P := X_callV (M := mX11_read) (MC := mX11_look) (As := []) (T := TX11) (dX11_read_46) calX11_look xw_442 xw_443 xw_444 rfl rfl hP hC hst (fun v P2 h => by cases h.1) (fun q2 P2 h => by obtain ⟨h1, rfl⟩ := h; cases h1; exact Xt_out rfl hq)
theorem dX11_read_49 : decode cX11_read 49 = .ok (.aload_n 0, 1) := by decide +kernel
theorem sX11_read_49 {x : Nat} (k : X w mX11_read d Q 50 [some (.ref x)] (.ref x :: st) P) : X w mX11_read d Q 49 [some (.ref x)] st P := X_aload_n (M := mX11_read) (dX11_read_49) rfl rfl k
theorem dX11_read_50 : decode cX11_read 50 = .ok (.getfield 117, 3) := by decide +kernel
theorem sX11_read_50 {a : Nat} {fs : List Value} {v : Int32} (hP : P.1 a = some (xO 9 fs)) (hv : fs[28]? = some (.int v)) (k : X w mX11_read d Q 53 ls (.int v :: st) P) : X w mX11_read d Q 50 ls (.ref a :: st) P := X_get (M := mX11_read) (j := 28) (T := TX11) (dX11_read_50) rfl (by decide) x_in11 xw_441 hP hv k
theorem dX11_read_53 : decode cX11_read 53 = .ok (.ifCond .eq 65, 3) := by decide +kernel
theorem sX11_read_53 {x : Int32} (kt : x = 0 → X w mX11_read d Q 118 ls st P) (kf : ¬ x = 0 → X w mX11_read d Q 56 ls st P) : X w mX11_read d Q 53 ls (.int x :: st) P := X_if_eq (M := mX11_read) (dX11_read_53) (by decide) kt kf
theorem dX11_read_56 : decode cX11_read 56 = .ok (.aload_n 0, 1) := by decide +kernel
theorem sX11_read_56 {x : Nat} (k : X w mX11_read d Q 57 [some (.ref x)] (.ref x :: st) P) : X w mX11_read d Q 56 [some (.ref x)] st P := X_aload_n (M := mX11_read) (dX11_read_56) rfl rfl k
theorem dX11_read_57 : decode cX11_read 57 = .ok (.getfield 108, 3) := by decide +kernel
theorem sX11_read_57 {a : Nat} {fs : List Value} {v : Int32} (hP : P.1 a = some (xO 9 fs)) (hv : fs[25]? = some (.int v)) (k : X w mX11_read d Q 60 ls (.int v :: st) P) : X w mX11_read d Q 57 ls (.ref a :: st) P := X_get (M := mX11_read) (j := 25) (T := TX11) (dX11_read_57) rfl (by decide) x_in11 xw_436 hP hv k
theorem dX11_read_60 : decode cX11_read 60 = .ok (.ifCond .eq 58, 3) := by decide +kernel
theorem sX11_read_60 {x : Int32} (kt : x = 0 → X w mX11_read d Q 118 ls st P) (kf : ¬ x = 0 → X w mX11_read d Q 63 ls st P) : X w mX11_read d Q 60 ls (.int x :: st) P := X_if_eq (M := mX11_read) (dX11_read_60) (by decide) kt kf
theorem dX11_read_63 : decode cX11_read 63 = .ok (.aload_n 0, 1) := by decide +kernel
theorem sX11_read_63 {x : Nat} (k : X w mX11_read d Q 64 [some (.ref x)] (.ref x :: st) P) : X w mX11_read d Q 63 [some (.ref x)] st P := X_aload_n (M := mX11_read) (dX11_read_63) rfl rfl k
theorem dX11_read_64 : decode cX11_read 64 = .ok (.bipush 116, 2) := by decide +kernel
theorem sX11_read_64 (k : X w mX11_read d Q 66 ls (.int (116 : Int32) :: st) P) : X w mX11_read d Q 64 ls st P := X_bipush (M := mX11_read) (dX11_read_64) (by decide) k
theorem dX11_read_66 : decode cX11_read 66 = .ok (.bipush 97, 2) := by decide +kernel
theorem sX11_read_66 (k : X w mX11_read d Q 68 ls (.int (97 : Int32) :: st) P) : X w mX11_read d Q 66 ls st P := X_bipush (M := mX11_read) (dX11_read_66) (by decide) k
theorem dX11_read_68 : decode cX11_read 68 = .ok (.bipush 98, 2) := by decide +kernel
theorem sX11_read_68 (k : X w mX11_read d Q 70 ls (.int (98 : Int32) :: st) P) : X w mX11_read d Q 68 ls st P := X_bipush (M := mX11_read) (dX11_read_68) (by decide) k
theorem dX11_read_70 : decode cX11_read 70 = .ok (.bipush 108, 2) := by decide +kernel
theorem sX11_read_70 (k : X w mX11_read d Q 72 ls (.int (108 : Int32) :: st) P) : X w mX11_read d Q 70 ls st P := X_bipush (M := mX11_read) (dX11_read_70) (by decide) k
theorem dX11_read_72 : decode cX11_read 72 = .ok (.bipush 101, 2) := by decide +kernel
theorem sX11_read_72 (k : X w mX11_read d Q 74 ls (.int (101 : Int32) :: st) P) : X w mX11_read d Q 72 ls st P := X_bipush (M := mX11_read) (dX11_read_72) (by decide) k
theorem dX11_read_74 : decode cX11_read 74 = .ok (.invokevirtual 167, 3) := by decide +kernel
theorem sX11_read_74_g {b : Nat} {fs : List Value} {a0 : Int32} {a1 : Int32} {a2 : Int32} {a3 : Int32} {a4 : Int32} {Qc : Outcome → xH → Prop} (hst : (st.map fun v => v.category).sum ≤ 8) (hP : P.1 b = some (xO 9 fs)) (hC : xC w d mX11_is [.ref b, .int a0, .int a1, .int a2, .int a3, .int a4] P Qc) (kr : ∀ v P1, Qc (.returned v) P1 → X w mX11_read (d + 1) Q 77 ls (v.toList ++ st) P1) (kt : ∀ q P1, Qc (.threw q) P1 → Xt w mX11_read (d + 1) Q 74 ls st P1 q) : X w mX11_read (d + 1) Q 74 ls (.int a4 :: .int a3 :: .int a2 :: .int a1 :: .int a0 :: .ref b :: st) P := X_callV (M := mX11_read) (MC := mX11_is) (As := [.int a0, .int a1, .int a2, .int a3, .int a4]) (T := TX11) (dX11_read_74) calX11_is xw_476 xw_477 xw_478 rfl rfl hP hC hst kr kt
theorem sX11_read_74 {b : Nat} {fs : List Value} {a0 : Int32} {a1 : Int32} {a2 : Int32} {a3 : Int32} {a4 : Int32} {r : Int32} {P1 : xH} (hst : (st.map fun v => v.category).sum ≤ 8) (hP : P.1 b = some (xO 9 fs)) (hC : xC w d mX11_is [.ref b, .int a0, .int a1, .int a2, .int a3, .int a4] P (xRet (some (.int r)) P1)) (k : X w mX11_read (d + 1) Q 77 ls (.int r :: st) P1) : X w mX11_read (d + 1) Q 74 ls (.int a4 :: .int a3 :: .int a2 :: .int a1 :: .int a0 :: .ref b :: st) P := X_callV (M := mX11_read) (MC := mX11_is) (As := [.int a0, .int a1, .int a2, .int a3, .int a4]) (T := TX11) (dX11_read_74) calX11_is xw_476 xw_477 xw_478 rfl rfl hP hC hst (fun v P2 h => by obtain ⟨h1, rfl⟩ := h; cases h1; exact k) (fun q P2 h => by cases h.1)
theorem sX11_read_74_r {b : Nat} {fs : List Value} {a0 : Int32} {a1 : Int32} {a2 : Int32} {a3 : Int32} {a4 : Int32} {r : Int32} {Rp : xH → Prop} (hst : (st.map fun v => v.category).sum ≤ 8) (hP : P.1 b = some (xO 9 fs)) (hC : xC w d mX11_is [.ref b, .int a0, .int a1, .int a2, .int a3, .int a4] P (xRl (some (.int r)) Rp)) (k : ∀ P1, Rp P1 → X w mX11_read (d + 1) Q 77 ls (.int r :: st) P1) : X w mX11_read (d + 1) Q 74 ls (.int a4 :: .int a3 :: .int a2 :: .int a1 :: .int a0 :: .ref b :: st) P := X_callV (M := mX11_read) (MC := mX11_is) (As := [.int a0, .int a1, .int a2, .int a3, .int a4]) (T := TX11) (dX11_read_74) calX11_is xw_476 xw_477 xw_478 rfl rfl hP hC hst (fun v P2 h => by obtain ⟨h1, hR⟩ := h; cases h1; exact k P2 hR) (fun q P2 h => by cases h.1)
theorem sX11_read_74_t {b : Nat} {fs : List Value} {a0 : Int32} {a1 : Int32} {a2 : Int32} {a3 : Int32} {a4 : Int32} {q : Nat} {P1 : xH} (hst : (st.map fun v => v.category).sum ≤ 8) (hP : P.1 b = some (xO 9 fs)) (hC : xC w d mX11_is [.ref b, .int a0, .int a1, .int a2, .int a3, .int a4] P (xThr q P1)) (hq : Q (.threw q) P1) : X w mX11_read (d + 1) Q 74 ls (.int a4 :: .int a3 :: .int a2 :: .int a1 :: .int a0 :: .ref b :: st) P := X_callV (M := mX11_read) (MC := mX11_is) (As := [.int a0, .int a1, .int a2, .int a3, .int a4]) (T := TX11) (dX11_read_74) calX11_is xw_476 xw_477 xw_478 rfl rfl hP hC hst (fun v P2 h => by cases h.1) (fun q2 P2 h => by obtain ⟨h1, rfl⟩ := h; cases h1; exact Xt_out rfl hq)
theorem dX11_read_77 : decode cX11_read 77 = .ok (.ifCond .eq 10, 3) := by decide +kernel
theorem sX11_read_77 {x : Int32} (kt : x = 0 → X w mX11_read d Q 87 ls st P) (kf : ¬ x = 0 → X w mX11_read d Q 80 ls st P) : X w mX11_read d Q 77 ls (.int x :: st) P := X_if_eq (M := mX11_read) (dX11_read_77) (by decide) kt kf
theorem dX11_read_80 : decode cX11_read 80 = .ok (.aload_n 0, 1) := by decide +kernel
theorem sX11_read_80 {x : Nat} (k : X w mX11_read d Q 81 [some (.ref x)] (.ref x :: st) P) : X w mX11_read d Q 80 [some (.ref x)] st P := X_aload_n (M := mX11_read) (dX11_read_80) rfl rfl k
theorem dX11_read_81 : decode cX11_read 81 = .ok (.invokevirtual 229, 3) := by decide +kernel
theorem sX11_read_81_g {b : Nat} {fs : List Value}  {Qc : Outcome → xH → Prop} (hst : (st.map fun v => v.category).sum ≤ 8) (hP : P.1 b = some (xO 9 fs)) (hC : xC w d mX11_readTable [.ref b] P Qc) (kr : ∀ v P1, Qc (.returned v) P1 → X w mX11_read (d + 1) Q 84 ls (v.toList ++ st) P1) (kt : ∀ q P1, Qc (.threw q) P1 → Xt w mX11_read (d + 1) Q 81 ls st P1 q) : X w mX11_read (d + 1) Q 81 ls (.ref b :: st) P := X_callV (M := mX11_read) (MC := mX11_readTable) (As := []) (T := TX11) (dX11_read_81) calX11_readTable xw_522 xw_523 xw_524 rfl rfl hP hC hst kr kt
theorem sX11_read_81 {b : Nat} {fs : List Value}  {P1 : xH} (hst : (st.map fun v => v.category).sum ≤ 8) (hP : P.1 b = some (xO 9 fs)) (hC : xC w d mX11_readTable [.ref b] P (xRet none P1)) (k : X w mX11_read (d + 1) Q 84 ls st P1) : X w mX11_read (d + 1) Q 81 ls (.ref b :: st) P := X_callV (M := mX11_read) (MC := mX11_readTable) (As := []) (T := TX11) (dX11_read_81) calX11_readTable xw_522 xw_523 xw_524 rfl rfl hP hC hst (fun v P2 h => by obtain ⟨h1, rfl⟩ := h; cases h1; exact k) (fun q P2 h => by cases h.1)
theorem sX11_read_81_r {b : Nat} {fs : List Value}  {Rp : xH → Prop} (hst : (st.map fun v => v.category).sum ≤ 8) (hP : P.1 b = some (xO 9 fs)) (hC : xC w d mX11_readTable [.ref b] P (xRl none Rp)) (k : ∀ P1, Rp P1 → X w mX11_read (d + 1) Q 84 ls st P1) : X w mX11_read (d + 1) Q 81 ls (.ref b :: st) P := X_callV (M := mX11_read) (MC := mX11_readTable) (As := []) (T := TX11) (dX11_read_81) calX11_readTable xw_522 xw_523 xw_524 rfl rfl hP hC hst (fun v P2 h => by obtain ⟨h1, hR⟩ := h; cases h1; exact k P2 hR) (fun q P2 h => by cases h.1)
theorem sX11_read_81_t {b : Nat} {fs : List Value}  {q : Nat} {P1 : xH} (hst : (st.map fun v => v.category).sum ≤ 8) (hP : P.1 b = some (xO 9 fs)) (hC : xC w d mX11_readTable [.ref b] P (xThr q P1)) (hq : Q (.threw q) P1) : X w mX11_read (d + 1) Q 81 ls (.ref b :: st) P := X_callV (M := mX11_read) (MC := mX11_readTable) (As := []) (T := TX11) (dX11_read_81) calX11_readTable xw_522 xw_523 xw_524 rfl rfl hP hC hst (fun v P2 h => by cases h.1) (fun q2 P2 h => by obtain ⟨h1, rfl⟩ := h; cases h1; exact Xt_out rfl hq)
theorem dX11_read_84 : decode cX11_read 84 = .ok (.goto (-35), 3) := by decide +kernel
theorem sX11_read_84 (k : X w mX11_read d Q 49 ls st P) : X w mX11_read d Q 84 ls st P := X_goto (M := mX11_read) (dX11_read_84) (by decide) k
theorem dX11_read_87 : decode cX11_read 87 = .ok (.aload_n 0, 1) := by decide +kernel
theorem sX11_read_87 {x : Nat} (k : X w mX11_read d Q 88 [some (.ref x)] (.ref x :: st) P) : X w mX11_read d Q 87 [some (.ref x)] st P := X_aload_n (M := mX11_read) (dX11_read_87) rfl rfl k
theorem dX11_read_88 : decode cX11_read 88 = .ok (.bipush 99, 2) := by decide +kernel
theorem sX11_read_88 (k : X w mX11_read d Q 90 ls (.int (99 : Int32) :: st) P) : X w mX11_read d Q 88 ls st P := X_bipush (M := mX11_read) (dX11_read_88) (by decide) k
theorem dX11_read_90 : decode cX11_read 90 = .ok (.bipush 101, 2) := by decide +kernel
theorem sX11_read_90 (k : X w mX11_read d Q 92 ls (.int (101 : Int32) :: st) P) : X w mX11_read d Q 90 ls st P := X_bipush (M := mX11_read) (dX11_read_90) (by decide) k
theorem dX11_read_92 : decode cX11_read 92 = .ok (.bipush 108, 2) := by decide +kernel
theorem sX11_read_92 (k : X w mX11_read d Q 94 ls (.int (108 : Int32) :: st) P) : X w mX11_read d Q 92 ls st P := X_bipush (M := mX11_read) (dX11_read_92) (by decide) k
theorem dX11_read_94 : decode cX11_read 94 = .ok (.bipush 108, 2) := by decide +kernel
theorem sX11_read_94 (k : X w mX11_read d Q 96 ls (.int (108 : Int32) :: st) P) : X w mX11_read d Q 94 ls st P := X_bipush (M := mX11_read) (dX11_read_94) (by decide) k
theorem dX11_read_96 : decode cX11_read 96 = .ok (.iconst 0, 1) := by decide +kernel
theorem sX11_read_96 (k : X w mX11_read d Q 97 ls (.int (0 : Int32) :: st) P) : X w mX11_read d Q 96 ls st P := X_iconst (M := mX11_read) (dX11_read_96) (by decide) k
theorem dX11_read_97 : decode cX11_read 97 = .ok (.invokevirtual 167, 3) := by decide +kernel
theorem sX11_read_97_g {b : Nat} {fs : List Value} {a0 : Int32} {a1 : Int32} {a2 : Int32} {a3 : Int32} {a4 : Int32} {Qc : Outcome → xH → Prop} (hst : (st.map fun v => v.category).sum ≤ 8) (hP : P.1 b = some (xO 9 fs)) (hC : xC w d mX11_is [.ref b, .int a0, .int a1, .int a2, .int a3, .int a4] P Qc) (kr : ∀ v P1, Qc (.returned v) P1 → X w mX11_read (d + 1) Q 100 ls (v.toList ++ st) P1) (kt : ∀ q P1, Qc (.threw q) P1 → Xt w mX11_read (d + 1) Q 97 ls st P1 q) : X w mX11_read (d + 1) Q 97 ls (.int a4 :: .int a3 :: .int a2 :: .int a1 :: .int a0 :: .ref b :: st) P := X_callV (M := mX11_read) (MC := mX11_is) (As := [.int a0, .int a1, .int a2, .int a3, .int a4]) (T := TX11) (dX11_read_97) calX11_is xw_476 xw_477 xw_478 rfl rfl hP hC hst kr kt
theorem sX11_read_97 {b : Nat} {fs : List Value} {a0 : Int32} {a1 : Int32} {a2 : Int32} {a3 : Int32} {a4 : Int32} {r : Int32} {P1 : xH} (hst : (st.map fun v => v.category).sum ≤ 8) (hP : P.1 b = some (xO 9 fs)) (hC : xC w d mX11_is [.ref b, .int a0, .int a1, .int a2, .int a3, .int a4] P (xRet (some (.int r)) P1)) (k : X w mX11_read (d + 1) Q 100 ls (.int r :: st) P1) : X w mX11_read (d + 1) Q 97 ls (.int a4 :: .int a3 :: .int a2 :: .int a1 :: .int a0 :: .ref b :: st) P := X_callV (M := mX11_read) (MC := mX11_is) (As := [.int a0, .int a1, .int a2, .int a3, .int a4]) (T := TX11) (dX11_read_97) calX11_is xw_476 xw_477 xw_478 rfl rfl hP hC hst (fun v P2 h => by obtain ⟨h1, rfl⟩ := h; cases h1; exact k) (fun q P2 h => by cases h.1)
theorem sX11_read_97_r {b : Nat} {fs : List Value} {a0 : Int32} {a1 : Int32} {a2 : Int32} {a3 : Int32} {a4 : Int32} {r : Int32} {Rp : xH → Prop} (hst : (st.map fun v => v.category).sum ≤ 8) (hP : P.1 b = some (xO 9 fs)) (hC : xC w d mX11_is [.ref b, .int a0, .int a1, .int a2, .int a3, .int a4] P (xRl (some (.int r)) Rp)) (k : ∀ P1, Rp P1 → X w mX11_read (d + 1) Q 100 ls (.int r :: st) P1) : X w mX11_read (d + 1) Q 97 ls (.int a4 :: .int a3 :: .int a2 :: .int a1 :: .int a0 :: .ref b :: st) P := X_callV (M := mX11_read) (MC := mX11_is) (As := [.int a0, .int a1, .int a2, .int a3, .int a4]) (T := TX11) (dX11_read_97) calX11_is xw_476 xw_477 xw_478 rfl rfl hP hC hst (fun v P2 h => by obtain ⟨h1, hR⟩ := h; cases h1; exact k P2 hR) (fun q P2 h => by cases h.1)
theorem sX11_read_97_t {b : Nat} {fs : List Value} {a0 : Int32} {a1 : Int32} {a2 : Int32} {a3 : Int32} {a4 : Int32} {q : Nat} {P1 : xH} (hst : (st.map fun v => v.category).sum ≤ 8) (hP : P.1 b = some (xO 9 fs)) (hC : xC w d mX11_is [.ref b, .int a0, .int a1, .int a2, .int a3, .int a4] P (xThr q P1)) (hq : Q (.threw q) P1) : X w mX11_read (d + 1) Q 97 ls (.int a4 :: .int a3 :: .int a2 :: .int a1 :: .int a0 :: .ref b :: st) P := X_callV (M := mX11_read) (MC := mX11_is) (As := [.int a0, .int a1, .int a2, .int a3, .int a4]) (T := TX11) (dX11_read_97) calX11_is xw_476 xw_477 xw_478 rfl rfl hP hC hst (fun v P2 h => by cases h.1) (fun q2 P2 h => by obtain ⟨h1, rfl⟩ := h; cases h1; exact Xt_out rfl hq)
theorem dX11_read_100 : decode cX11_read 100 = .ok (.ifCond .eq 10, 3) := by decide +kernel
theorem sX11_read_100 {x : Int32} (kt : x = 0 → X w mX11_read d Q 110 ls st P) (kf : ¬ x = 0 → X w mX11_read d Q 103 ls st P) : X w mX11_read d Q 100 ls (.int x :: st) P := X_if_eq (M := mX11_read) (dX11_read_100) (by decide) kt kf
theorem dX11_read_103 : decode cX11_read 103 = .ok (.aload_n 0, 1) := by decide +kernel
theorem sX11_read_103 {x : Nat} (k : X w mX11_read d Q 104 [some (.ref x)] (.ref x :: st) P) : X w mX11_read d Q 103 [some (.ref x)] st P := X_aload_n (M := mX11_read) (dX11_read_103) rfl rfl k
theorem dX11_read_104 : decode cX11_read 104 = .ok (.invokevirtual 232, 3) := by decide +kernel
theorem sX11_read_104_g {b : Nat} {fs : List Value}  {Qc : Outcome → xH → Prop} (hst : (st.map fun v => v.category).sum ≤ 8) (hP : P.1 b = some (xO 9 fs)) (hC : xC w d mX11_readCell [.ref b] P Qc) (kr : ∀ v P1, Qc (.returned v) P1 → X w mX11_read (d + 1) Q 107 ls (v.toList ++ st) P1) (kt : ∀ q P1, Qc (.threw q) P1 → Xt w mX11_read (d + 1) Q 104 ls st P1 q) : X w mX11_read (d + 1) Q 104 ls (.ref b :: st) P := X_callV (M := mX11_read) (MC := mX11_readCell) (As := []) (T := TX11) (dX11_read_104) calX11_readCell xw_525 xw_526 xw_527 rfl rfl hP hC hst kr kt
theorem sX11_read_104 {b : Nat} {fs : List Value}  {P1 : xH} (hst : (st.map fun v => v.category).sum ≤ 8) (hP : P.1 b = some (xO 9 fs)) (hC : xC w d mX11_readCell [.ref b] P (xRet none P1)) (k : X w mX11_read (d + 1) Q 107 ls st P1) : X w mX11_read (d + 1) Q 104 ls (.ref b :: st) P := X_callV (M := mX11_read) (MC := mX11_readCell) (As := []) (T := TX11) (dX11_read_104) calX11_readCell xw_525 xw_526 xw_527 rfl rfl hP hC hst (fun v P2 h => by obtain ⟨h1, rfl⟩ := h; cases h1; exact k) (fun q P2 h => by cases h.1)
theorem sX11_read_104_r {b : Nat} {fs : List Value}  {Rp : xH → Prop} (hst : (st.map fun v => v.category).sum ≤ 8) (hP : P.1 b = some (xO 9 fs)) (hC : xC w d mX11_readCell [.ref b] P (xRl none Rp)) (k : ∀ P1, Rp P1 → X w mX11_read (d + 1) Q 107 ls st P1) : X w mX11_read (d + 1) Q 104 ls (.ref b :: st) P := X_callV (M := mX11_read) (MC := mX11_readCell) (As := []) (T := TX11) (dX11_read_104) calX11_readCell xw_525 xw_526 xw_527 rfl rfl hP hC hst (fun v P2 h => by obtain ⟨h1, hR⟩ := h; cases h1; exact k P2 hR) (fun q P2 h => by cases h.1)
theorem sX11_read_104_t {b : Nat} {fs : List Value}  {q : Nat} {P1 : xH} (hst : (st.map fun v => v.category).sum ≤ 8) (hP : P.1 b = some (xO 9 fs)) (hC : xC w d mX11_readCell [.ref b] P (xThr q P1)) (hq : Q (.threw q) P1) : X w mX11_read (d + 1) Q 104 ls (.ref b :: st) P := X_callV (M := mX11_read) (MC := mX11_readCell) (As := []) (T := TX11) (dX11_read_104) calX11_readCell xw_525 xw_526 xw_527 rfl rfl hP hC hst (fun v P2 h => by cases h.1) (fun q2 P2 h => by obtain ⟨h1, rfl⟩ := h; cases h1; exact Xt_out rfl hq)
theorem dX11_read_107 : decode cX11_read 107 = .ok (.goto (-58), 3) := by decide +kernel
theorem sX11_read_107 (k : X w mX11_read d Q 49 ls st P) : X w mX11_read d Q 107 ls st P := X_goto (M := mX11_read) (dX11_read_107) (by decide) k
theorem dX11_read_110 : decode cX11_read 110 = .ok (.aload_n 0, 1) := by decide +kernel
theorem sX11_read_110 {x : Nat} (k : X w mX11_read d Q 111 [some (.ref x)] (.ref x :: st) P) : X w mX11_read d Q 110 [some (.ref x)] st P := X_aload_n (M := mX11_read) (dX11_read_110) rfl rfl k
theorem dX11_read_111 : decode cX11_read 111 = .ok (.iconst 0, 1) := by decide +kernel
theorem sX11_read_111 (k : X w mX11_read d Q 112 ls (.int (0 : Int32) :: st) P) : X w mX11_read d Q 111 ls st P := X_iconst (M := mX11_read) (dX11_read_111) (by decide) k
theorem dX11_read_112 : decode cX11_read 112 = .ok (.invokevirtual 127, 3) := by decide +kernel
theorem sX11_read_112_g {b : Nat} {fs : List Value} {a0 : Int32} {Qc : Outcome → xH → Prop} (hst : (st.map fun v => v.category).sum ≤ 8) (hP : P.1 b = some (xO 9 fs)) (hC : xC w d mX11_need [.ref b, .int a0] P Qc) (kr : ∀ v P1, Qc (.returned v) P1 → X w mX11_read (d + 1) Q 115 ls (v.toList ++ st) P1) (kt : ∀ q P1, Qc (.threw q) P1 → Xt w mX11_read (d + 1) Q 112 ls st P1 q) : X w mX11_read (d + 1) Q 112 ls (.int a0 :: .ref b :: st) P := X_callV (M := mX11_read) (MC := mX11_need) (As := [.int a0]) (T := TX11) (dX11_read_112) calX11_need xw_448 xw_449 xw_450 rfl rfl hP hC hst kr kt
theorem sX11_read_112 {b : Nat} {fs : List Value} {a0 : Int32} {P1 : xH} (hst : (st.map fun v => v.category).sum ≤ 8) (hP : P.1 b = some (xO 9 fs)) (hC : xC w d mX11_need [.ref b, .int a0] P (xRet none P1)) (k : X w mX11_read (d + 1) Q 115 ls st P1) : X w mX11_read (d + 1) Q 112 ls (.int a0 :: .ref b :: st) P := X_callV (M := mX11_read) (MC := mX11_need) (As := [.int a0]) (T := TX11) (dX11_read_112) calX11_need xw_448 xw_449 xw_450 rfl rfl hP hC hst (fun v P2 h => by obtain ⟨h1, rfl⟩ := h; cases h1; exact k) (fun q P2 h => by cases h.1)
theorem sX11_read_112_r {b : Nat} {fs : List Value} {a0 : Int32} {Rp : xH → Prop} (hst : (st.map fun v => v.category).sum ≤ 8) (hP : P.1 b = some (xO 9 fs)) (hC : xC w d mX11_need [.ref b, .int a0] P (xRl none Rp)) (k : ∀ P1, Rp P1 → X w mX11_read (d + 1) Q 115 ls st P1) : X w mX11_read (d + 1) Q 112 ls (.int a0 :: .ref b :: st) P := X_callV (M := mX11_read) (MC := mX11_need) (As := [.int a0]) (T := TX11) (dX11_read_112) calX11_need xw_448 xw_449 xw_450 rfl rfl hP hC hst (fun v P2 h => by obtain ⟨h1, hR⟩ := h; cases h1; exact k P2 hR) (fun q P2 h => by cases h.1)
theorem sX11_read_112_t {b : Nat} {fs : List Value} {a0 : Int32} {q : Nat} {P1 : xH} (hst : (st.map fun v => v.category).sum ≤ 8) (hP : P.1 b = some (xO 9 fs)) (hC : xC w d mX11_need [.ref b, .int a0] P (xThr q P1)) (hq : Q (.threw q) P1) : X w mX11_read (d + 1) Q 112 ls (.int a0 :: .ref b :: st) P := X_callV (M := mX11_read) (MC := mX11_need) (As := [.int a0]) (T := TX11) (dX11_read_112) calX11_need xw_448 xw_449 xw_450 rfl rfl hP hC hst (fun v P2 h => by cases h.1) (fun q2 P2 h => by obtain ⟨h1, rfl⟩ := h; cases h1; exact Xt_out rfl hq)
theorem dX11_read_115 : decode cX11_read 115 = .ok (.goto (-66), 3) := by decide +kernel
theorem sX11_read_115 (k : X w mX11_read d Q 49 ls st P) : X w mX11_read d Q 115 ls st P := X_goto (M := mX11_read) (dX11_read_115) (by decide) k
theorem dX11_read_118 : decode cX11_read 118 = .ok (.aload_n 0, 1) := by decide +kernel
theorem sX11_read_118 {x : Nat} (k : X w mX11_read d Q 119 [some (.ref x)] (.ref x :: st) P) : X w mX11_read d Q 118 [some (.ref x)] st P := X_aload_n (M := mX11_read) (dX11_read_118) rfl rfl k
theorem dX11_read_119 : decode cX11_read 119 = .ok (.iconst 0, 1) := by decide +kernel
theorem sX11_read_119 (k : X w mX11_read d Q 120 ls (.int (0 : Int32) :: st) P) : X w mX11_read d Q 119 ls st P := X_iconst (M := mX11_read) (dX11_read_119) (by decide) k
theorem dX11_read_120 : decode cX11_read 120 = .ok (.putfield 92, 3) := by decide +kernel
theorem sX11_read_120 {a : Nat} {fs : List Value} {v : Int32} (hP : P.1 a = some (xO 9 fs)) (hl : 1 < fs.length) (k : X w mX11_read d Q 123 ls st (xs P a (xO 9 (fs.set 1 (.int v))))) : X w mX11_read d Q 120 ls (.int v :: .ref a :: st) P := X_put (M := mX11_read) (j := 1) (T := TX11) (dX11_read_120) rfl (by decide) x_c11 xw_431 rfl hP rfl rfl hl k
theorem dX11_read_123 : decode cX11_read 123 = .ok (.aload_n 0, 1) := by decide +kernel
theorem sX11_read_123 {x : Nat} (k : X w mX11_read d Q 124 [some (.ref x)] (.ref x :: st) P) : X w mX11_read d Q 123 [some (.ref x)] st P := X_aload_n (M := mX11_read) (dX11_read_123) rfl rfl k
theorem dX11_read_124 : decode cX11_read 124 = .ok (.getfield 117, 3) := by decide +kernel
theorem sX11_read_124 {a : Nat} {fs : List Value} {v : Int32} (hP : P.1 a = some (xO 9 fs)) (hv : fs[28]? = some (.int v)) (k : X w mX11_read d Q 127 ls (.int v :: st) P) : X w mX11_read d Q 124 ls (.ref a :: st) P := X_get (M := mX11_read) (j := 28) (T := TX11) (dX11_read_124) rfl (by decide) x_in11 xw_441 hP hv k
theorem dX11_read_127 : decode cX11_read 127 = .ok (.ifCond .ne 10, 3) := by decide +kernel
theorem sX11_read_127 {x : Int32} (kt : ¬ x = 0 → X w mX11_read d Q 137 ls st P) (kf : x = 0 → X w mX11_read d Q 130 ls st P) : X w mX11_read d Q 127 ls (.int x :: st) P := X_if_ne (M := mX11_read) (dX11_read_127) (by decide) kt kf
theorem dX11_read_130 : decode cX11_read 130 = .ok (.iconst (-1), 1) := by decide +kernel
theorem sX11_read_130 (k : X w mX11_read d Q 131 ls (.int (-1 : Int32) :: st) P) : X w mX11_read d Q 130 ls st P := X_iconst (M := mX11_read) (dX11_read_130) (by decide) k
theorem dX11_read_131 : decode cX11_read 131 = .ok (.aload_n 0, 1) := by decide +kernel
theorem sX11_read_131 {x : Nat} (k : X w mX11_read d Q 132 [some (.ref x)] (.ref x :: st) P) : X w mX11_read d Q 131 [some (.ref x)] st P := X_aload_n (M := mX11_read) (dX11_read_131) rfl rfl k
theorem dX11_read_132 : decode cX11_read 132 = .ok (.getfield 95, 3) := by decide +kernel
theorem sX11_read_132 {a : Nat} {fs : List Value} {v : Int32} (hP : P.1 a = some (xO 9 fs)) (hv : fs[23]? = some (.int v)) (k : X w mX11_read d Q 135 ls (.int v :: st) P) : X w mX11_read d Q 132 ls (.ref a :: st) P := X_get (M := mX11_read) (j := 23) (T := TX11) (dX11_read_132) rfl (by decide) x_in11 xw_432 hP hv k
theorem dX11_read_135 : decode cX11_read 135 = .ok (.isub, 1) := by decide +kernel
theorem sX11_read_135 {x y : Int32} (k : X w mX11_read d Q 136 ls (.int (x - y) :: st) P) : X w mX11_read d Q 135 ls (.int y :: .int x :: st) P := X_isub (M := mX11_read) (dX11_read_135) k
theorem dX11_read_136 : decode cX11_read 136 = .ok (.ireturn, 1) := by decide +kernel
theorem sX11_read_136 {v : Int32} (hq : Q (.returned (some (.int v))) P) : X w mX11_read d Q 136 ls [.int v] P := X_iret (M := mX11_read) (dX11_read_136) rfl hq
theorem dX11_read_137 : decode cX11_read 137 = .ok (.aload_n 0, 1) := by decide +kernel
theorem sX11_read_137 {x : Nat} (k : X w mX11_read d Q 138 [some (.ref x)] (.ref x :: st) P) : X w mX11_read d Q 137 [some (.ref x)] st P := X_aload_n (M := mX11_read) (dX11_read_137) rfl rfl k
theorem dX11_read_138 : decode cX11_read 138 = .ok (.aload_n 0, 1) := by decide +kernel
theorem sX11_read_138 {x : Nat} (k : X w mX11_read d Q 139 [some (.ref x)] (.ref x :: st) P) : X w mX11_read d Q 138 [some (.ref x)] st P := X_aload_n (M := mX11_read) (dX11_read_138) rfl rfl k
theorem dX11_read_139 : decode cX11_read 139 = .ok (.getfield 138, 3) := by decide +kernel
theorem sX11_read_139 {a : Nat} {fs : List Value} {v : Int32} (hP : P.1 a = some (xO 9 fs)) (hv : fs[29]? = some (.int v)) (k : X w mX11_read d Q 142 ls (.int v :: st) P) : X w mX11_read d Q 139 ls (.ref a :: st) P := X_get (M := mX11_read) (j := 29) (T := TX11) (dX11_read_139) rfl (by decide) x_in11 xw_456 hP hv k
theorem dX11_read_142 : decode cX11_read 142 = .ok (.putfield 226, 3) := by decide +kernel
theorem sX11_read_142 {a : Nat} {fs : List Value} {v : Int32} (hP : P.1 a = some (xO 9 fs)) (hl : 3 < fs.length) (k : X w mX11_read d Q 145 ls st (xs P a (xO 9 (fs.set 3 (.int v))))) : X w mX11_read d Q 142 ls (.int v :: .ref a :: st) P := X_put (M := mX11_read) (j := 3) (T := TX11) (dX11_read_142) rfl (by decide) x_c11 xw_521 rfl hP rfl rfl hl k
theorem dX11_read_145 : decode cX11_read 145 = .ok (.aload_n 0, 1) := by decide +kernel
theorem sX11_read_145 {x : Nat} (k : X w mX11_read d Q 146 [some (.ref x)] (.ref x :: st) P) : X w mX11_read d Q 145 [some (.ref x)] st P := X_aload_n (M := mX11_read) (dX11_read_145) rfl rfl k
theorem dX11_read_146 : decode cX11_read 146 = .ok (.getfield 35, 3) := by decide +kernel
theorem sX11_read_146 {a : Nat} {fs : List Value} {v : Nat} (hP : P.1 a = some (xO 9 fs)) (hv : fs[11]? = some (.ref v)) (k : X w mX11_read d Q 149 ls (.ref v :: st) P) : X w mX11_read d Q 146 ls (.ref a :: st) P := X_get (M := mX11_read) (j := 11) (T := TX11) (dX11_read_146) rfl (by decide) x_in11 xw_412 hP hv k
theorem dX11_read_149 : decode cX11_read 149 = .ok (.aload_n 0, 1) := by decide +kernel
theorem sX11_read_149 {x : Nat} (k : X w mX11_read d Q 150 [some (.ref x)] (.ref x :: st) P) : X w mX11_read d Q 149 [some (.ref x)] st P := X_aload_n (M := mX11_read) (dX11_read_149) rfl rfl k
theorem dX11_read_150 : decode cX11_read 150 = .ok (.getfield 226, 3) := by decide +kernel
theorem sX11_read_150 {a : Nat} {fs : List Value} {v : Int32} (hP : P.1 a = some (xO 9 fs)) (hv : fs[3]? = some (.int v)) (k : X w mX11_read d Q 153 ls (.int v :: st) P) : X w mX11_read d Q 150 ls (.ref a :: st) P := X_get (M := mX11_read) (j := 3) (T := TX11) (dX11_read_150) rfl (by decide) x_in11 xw_521 hP hv k
theorem dX11_read_153 : decode cX11_read 153 = .ok (.iaload, 1) := by decide +kernel
theorem sX11_read_153 {a n : Nat} {f : Nat → Int32} {i : Int32} (hP : P.1 a = some (xA 0 n f)) (hi : vp_in i n) (k : X w mX11_read d Q 154 ls (.int (f i.toNatClampNeg) :: st) P) : X w mX11_read d Q 153 ls (.int i :: .ref a :: st) P := X_iald (M := mX11_read) (dX11_read_153) hP hi k
theorem dX11_read_154 : decode cX11_read 154 = .ok (.ireturn, 1) := by decide +kernel
theorem sX11_read_154 {v : Int32} (hq : Q (.returned (some (.int v))) P) : X w mX11_read d Q 154 ls [.int v] P := X_iret (M := mX11_read) (dX11_read_154) rfl hq
theorem dX11_isCell_0 : decode cX11_isCell 0 = .ok (.iload_n 1, 1) := by decide +kernel
theorem sX11_isCell_0 {l0 : Option Value} {x : Int32} (k : X w mX11_isCell d Q 1 [l0, some (.int x)] (.int x :: st) P) : X w mX11_isCell d Q 0 [l0, some (.int x)] st P := X_iload_n (M := mX11_isCell) (dX11_isCell_0) rfl rfl k
theorem dX11_isCell_1 : decode cX11_isCell 1 = .ok (.ifCond .lt 20, 3) := by decide +kernel
theorem sX11_isCell_1 {x : Int32} (kt : x < 0 → X w mX11_isCell d Q 21 ls st P) (kf : ¬ x < 0 → X w mX11_isCell d Q 4 ls st P) : X w mX11_isCell d Q 1 ls (.int x :: st) P := X_if_lt (M := mX11_isCell) (dX11_isCell_1) (by decide) kt kf
theorem dX11_isCell_4 : decode cX11_isCell 4 = .ok (.iload_n 1, 1) := by decide +kernel
theorem sX11_isCell_4 {l0 : Option Value} {x : Int32} (k : X w mX11_isCell d Q 5 [l0, some (.int x)] (.int x :: st) P) : X w mX11_isCell d Q 4 [l0, some (.int x)] st P := X_iload_n (M := mX11_isCell) (dX11_isCell_4) rfl rfl k
theorem dX11_isCell_5 : decode cX11_isCell 5 = .ok (.aload_n 0, 1) := by decide +kernel
theorem sX11_isCell_5 {l1 : Option Value} {x : Nat} (k : X w mX11_isCell d Q 6 [some (.ref x), l1] (.ref x :: st) P) : X w mX11_isCell d Q 5 [some (.ref x), l1] st P := X_aload_n (M := mX11_isCell) (dX11_isCell_5) rfl rfl k
theorem dX11_isCell_6 : decode cX11_isCell 6 = .ok (.getfield 35, 3) := by decide +kernel
theorem sX11_isCell_6 {a : Nat} {fs : List Value} {v : Nat} (hP : P.1 a = some (xO 9 fs)) (hv : fs[11]? = some (.ref v)) (k : X w mX11_isCell d Q 9 ls (.ref v :: st) P) : X w mX11_isCell d Q 6 ls (.ref a :: st) P := X_get (M := mX11_isCell) (j := 11) (T := TX11) (dX11_isCell_6) rfl (by decide) x_in11 xw_412 hP hv k
theorem dX11_isCell_9 : decode cX11_isCell 9 = .ok (.aload_n 0, 1) := by decide +kernel
theorem sX11_isCell_9 {l1 : Option Value} {x : Nat} (k : X w mX11_isCell d Q 10 [some (.ref x), l1] (.ref x :: st) P) : X w mX11_isCell d Q 9 [some (.ref x), l1] st P := X_aload_n (M := mX11_isCell) (dX11_isCell_9) rfl rfl k
theorem dX11_isCell_10 : decode cX11_isCell 10 = .ok (.getfield 226, 3) := by decide +kernel
theorem sX11_isCell_10 {a : Nat} {fs : List Value} {v : Int32} (hP : P.1 a = some (xO 9 fs)) (hv : fs[3]? = some (.int v)) (k : X w mX11_isCell d Q 13 ls (.int v :: st) P) : X w mX11_isCell d Q 10 ls (.ref a :: st) P := X_get (M := mX11_isCell) (j := 3) (T := TX11) (dX11_isCell_10) rfl (by decide) x_in11 xw_521 hP hv k
theorem dX11_isCell_13 : decode cX11_isCell 13 = .ok (.iaload, 1) := by decide +kernel
theorem sX11_isCell_13 {a n : Nat} {f : Nat → Int32} {i : Int32} (hP : P.1 a = some (xA 0 n f)) (hi : vp_in i n) (k : X w mX11_isCell d Q 14 ls (.int (f i.toNatClampNeg) :: st) P) : X w mX11_isCell d Q 13 ls (.int i :: .ref a :: st) P := X_iald (M := mX11_isCell) (dX11_isCell_13) hP hi k
theorem dX11_isCell_14 : decode cX11_isCell 14 = .ok (.if_icmp .ge 7, 3) := by decide +kernel
theorem sX11_isCell_14 {x y : Int32} (kt : y ≤ x → X w mX11_isCell d Q 21 ls st P) (kf : ¬ y ≤ x → X w mX11_isCell d Q 17 ls st P) : X w mX11_isCell d Q 14 ls (.int y :: .int x :: st) P := X_icmp_ge (M := mX11_isCell) (dX11_isCell_14) (by decide) kt kf
theorem dX11_isCell_17 : decode cX11_isCell 17 = .ok (.iconst 1, 1) := by decide +kernel
theorem sX11_isCell_17 (k : X w mX11_isCell d Q 18 ls (.int (1 : Int32) :: st) P) : X w mX11_isCell d Q 17 ls st P := X_iconst (M := mX11_isCell) (dX11_isCell_17) (by decide) k
theorem dX11_isCell_18 : decode cX11_isCell 18 = .ok (.goto 4, 3) := by decide +kernel
theorem sX11_isCell_18 (k : X w mX11_isCell d Q 22 ls st P) : X w mX11_isCell d Q 18 ls st P := X_goto (M := mX11_isCell) (dX11_isCell_18) (by decide) k
theorem dX11_isCell_21 : decode cX11_isCell 21 = .ok (.iconst 0, 1) := by decide +kernel
theorem sX11_isCell_21 (k : X w mX11_isCell d Q 22 ls (.int (0 : Int32) :: st) P) : X w mX11_isCell d Q 21 ls st P := X_iconst (M := mX11_isCell) (dX11_isCell_21) (by decide) k
theorem dX11_isCell_22 : decode cX11_isCell 22 = .ok (.ireturn, 1) := by decide +kernel
theorem sX11_isCell_22 {v : Int32} (hb : v = 0 ∨ v = 1) (hq : Q (.returned (some (.int v))) P) : X w mX11_isCell d Q 22 ls [.int v] P := X_zret (M := mX11_isCell) (ty := .boolean) (dX11_isCell_22) rfl (xz_n hb) hq
theorem dX11_senseOf_0 : decode cX11_senseOf 0 = .ok (.iconst 0, 1) := by decide +kernel
theorem sX11_senseOf_0 (k : X w mX11_senseOf d Q 1 ls (.int (0 : Int32) :: st) P) : X w mX11_senseOf d Q 0 ls st P := X_iconst (M := mX11_senseOf) (dX11_senseOf_0) (by decide) k
theorem dX11_senseOf_1 : decode cX11_senseOf 1 = .ok (.istore 4, 2) := by decide +kernel
theorem sX11_senseOf_1 {l0 l1 l2 l3 l4 l5 l6 l7 : Option Value} {x : Int32} (hn : xnl l3 = true) (k : X w mX11_senseOf d Q 3 [l0, l1, l2, l3, some (.int x), l5, l6, l7] st P) : X w mX11_senseOf d Q 1 [l0, l1, l2, l3, l4, l5, l6, l7] (.int x :: st) P := X_istore (M := mX11_senseOf) (dX11_senseOf_1) (by decide) rfl (xnl_p (ls := [l0, l1, l2, l3, l4, l5, l6, l7]) (j := 3) rfl hn) k
theorem dX11_senseOf_3 : decode cX11_senseOf 3 = .ok (.iconst 0, 1) := by decide +kernel
theorem sX11_senseOf_3 (k : X w mX11_senseOf d Q 4 ls (.int (0 : Int32) :: st) P) : X w mX11_senseOf d Q 3 ls st P := X_iconst (M := mX11_senseOf) (dX11_senseOf_3) (by decide) k
theorem dX11_senseOf_4 : decode cX11_senseOf 4 = .ok (.istore 5, 2) := by decide +kernel
theorem sX11_senseOf_4 {l0 l1 l2 l3 l4 l5 l6 l7 : Option Value} {x : Int32} (hn : xnl l4 = true) (k : X w mX11_senseOf d Q 6 [l0, l1, l2, l3, l4, some (.int x), l6, l7] st P) : X w mX11_senseOf d Q 4 [l0, l1, l2, l3, l4, l5, l6, l7] (.int x :: st) P := X_istore (M := mX11_senseOf) (dX11_senseOf_4) (by decide) rfl (xnl_p (ls := [l0, l1, l2, l3, l4, l5, l6, l7]) (j := 4) rfl hn) k
theorem dX11_senseOf_6 : decode cX11_senseOf 6 = .ok (.iconst 0, 1) := by decide +kernel
theorem sX11_senseOf_6 (k : X w mX11_senseOf d Q 7 ls (.int (0 : Int32) :: st) P) : X w mX11_senseOf d Q 6 ls st P := X_iconst (M := mX11_senseOf) (dX11_senseOf_6) (by decide) k
theorem dX11_senseOf_7 : decode cX11_senseOf 7 = .ok (.istore 6, 2) := by decide +kernel
theorem sX11_senseOf_7 {l0 l1 l2 l3 l4 l5 l6 l7 : Option Value} {x : Int32} (hn : xnl l5 = true) (k : X w mX11_senseOf d Q 9 [l0, l1, l2, l3, l4, l5, some (.int x), l7] st P) : X w mX11_senseOf d Q 7 [l0, l1, l2, l3, l4, l5, l6, l7] (.int x :: st) P := X_istore (M := mX11_senseOf) (dX11_senseOf_7) (by decide) rfl (xnl_p (ls := [l0, l1, l2, l3, l4, l5, l6, l7]) (j := 5) rfl hn) k
theorem dX11_senseOf_9 : decode cX11_senseOf 9 = .ok (.iload 6, 2) := by decide +kernel
theorem sX11_senseOf_9 {l0 l1 l2 l3 l4 l5 l7 : Option Value} {x : Int32} (k : X w mX11_senseOf d Q 11 [l0, l1, l2, l3, l4, l5, some (.int x), l7] (.int x :: st) P) : X w mX11_senseOf d Q 9 [l0, l1, l2, l3, l4, l5, some (.int x), l7] st P := X_iload (M := mX11_senseOf) (dX11_senseOf_9) rfl k
theorem dX11_senseOf_11 : decode cX11_senseOf 11 = .ok (.iconst 1, 1) := by decide +kernel
theorem sX11_senseOf_11 (k : X w mX11_senseOf d Q 12 ls (.int (1 : Int32) :: st) P) : X w mX11_senseOf d Q 11 ls st P := X_iconst (M := mX11_senseOf) (dX11_senseOf_11) (by decide) k
theorem dX11_senseOf_12 : decode cX11_senseOf 12 = .ok (.iload_n 3, 1) := by decide +kernel
theorem sX11_senseOf_12 {l0 l1 l2 l4 l5 l6 l7 : Option Value} {x : Int32} (k : X w mX11_senseOf d Q 13 [l0, l1, l2, some (.int x), l4, l5, l6, l7] (.int x :: st) P) : X w mX11_senseOf d Q 12 [l0, l1, l2, some (.int x), l4, l5, l6, l7] st P := X_iload_n (M := mX11_senseOf) (dX11_senseOf_12) rfl rfl k
theorem dX11_senseOf_13 : decode cX11_senseOf 13 = .ok (.ishl, 1) := by decide +kernel
theorem sX11_senseOf_13 {x y : Int32} (k : X w mX11_senseOf d Q 14 ls (.int (x <<< (y &&& 31)) :: st) P) : X w mX11_senseOf d Q 13 ls (.int y :: .int x :: st) P := X_ishl (M := mX11_senseOf) (dX11_senseOf_13) k
theorem dX11_senseOf_14 : decode cX11_senseOf 14 = .ok (.if_icmp .ge 80, 3) := by decide +kernel
theorem sX11_senseOf_14 {x y : Int32} (kt : y ≤ x → X w mX11_senseOf d Q 94 ls st P) (kf : ¬ y ≤ x → X w mX11_senseOf d Q 17 ls st P) : X w mX11_senseOf d Q 14 ls (.int y :: .int x :: st) P := X_icmp_ge (M := mX11_senseOf) (dX11_senseOf_14) (by decide) kt kf
theorem dX11_senseOf_17 : decode cX11_senseOf 17 = .ok (.iload 6, 2) := by decide +kernel
theorem sX11_senseOf_17 {l0 l1 l2 l3 l4 l5 l7 : Option Value} {x : Int32} (k : X w mX11_senseOf d Q 19 [l0, l1, l2, l3, l4, l5, some (.int x), l7] (.int x :: st) P) : X w mX11_senseOf d Q 17 [l0, l1, l2, l3, l4, l5, some (.int x), l7] st P := X_iload (M := mX11_senseOf) (dX11_senseOf_17) rfl k
theorem dX11_senseOf_19 : decode cX11_senseOf 19 = .ok (.iconst 1, 1) := by decide +kernel
theorem sX11_senseOf_19 (k : X w mX11_senseOf d Q 20 ls (.int (1 : Int32) :: st) P) : X w mX11_senseOf d Q 19 ls st P := X_iconst (M := mX11_senseOf) (dX11_senseOf_19) (by decide) k
theorem dX11_senseOf_20 : decode cX11_senseOf 20 = .ok (.iload_n 2, 1) := by decide +kernel
theorem sX11_senseOf_20 {l0 l1 l3 l4 l5 l6 l7 : Option Value} {x : Int32} (k : X w mX11_senseOf d Q 21 [l0, l1, some (.int x), l3, l4, l5, l6, l7] (.int x :: st) P) : X w mX11_senseOf d Q 20 [l0, l1, some (.int x), l3, l4, l5, l6, l7] st P := X_iload_n (M := mX11_senseOf) (dX11_senseOf_20) rfl rfl k
theorem dX11_senseOf_21 : decode cX11_senseOf 21 = .ok (.ishl, 1) := by decide +kernel
theorem sX11_senseOf_21 {x y : Int32} (k : X w mX11_senseOf d Q 22 ls (.int (x <<< (y &&& 31)) :: st) P) : X w mX11_senseOf d Q 21 ls (.int y :: .int x :: st) P := X_ishl (M := mX11_senseOf) (dX11_senseOf_21) k
theorem dX11_senseOf_22 : decode cX11_senseOf 22 = .ok (.ior, 1) := by decide +kernel
theorem sX11_senseOf_22 {x y : Int32} (k : X w mX11_senseOf d Q 23 ls (.int (x ||| y) :: st) P) : X w mX11_senseOf d Q 22 ls (.int y :: .int x :: st) P := X_ior (M := mX11_senseOf) (dX11_senseOf_22) k
theorem dX11_senseOf_23 : decode cX11_senseOf 23 = .ok (.istore 7, 2) := by decide +kernel
theorem sX11_senseOf_23 {l0 l1 l2 l3 l4 l5 l6 l7 : Option Value} {x : Int32} (hn : xnl l6 = true) (k : X w mX11_senseOf d Q 25 [l0, l1, l2, l3, l4, l5, l6, some (.int x)] st P) : X w mX11_senseOf d Q 23 [l0, l1, l2, l3, l4, l5, l6, l7] (.int x :: st) P := X_istore (M := mX11_senseOf) (dX11_senseOf_23) (by decide) rfl (xnl_p (ls := [l0, l1, l2, l3, l4, l5, l6, l7]) (j := 6) rfl hn) k
theorem dX11_senseOf_25 : decode cX11_senseOf 25 = .ok (.iload 6, 2) := by decide +kernel
theorem sX11_senseOf_25 {l0 l1 l2 l3 l4 l5 l7 : Option Value} {x : Int32} (k : X w mX11_senseOf d Q 27 [l0, l1, l2, l3, l4, l5, some (.int x), l7] (.int x :: st) P) : X w mX11_senseOf d Q 25 [l0, l1, l2, l3, l4, l5, some (.int x), l7] st P := X_iload (M := mX11_senseOf) (dX11_senseOf_25) rfl k
theorem dX11_senseOf_27 : decode cX11_senseOf 27 = .ok (.iload 7, 2) := by decide +kernel
theorem sX11_senseOf_27 {l0 l1 l2 l3 l4 l5 l6 : Option Value} {x : Int32} (k : X w mX11_senseOf d Q 29 [l0, l1, l2, l3, l4, l5, l6, some (.int x)] (.int x :: st) P) : X w mX11_senseOf d Q 27 [l0, l1, l2, l3, l4, l5, l6, some (.int x)] st P := X_iload (M := mX11_senseOf) (dX11_senseOf_27) rfl k
theorem dX11_senseOf_29 : decode cX11_senseOf 29 = .ok (.if_icmp .eq 59, 3) := by decide +kernel
theorem sX11_senseOf_29 {x y : Int32} (kt : x = y → X w mX11_senseOf d Q 88 ls st P) (kf : ¬ x = y → X w mX11_senseOf d Q 32 ls st P) : X w mX11_senseOf d Q 29 ls (.int y :: .int x :: st) P := X_icmp_eq (M := mX11_senseOf) (dX11_senseOf_29) (by decide) kt kf
theorem dX11_senseOf_32 : decode cX11_senseOf 32 = .ok (.iload 4, 2) := by decide +kernel
theorem sX11_senseOf_32 {l0 l1 l2 l3 l5 l6 l7 : Option Value} {x : Int32} (k : X w mX11_senseOf d Q 34 [l0, l1, l2, l3, some (.int x), l5, l6, l7] (.int x :: st) P) : X w mX11_senseOf d Q 32 [l0, l1, l2, l3, some (.int x), l5, l6, l7] st P := X_iload (M := mX11_senseOf) (dX11_senseOf_32) rfl k
theorem dX11_senseOf_34 : decode cX11_senseOf 34 = .ok (.ifCond .ne 19, 3) := by decide +kernel
theorem sX11_senseOf_34 {x : Int32} (kt : ¬ x = 0 → X w mX11_senseOf d Q 53 ls st P) (kf : x = 0 → X w mX11_senseOf d Q 37 ls st P) : X w mX11_senseOf d Q 34 ls (.int x :: st) P := X_if_ne (M := mX11_senseOf) (dX11_senseOf_34) (by decide) kt kf
theorem dX11_senseOf_37 : decode cX11_senseOf 37 = .ok (.lload_n 0, 1) := by decide +kernel
theorem sX11_senseOf_37 {l1 l2 l3 l4 l5 l6 l7 : Option Value} {x : Int64} (k : X w mX11_senseOf d Q 38 [some (.long x), l1, l2, l3, l4, l5, l6, l7] (.long x :: st) P) : X w mX11_senseOf d Q 37 [some (.long x), l1, l2, l3, l4, l5, l6, l7] st P := X_lload_n (M := mX11_senseOf) (dX11_senseOf_37) rfl rfl k
theorem dX11_senseOf_38 : decode cX11_senseOf 38 = .ok (.iload 6, 2) := by decide +kernel
theorem sX11_senseOf_38 {l0 l1 l2 l3 l4 l5 l7 : Option Value} {x : Int32} (k : X w mX11_senseOf d Q 40 [l0, l1, l2, l3, l4, l5, some (.int x), l7] (.int x :: st) P) : X w mX11_senseOf d Q 38 [l0, l1, l2, l3, l4, l5, some (.int x), l7] st P := X_iload (M := mX11_senseOf) (dX11_senseOf_38) rfl k
theorem dX11_senseOf_40 : decode cX11_senseOf 40 = .ok (.lshr, 1) := by decide +kernel
theorem sX11_senseOf_40 {x : Int64} {y : Int32} (k : X w mX11_senseOf d Q 41 ls (.long (x >>> (y.toInt64 &&& 63)) :: st) P) : X w mX11_senseOf d Q 40 ls (.int y :: .long x :: st) P := X_lshr (M := mX11_senseOf) (dX11_senseOf_40) k
theorem dX11_senseOf_41 : decode cX11_senseOf 41 = .ok (.lconst 1, 1) := by decide +kernel
theorem sX11_senseOf_41 (k : X w mX11_senseOf d Q 42 ls (.long (1 : Int64) :: st) P) : X w mX11_senseOf d Q 41 ls st P := X_lconst (M := mX11_senseOf) (dX11_senseOf_41) (by decide) k
theorem dX11_senseOf_42 : decode cX11_senseOf 42 = .ok (.land, 1) := by decide +kernel
theorem sX11_senseOf_42 {x y : Int64} (k : X w mX11_senseOf d Q 43 ls (.long (x &&& y) :: st) P) : X w mX11_senseOf d Q 42 ls (.long y :: .long x :: st) P := X_land (M := mX11_senseOf) (dX11_senseOf_42) k
theorem dX11_senseOf_43 : decode cX11_senseOf 43 = .ok (.lload_n 0, 1) := by decide +kernel
theorem sX11_senseOf_43 {l1 l2 l3 l4 l5 l6 l7 : Option Value} {x : Int64} (k : X w mX11_senseOf d Q 44 [some (.long x), l1, l2, l3, l4, l5, l6, l7] (.long x :: st) P) : X w mX11_senseOf d Q 43 [some (.long x), l1, l2, l3, l4, l5, l6, l7] st P := X_lload_n (M := mX11_senseOf) (dX11_senseOf_43) rfl rfl k
theorem dX11_senseOf_44 : decode cX11_senseOf 44 = .ok (.iload 7, 2) := by decide +kernel
theorem sX11_senseOf_44 {l0 l1 l2 l3 l4 l5 l6 : Option Value} {x : Int32} (k : X w mX11_senseOf d Q 46 [l0, l1, l2, l3, l4, l5, l6, some (.int x)] (.int x :: st) P) : X w mX11_senseOf d Q 44 [l0, l1, l2, l3, l4, l5, l6, some (.int x)] st P := X_iload (M := mX11_senseOf) (dX11_senseOf_44) rfl k
theorem dX11_senseOf_46 : decode cX11_senseOf 46 = .ok (.lshr, 1) := by decide +kernel
theorem sX11_senseOf_46 {x : Int64} {y : Int32} (k : X w mX11_senseOf d Q 47 ls (.long (x >>> (y.toInt64 &&& 63)) :: st) P) : X w mX11_senseOf d Q 46 ls (.int y :: .long x :: st) P := X_lshr (M := mX11_senseOf) (dX11_senseOf_46) k
theorem dX11_senseOf_47 : decode cX11_senseOf 47 = .ok (.lconst 1, 1) := by decide +kernel
theorem sX11_senseOf_47 (k : X w mX11_senseOf d Q 48 ls (.long (1 : Int64) :: st) P) : X w mX11_senseOf d Q 47 ls st P := X_lconst (M := mX11_senseOf) (dX11_senseOf_47) (by decide) k
theorem dX11_senseOf_48 : decode cX11_senseOf 48 = .ok (.land, 1) := by decide +kernel
theorem sX11_senseOf_48 {x y : Int64} (k : X w mX11_senseOf d Q 49 ls (.long (x &&& y) :: st) P) : X w mX11_senseOf d Q 48 ls (.long y :: .long x :: st) P := X_land (M := mX11_senseOf) (dX11_senseOf_48) k
theorem dX11_senseOf_49 : decode cX11_senseOf 49 = .ok (.lcmp, 1) := by decide +kernel
theorem sX11_senseOf_49 {x y : Int64} (k : X w mX11_senseOf d Q 50 ls (.int (lg_cmp x y) :: st) P) : X w mX11_senseOf d Q 49 ls (.long y :: .long x :: st) P := X_lcmp (M := mX11_senseOf) (dX11_senseOf_49) k
theorem dX11_senseOf_50 : decode cX11_senseOf 50 = .ok (.ifCond .ge 7, 3) := by decide +kernel
theorem sX11_senseOf_50 {x : Int32} (kt : 0 ≤ x → X w mX11_senseOf d Q 57 ls st P) (kf : ¬ 0 ≤ x → X w mX11_senseOf d Q 53 ls st P) : X w mX11_senseOf d Q 50 ls (.int x :: st) P := X_if_ge (M := mX11_senseOf) (dX11_senseOf_50) (by decide) kt kf
theorem dX11_senseOf_53 : decode cX11_senseOf 53 = .ok (.iconst 1, 1) := by decide +kernel
theorem sX11_senseOf_53 (k : X w mX11_senseOf d Q 54 ls (.int (1 : Int32) :: st) P) : X w mX11_senseOf d Q 53 ls st P := X_iconst (M := mX11_senseOf) (dX11_senseOf_53) (by decide) k
theorem dX11_senseOf_54 : decode cX11_senseOf 54 = .ok (.goto 4, 3) := by decide +kernel
theorem sX11_senseOf_54 (k : X w mX11_senseOf d Q 58 ls st P) : X w mX11_senseOf d Q 54 ls st P := X_goto (M := mX11_senseOf) (dX11_senseOf_54) (by decide) k
theorem dX11_senseOf_57 : decode cX11_senseOf 57 = .ok (.iconst 0, 1) := by decide +kernel
theorem sX11_senseOf_57 (k : X w mX11_senseOf d Q 58 ls (.int (0 : Int32) :: st) P) : X w mX11_senseOf d Q 57 ls st P := X_iconst (M := mX11_senseOf) (dX11_senseOf_57) (by decide) k
theorem dX11_senseOf_58 : decode cX11_senseOf 58 = .ok (.istore 4, 2) := by decide +kernel
theorem sX11_senseOf_58 {l0 l1 l2 l3 l4 l5 l6 l7 : Option Value} {x : Int32} (hn : xnl l3 = true) (k : X w mX11_senseOf d Q 60 [l0, l1, l2, l3, some (.int x), l5, l6, l7] st P) : X w mX11_senseOf d Q 58 [l0, l1, l2, l3, l4, l5, l6, l7] (.int x :: st) P := X_istore (M := mX11_senseOf) (dX11_senseOf_58) (by decide) rfl (xnl_p (ls := [l0, l1, l2, l3, l4, l5, l6, l7]) (j := 3) rfl hn) k
theorem dX11_senseOf_60 : decode cX11_senseOf 60 = .ok (.iload 5, 2) := by decide +kernel
theorem sX11_senseOf_60 {l0 l1 l2 l3 l4 l6 l7 : Option Value} {x : Int32} (k : X w mX11_senseOf d Q 62 [l0, l1, l2, l3, l4, some (.int x), l6, l7] (.int x :: st) P) : X w mX11_senseOf d Q 60 [l0, l1, l2, l3, l4, some (.int x), l6, l7] st P := X_iload (M := mX11_senseOf) (dX11_senseOf_60) rfl k
theorem dX11_senseOf_62 : decode cX11_senseOf 62 = .ok (.ifCond .ne 19, 3) := by decide +kernel
theorem sX11_senseOf_62 {x : Int32} (kt : ¬ x = 0 → X w mX11_senseOf d Q 81 ls st P) (kf : x = 0 → X w mX11_senseOf d Q 65 ls st P) : X w mX11_senseOf d Q 62 ls (.int x :: st) P := X_if_ne (M := mX11_senseOf) (dX11_senseOf_62) (by decide) kt kf
theorem dX11_senseOf_65 : decode cX11_senseOf 65 = .ok (.lload_n 0, 1) := by decide +kernel
theorem sX11_senseOf_65 {l1 l2 l3 l4 l5 l6 l7 : Option Value} {x : Int64} (k : X w mX11_senseOf d Q 66 [some (.long x), l1, l2, l3, l4, l5, l6, l7] (.long x :: st) P) : X w mX11_senseOf d Q 65 [some (.long x), l1, l2, l3, l4, l5, l6, l7] st P := X_lload_n (M := mX11_senseOf) (dX11_senseOf_65) rfl rfl k
theorem dX11_senseOf_66 : decode cX11_senseOf 66 = .ok (.iload 6, 2) := by decide +kernel
theorem sX11_senseOf_66 {l0 l1 l2 l3 l4 l5 l7 : Option Value} {x : Int32} (k : X w mX11_senseOf d Q 68 [l0, l1, l2, l3, l4, l5, some (.int x), l7] (.int x :: st) P) : X w mX11_senseOf d Q 66 [l0, l1, l2, l3, l4, l5, some (.int x), l7] st P := X_iload (M := mX11_senseOf) (dX11_senseOf_66) rfl k
theorem dX11_senseOf_68 : decode cX11_senseOf 68 = .ok (.lshr, 1) := by decide +kernel
theorem sX11_senseOf_68 {x : Int64} {y : Int32} (k : X w mX11_senseOf d Q 69 ls (.long (x >>> (y.toInt64 &&& 63)) :: st) P) : X w mX11_senseOf d Q 68 ls (.int y :: .long x :: st) P := X_lshr (M := mX11_senseOf) (dX11_senseOf_68) k
theorem dX11_senseOf_69 : decode cX11_senseOf 69 = .ok (.lconst 1, 1) := by decide +kernel
theorem sX11_senseOf_69 (k : X w mX11_senseOf d Q 70 ls (.long (1 : Int64) :: st) P) : X w mX11_senseOf d Q 69 ls st P := X_lconst (M := mX11_senseOf) (dX11_senseOf_69) (by decide) k
theorem dX11_senseOf_70 : decode cX11_senseOf 70 = .ok (.land, 1) := by decide +kernel
theorem sX11_senseOf_70 {x y : Int64} (k : X w mX11_senseOf d Q 71 ls (.long (x &&& y) :: st) P) : X w mX11_senseOf d Q 70 ls (.long y :: .long x :: st) P := X_land (M := mX11_senseOf) (dX11_senseOf_70) k
theorem dX11_senseOf_71 : decode cX11_senseOf 71 = .ok (.lload_n 0, 1) := by decide +kernel
theorem sX11_senseOf_71 {l1 l2 l3 l4 l5 l6 l7 : Option Value} {x : Int64} (k : X w mX11_senseOf d Q 72 [some (.long x), l1, l2, l3, l4, l5, l6, l7] (.long x :: st) P) : X w mX11_senseOf d Q 71 [some (.long x), l1, l2, l3, l4, l5, l6, l7] st P := X_lload_n (M := mX11_senseOf) (dX11_senseOf_71) rfl rfl k
theorem dX11_senseOf_72 : decode cX11_senseOf 72 = .ok (.iload 7, 2) := by decide +kernel
theorem sX11_senseOf_72 {l0 l1 l2 l3 l4 l5 l6 : Option Value} {x : Int32} (k : X w mX11_senseOf d Q 74 [l0, l1, l2, l3, l4, l5, l6, some (.int x)] (.int x :: st) P) : X w mX11_senseOf d Q 72 [l0, l1, l2, l3, l4, l5, l6, some (.int x)] st P := X_iload (M := mX11_senseOf) (dX11_senseOf_72) rfl k
theorem dX11_senseOf_74 : decode cX11_senseOf 74 = .ok (.lshr, 1) := by decide +kernel
theorem sX11_senseOf_74 {x : Int64} {y : Int32} (k : X w mX11_senseOf d Q 75 ls (.long (x >>> (y.toInt64 &&& 63)) :: st) P) : X w mX11_senseOf d Q 74 ls (.int y :: .long x :: st) P := X_lshr (M := mX11_senseOf) (dX11_senseOf_74) k
theorem dX11_senseOf_75 : decode cX11_senseOf 75 = .ok (.lconst 1, 1) := by decide +kernel
theorem sX11_senseOf_75 (k : X w mX11_senseOf d Q 76 ls (.long (1 : Int64) :: st) P) : X w mX11_senseOf d Q 75 ls st P := X_lconst (M := mX11_senseOf) (dX11_senseOf_75) (by decide) k
theorem dX11_senseOf_76 : decode cX11_senseOf 76 = .ok (.land, 1) := by decide +kernel
theorem sX11_senseOf_76 {x y : Int64} (k : X w mX11_senseOf d Q 77 ls (.long (x &&& y) :: st) P) : X w mX11_senseOf d Q 76 ls (.long y :: .long x :: st) P := X_land (M := mX11_senseOf) (dX11_senseOf_76) k
theorem dX11_senseOf_77 : decode cX11_senseOf 77 = .ok (.lcmp, 1) := by decide +kernel
theorem sX11_senseOf_77 {x y : Int64} (k : X w mX11_senseOf d Q 78 ls (.int (lg_cmp x y) :: st) P) : X w mX11_senseOf d Q 77 ls (.long y :: .long x :: st) P := X_lcmp (M := mX11_senseOf) (dX11_senseOf_77) k
theorem dX11_senseOf_78 : decode cX11_senseOf 78 = .ok (.ifCond .le 7, 3) := by decide +kernel
theorem sX11_senseOf_78 {x : Int32} (kt : x ≤ 0 → X w mX11_senseOf d Q 85 ls st P) (kf : ¬ x ≤ 0 → X w mX11_senseOf d Q 81 ls st P) : X w mX11_senseOf d Q 78 ls (.int x :: st) P := X_if_le (M := mX11_senseOf) (dX11_senseOf_78) (by decide) kt kf
theorem dX11_senseOf_81 : decode cX11_senseOf 81 = .ok (.iconst 1, 1) := by decide +kernel
theorem sX11_senseOf_81 (k : X w mX11_senseOf d Q 82 ls (.int (1 : Int32) :: st) P) : X w mX11_senseOf d Q 81 ls st P := X_iconst (M := mX11_senseOf) (dX11_senseOf_81) (by decide) k
theorem dX11_senseOf_82 : decode cX11_senseOf 82 = .ok (.goto 4, 3) := by decide +kernel
theorem sX11_senseOf_82 (k : X w mX11_senseOf d Q 86 ls st P) : X w mX11_senseOf d Q 82 ls st P := X_goto (M := mX11_senseOf) (dX11_senseOf_82) (by decide) k
theorem dX11_senseOf_85 : decode cX11_senseOf 85 = .ok (.iconst 0, 1) := by decide +kernel
theorem sX11_senseOf_85 (k : X w mX11_senseOf d Q 86 ls (.int (0 : Int32) :: st) P) : X w mX11_senseOf d Q 85 ls st P := X_iconst (M := mX11_senseOf) (dX11_senseOf_85) (by decide) k
theorem dX11_senseOf_86 : decode cX11_senseOf 86 = .ok (.istore 5, 2) := by decide +kernel
theorem sX11_senseOf_86 {l0 l1 l2 l3 l4 l5 l6 l7 : Option Value} {x : Int32} (hn : xnl l4 = true) (k : X w mX11_senseOf d Q 88 [l0, l1, l2, l3, l4, some (.int x), l6, l7] st P) : X w mX11_senseOf d Q 86 [l0, l1, l2, l3, l4, l5, l6, l7] (.int x :: st) P := X_istore (M := mX11_senseOf) (dX11_senseOf_86) (by decide) rfl (xnl_p (ls := [l0, l1, l2, l3, l4, l5, l6, l7]) (j := 4) rfl hn) k
theorem dX11_senseOf_88 : decode cX11_senseOf 88 = .ok (.iinc 6 1, 3) := by decide +kernel
theorem sX11_senseOf_88 {l0 l1 l2 l3 l4 l5 l7 : Option Value} {x : Int32} (hn : xnl l5 = true) (k : X w mX11_senseOf d Q 91 [l0, l1, l2, l3, l4, l5, some (.int (x + (1 : Int32))), l7] st P) : X w mX11_senseOf d Q 88 [l0, l1, l2, l3, l4, l5, some (.int x), l7] st P := X_iinc (M := mX11_senseOf) (dX11_senseOf_88) rfl (by rfl) (by decide) rfl (xnl_p (ls := [l0, l1, l2, l3, l4, l5, some (.int x), l7]) (j := 5) rfl hn) k
theorem dX11_senseOf_91 : decode cX11_senseOf 91 = .ok (.goto (-82), 3) := by decide +kernel
theorem sX11_senseOf_91 (k : X w mX11_senseOf d Q 9 ls st P) : X w mX11_senseOf d Q 91 ls st P := X_goto (M := mX11_senseOf) (dX11_senseOf_91) (by decide) k
theorem dX11_senseOf_94 : decode cX11_senseOf 94 = .ok (.iload 4, 2) := by decide +kernel
theorem sX11_senseOf_94 {l0 l1 l2 l3 l5 l6 l7 : Option Value} {x : Int32} (k : X w mX11_senseOf d Q 96 [l0, l1, l2, l3, some (.int x), l5, l6, l7] (.int x :: st) P) : X w mX11_senseOf d Q 94 [l0, l1, l2, l3, some (.int x), l5, l6, l7] st P := X_iload (M := mX11_senseOf) (dX11_senseOf_94) rfl k
theorem dX11_senseOf_96 : decode cX11_senseOf 96 = .ok (.ifCond .eq 16, 3) := by decide +kernel
theorem sX11_senseOf_96 {x : Int32} (kt : x = 0 → X w mX11_senseOf d Q 112 ls st P) (kf : ¬ x = 0 → X w mX11_senseOf d Q 99 ls st P) : X w mX11_senseOf d Q 96 ls (.int x :: st) P := X_if_eq (M := mX11_senseOf) (dX11_senseOf_96) (by decide) kt kf
theorem dX11_senseOf_99 : decode cX11_senseOf 99 = .ok (.iload 5, 2) := by decide +kernel
theorem sX11_senseOf_99 {l0 l1 l2 l3 l4 l6 l7 : Option Value} {x : Int32} (k : X w mX11_senseOf d Q 101 [l0, l1, l2, l3, l4, some (.int x), l6, l7] (.int x :: st) P) : X w mX11_senseOf d Q 99 [l0, l1, l2, l3, l4, some (.int x), l6, l7] st P := X_iload (M := mX11_senseOf) (dX11_senseOf_99) rfl k
theorem dX11_senseOf_101 : decode cX11_senseOf 101 = .ok (.ifCond .eq 7, 3) := by decide +kernel
theorem sX11_senseOf_101 {x : Int32} (kt : x = 0 → X w mX11_senseOf d Q 108 ls st P) (kf : ¬ x = 0 → X w mX11_senseOf d Q 104 ls st P) : X w mX11_senseOf d Q 101 ls (.int x :: st) P := X_if_eq (M := mX11_senseOf) (dX11_senseOf_101) (by decide) kt kf
theorem dX11_senseOf_104 : decode cX11_senseOf 104 = .ok (.iconst 0, 1) := by decide +kernel
theorem sX11_senseOf_104 (k : X w mX11_senseOf d Q 105 ls (.int (0 : Int32) :: st) P) : X w mX11_senseOf d Q 104 ls st P := X_iconst (M := mX11_senseOf) (dX11_senseOf_104) (by decide) k
theorem dX11_senseOf_105 : decode cX11_senseOf 105 = .ok (.goto 17, 3) := by decide +kernel
theorem sX11_senseOf_105 (k : X w mX11_senseOf d Q 122 ls st P) : X w mX11_senseOf d Q 105 ls st P := X_goto (M := mX11_senseOf) (dX11_senseOf_105) (by decide) k
theorem dX11_senseOf_108 : decode cX11_senseOf 108 = .ok (.iconst 1, 1) := by decide +kernel
theorem sX11_senseOf_108 (k : X w mX11_senseOf d Q 109 ls (.int (1 : Int32) :: st) P) : X w mX11_senseOf d Q 108 ls st P := X_iconst (M := mX11_senseOf) (dX11_senseOf_108) (by decide) k
theorem dX11_senseOf_109 : decode cX11_senseOf 109 = .ok (.goto 13, 3) := by decide +kernel
theorem sX11_senseOf_109 (k : X w mX11_senseOf d Q 122 ls st P) : X w mX11_senseOf d Q 109 ls st P := X_goto (M := mX11_senseOf) (dX11_senseOf_109) (by decide) k
theorem dX11_senseOf_112 : decode cX11_senseOf 112 = .ok (.iload 5, 2) := by decide +kernel
theorem sX11_senseOf_112 {l0 l1 l2 l3 l4 l6 l7 : Option Value} {x : Int32} (k : X w mX11_senseOf d Q 114 [l0, l1, l2, l3, l4, some (.int x), l6, l7] (.int x :: st) P) : X w mX11_senseOf d Q 112 [l0, l1, l2, l3, l4, some (.int x), l6, l7] st P := X_iload (M := mX11_senseOf) (dX11_senseOf_112) rfl k
theorem dX11_senseOf_114 : decode cX11_senseOf 114 = .ok (.ifCond .eq 7, 3) := by decide +kernel
theorem sX11_senseOf_114 {x : Int32} (kt : x = 0 → X w mX11_senseOf d Q 121 ls st P) (kf : ¬ x = 0 → X w mX11_senseOf d Q 117 ls st P) : X w mX11_senseOf d Q 114 ls (.int x :: st) P := X_if_eq (M := mX11_senseOf) (dX11_senseOf_114) (by decide) kt kf
theorem dX11_senseOf_117 : decode cX11_senseOf 117 = .ok (.iconst (-1), 1) := by decide +kernel
theorem sX11_senseOf_117 (k : X w mX11_senseOf d Q 118 ls (.int (-1 : Int32) :: st) P) : X w mX11_senseOf d Q 117 ls st P := X_iconst (M := mX11_senseOf) (dX11_senseOf_117) (by decide) k
theorem dX11_senseOf_118 : decode cX11_senseOf 118 = .ok (.goto 4, 3) := by decide +kernel
theorem sX11_senseOf_118 (k : X w mX11_senseOf d Q 122 ls st P) : X w mX11_senseOf d Q 118 ls st P := X_goto (M := mX11_senseOf) (dX11_senseOf_118) (by decide) k
theorem dX11_senseOf_121 : decode cX11_senseOf 121 = .ok (.iconst 2, 1) := by decide +kernel
theorem sX11_senseOf_121 (k : X w mX11_senseOf d Q 122 ls (.int (2 : Int32) :: st) P) : X w mX11_senseOf d Q 121 ls st P := X_iconst (M := mX11_senseOf) (dX11_senseOf_121) (by decide) k
theorem dX11_senseOf_122 : decode cX11_senseOf 122 = .ok (.ireturn, 1) := by decide +kernel
theorem sX11_senseOf_122 {v : Int32} (hq : Q (.returned (some (.int v))) P) : X w mX11_senseOf d Q 122 ls [.int v] P := X_iret (M := mX11_senseOf) (dX11_senseOf_122) rfl hq
theorem dX11_agrees_0 : decode cX11_agrees 0 = .ok (.iconst 5, 1) := by decide +kernel
theorem sX11_agrees_0 (k : X w mX11_agrees d Q 1 ls (.int (5 : Int32) :: st) P) : X w mX11_agrees d Q 0 ls st P := X_iconst (M := mX11_agrees) (dX11_agrees_0) (by decide) k
theorem dX11_agrees_1 : decode cX11_agrees 1 = .ok (.bipush 10, 2) := by decide +kernel
theorem sX11_agrees_1 (k : X w mX11_agrees d Q 3 ls (.int (10 : Int32) :: st) P) : X w mX11_agrees d Q 1 ls st P := X_bipush (M := mX11_agrees) (dX11_agrees_1) (by decide) k
theorem dX11_agrees_3 : decode cX11_agrees 3 = .ok (.iload_n 1, 1) := by decide +kernel
theorem sX11_agrees_3 {l0 l2 l3 l4 l5 : Option Value} {x : Int32} (k : X w mX11_agrees d Q 4 [l0, some (.int x), l2, l3, l4, l5] (.int x :: st) P) : X w mX11_agrees d Q 3 [l0, some (.int x), l2, l3, l4, l5] st P := X_iload_n (M := mX11_agrees) (dX11_agrees_3) rfl rfl k
theorem dX11_agrees_4 : decode cX11_agrees 4 = .ok (.imul, 1) := by decide +kernel
theorem sX11_agrees_4 {x y : Int32} (k : X w mX11_agrees d Q 5 ls (.int (x * y) :: st) P) : X w mX11_agrees d Q 4 ls (.int y :: .int x :: st) P := X_imul (M := mX11_agrees) (dX11_agrees_4) k
theorem dX11_agrees_5 : decode cX11_agrees 5 = .ok (.iload_n 2, 1) := by decide +kernel
theorem sX11_agrees_5 {l0 l1 l3 l4 l5 : Option Value} {x : Int32} (k : X w mX11_agrees d Q 6 [l0, l1, some (.int x), l3, l4, l5] (.int x :: st) P) : X w mX11_agrees d Q 5 [l0, l1, some (.int x), l3, l4, l5] st P := X_iload_n (M := mX11_agrees) (dX11_agrees_5) rfl rfl k
theorem dX11_agrees_6 : decode cX11_agrees 6 = .ok (.iadd, 1) := by decide +kernel
theorem sX11_agrees_6 {x y : Int32} (k : X w mX11_agrees d Q 7 ls (.int (x + y) :: st) P) : X w mX11_agrees d Q 6 ls (.int y :: .int x :: st) P := X_iadd (M := mX11_agrees) (dX11_agrees_6) k
theorem dX11_agrees_7 : decode cX11_agrees 7 = .ok (.imul, 1) := by decide +kernel
theorem sX11_agrees_7 {x y : Int32} (k : X w mX11_agrees d Q 8 ls (.int (x * y) :: st) P) : X w mX11_agrees d Q 7 ls (.int y :: .int x :: st) P := X_imul (M := mX11_agrees) (dX11_agrees_7) k
theorem dX11_agrees_8 : decode cX11_agrees 8 = .ok (.istore_n 3, 1) := by decide +kernel
theorem sX11_agrees_8 {l0 l1 l2 l3 l4 l5 : Option Value} {x : Int32} (hn : xnl l2 = true) (k : X w mX11_agrees d Q 9 [l0, l1, l2, some (.int x), l4, l5] st P) : X w mX11_agrees d Q 8 [l0, l1, l2, l3, l4, l5] (.int x :: st) P := X_istore_n (M := mX11_agrees) (dX11_agrees_8) rfl (by decide) rfl (xnl_p (ls := [l0, l1, l2, l3, l4, l5]) (j := 2) rfl hn) k
theorem dX11_agrees_9 : decode cX11_agrees 9 = .ok (.aload_n 0, 1) := by decide +kernel
theorem sX11_agrees_9 {l1 l2 l3 l4 l5 : Option Value} {x : Nat} (k : X w mX11_agrees d Q 10 [some (.ref x), l1, l2, l3, l4, l5] (.ref x :: st) P) : X w mX11_agrees d Q 9 [some (.ref x), l1, l2, l3, l4, l5] st P := X_aload_n (M := mX11_agrees) (dX11_agrees_9) rfl rfl k
theorem dX11_agrees_10 : decode cX11_agrees 10 = .ok (.getfield 60, 3) := by decide +kernel
theorem sX11_agrees_10 {a : Nat} {fs : List Value} {v : Nat} (hP : P.1 a = some (xO 9 fs)) (hv : fs[19]? = some (.ref v)) (k : X w mX11_agrees d Q 13 ls (.ref v :: st) P) : X w mX11_agrees d Q 10 ls (.ref a :: st) P := X_get (M := mX11_agrees) (j := 19) (T := TX11) (dX11_agrees_10) rfl (by decide) x_in11 xw_420 hP hv k
theorem dX11_agrees_13 : decode cX11_agrees 13 = .ok (.iconst 3, 1) := by decide +kernel
theorem sX11_agrees_13 (k : X w mX11_agrees d Q 14 ls (.int (3 : Int32) :: st) P) : X w mX11_agrees d Q 13 ls st P := X_iconst (M := mX11_agrees) (dX11_agrees_13) (by decide) k
theorem dX11_agrees_14 : decode cX11_agrees 14 = .ok (.iload_n 1, 1) := by decide +kernel
theorem sX11_agrees_14 {l0 l2 l3 l4 l5 : Option Value} {x : Int32} (k : X w mX11_agrees d Q 15 [l0, some (.int x), l2, l3, l4, l5] (.int x :: st) P) : X w mX11_agrees d Q 14 [l0, some (.int x), l2, l3, l4, l5] st P := X_iload_n (M := mX11_agrees) (dX11_agrees_14) rfl rfl k
theorem dX11_agrees_15 : decode cX11_agrees 15 = .ok (.imul, 1) := by decide +kernel
theorem sX11_agrees_15 {x y : Int32} (k : X w mX11_agrees d Q 16 ls (.int (x * y) :: st) P) : X w mX11_agrees d Q 15 ls (.int y :: .int x :: st) P := X_imul (M := mX11_agrees) (dX11_agrees_15) k
theorem dX11_agrees_16 : decode cX11_agrees 16 = .ok (.aload_n 0, 1) := by decide +kernel
theorem sX11_agrees_16 {l1 l2 l3 l4 l5 : Option Value} {x : Nat} (k : X w mX11_agrees d Q 17 [some (.ref x), l1, l2, l3, l4, l5] (.ref x :: st) P) : X w mX11_agrees d Q 16 [some (.ref x), l1, l2, l3, l4, l5] st P := X_aload_n (M := mX11_agrees) (dX11_agrees_16) rfl rfl k
theorem dX11_agrees_17 : decode cX11_agrees 17 = .ok (.getfield 66, 3) := by decide +kernel
theorem sX11_agrees_17 {a : Nat} {fs : List Value} {v : Nat} (hP : P.1 a = some (xO 9 fs)) (hv : fs[21]? = some (.ref v)) (k : X w mX11_agrees d Q 20 ls (.ref v :: st) P) : X w mX11_agrees d Q 17 ls (.ref a :: st) P := X_get (M := mX11_agrees) (j := 21) (T := TX11) (dX11_agrees_17) rfl (by decide) x_in11 xw_422 hP hv k
theorem dX11_agrees_20 : decode cX11_agrees 20 = .ok (.iload_n 3, 1) := by decide +kernel
theorem sX11_agrees_20 {l0 l1 l2 l4 l5 : Option Value} {x : Int32} (k : X w mX11_agrees d Q 21 [l0, l1, l2, some (.int x), l4, l5] (.int x :: st) P) : X w mX11_agrees d Q 20 [l0, l1, l2, some (.int x), l4, l5] st P := X_iload_n (M := mX11_agrees) (dX11_agrees_20) rfl rfl k
theorem dX11_agrees_21 : decode cX11_agrees 21 = .ok (.iconst 1, 1) := by decide +kernel
theorem sX11_agrees_21 (k : X w mX11_agrees d Q 22 ls (.int (1 : Int32) :: st) P) : X w mX11_agrees d Q 21 ls st P := X_iconst (M := mX11_agrees) (dX11_agrees_21) (by decide) k
theorem dX11_agrees_22 : decode cX11_agrees 22 = .ok (.iadd, 1) := by decide +kernel
theorem sX11_agrees_22 {x y : Int32} (k : X w mX11_agrees d Q 23 ls (.int (x + y) :: st) P) : X w mX11_agrees d Q 22 ls (.int y :: .int x :: st) P := X_iadd (M := mX11_agrees) (dX11_agrees_22) k
theorem dX11_agrees_23 : decode cX11_agrees 23 = .ok (.iaload, 1) := by decide +kernel
theorem sX11_agrees_23 {a n : Nat} {f : Nat → Int32} {i : Int32} (hP : P.1 a = some (xA 0 n f)) (hi : vp_in i n) (k : X w mX11_agrees d Q 24 ls (.int (f i.toNatClampNeg) :: st) P) : X w mX11_agrees d Q 23 ls (.int i :: .ref a :: st) P := X_iald (M := mX11_agrees) (dX11_agrees_23) hP hi k
theorem dX11_agrees_24 : decode cX11_agrees 24 = .ok (.iadd, 1) := by decide +kernel
theorem sX11_agrees_24 {x y : Int32} (k : X w mX11_agrees d Q 25 ls (.int (x + y) :: st) P) : X w mX11_agrees d Q 24 ls (.int y :: .int x :: st) P := X_iadd (M := mX11_agrees) (dX11_agrees_24) k
theorem dX11_agrees_25 : decode cX11_agrees 25 = .ok (.laload, 1) := by decide +kernel
theorem sX11_agrees_25 {a n : Nat} {f : Nat → Int64} {i : Int32} (hP : P.1 a = some (xJ n f)) (hi : vp_in i n) (k : X w mX11_agrees d Q 26 ls (.long (f i.toNatClampNeg) :: st) P) : X w mX11_agrees d Q 25 ls (.int i :: .ref a :: st) P := X_lald (M := mX11_agrees) (dX11_agrees_25) hP hi k
theorem dX11_agrees_26 : decode cX11_agrees 26 = .ok (.aload_n 0, 1) := by decide +kernel
theorem sX11_agrees_26 {l1 l2 l3 l4 l5 : Option Value} {x : Nat} (k : X w mX11_agrees d Q 27 [some (.ref x), l1, l2, l3, l4, l5] (.ref x :: st) P) : X w mX11_agrees d Q 26 [some (.ref x), l1, l2, l3, l4, l5] st P := X_aload_n (M := mX11_agrees) (dX11_agrees_26) rfl rfl k
theorem dX11_agrees_27 : decode cX11_agrees 27 = .ok (.getfield 66, 3) := by decide +kernel
theorem sX11_agrees_27 {a : Nat} {fs : List Value} {v : Nat} (hP : P.1 a = some (xO 9 fs)) (hv : fs[21]? = some (.ref v)) (k : X w mX11_agrees d Q 30 ls (.ref v :: st) P) : X w mX11_agrees d Q 27 ls (.ref a :: st) P := X_get (M := mX11_agrees) (j := 21) (T := TX11) (dX11_agrees_27) rfl (by decide) x_in11 xw_422 hP hv k
theorem dX11_agrees_30 : decode cX11_agrees 30 = .ok (.iload_n 3, 1) := by decide +kernel
theorem sX11_agrees_30 {l0 l1 l2 l4 l5 : Option Value} {x : Int32} (k : X w mX11_agrees d Q 31 [l0, l1, l2, some (.int x), l4, l5] (.int x :: st) P) : X w mX11_agrees d Q 30 [l0, l1, l2, some (.int x), l4, l5] st P := X_iload_n (M := mX11_agrees) (dX11_agrees_30) rfl rfl k
theorem dX11_agrees_31 : decode cX11_agrees 31 = .ok (.iaload, 1) := by decide +kernel
theorem sX11_agrees_31 {a n : Nat} {f : Nat → Int32} {i : Int32} (hP : P.1 a = some (xA 0 n f)) (hi : vp_in i n) (k : X w mX11_agrees d Q 32 ls (.int (f i.toNatClampNeg) :: st) P) : X w mX11_agrees d Q 31 ls (.int i :: .ref a :: st) P := X_iald (M := mX11_agrees) (dX11_agrees_31) hP hi k
theorem dX11_agrees_32 : decode cX11_agrees 32 = .ok (.aload_n 0, 1) := by decide +kernel
theorem sX11_agrees_32 {l1 l2 l3 l4 l5 : Option Value} {x : Nat} (k : X w mX11_agrees d Q 33 [some (.ref x), l1, l2, l3, l4, l5] (.ref x :: st) P) : X w mX11_agrees d Q 32 [some (.ref x), l1, l2, l3, l4, l5] st P := X_aload_n (M := mX11_agrees) (dX11_agrees_32) rfl rfl k
theorem dX11_agrees_33 : decode cX11_agrees 33 = .ok (.getfield 47, 3) := by decide +kernel
theorem sX11_agrees_33 {a : Nat} {fs : List Value} {v : Nat} (hP : P.1 a = some (xO 9 fs)) (hv : fs[15]? = some (.ref v)) (k : X w mX11_agrees d Q 36 ls (.ref v :: st) P) : X w mX11_agrees d Q 33 ls (.ref a :: st) P := X_get (M := mX11_agrees) (j := 15) (T := TX11) (dX11_agrees_33) rfl (by decide) x_in11 xw_416 hP hv k
theorem dX11_agrees_36 : decode cX11_agrees 36 = .ok (.iload_n 1, 1) := by decide +kernel
theorem sX11_agrees_36 {l0 l2 l3 l4 l5 : Option Value} {x : Int32} (k : X w mX11_agrees d Q 37 [l0, some (.int x), l2, l3, l4, l5] (.int x :: st) P) : X w mX11_agrees d Q 36 [l0, some (.int x), l2, l3, l4, l5] st P := X_iload_n (M := mX11_agrees) (dX11_agrees_36) rfl rfl k
theorem dX11_agrees_37 : decode cX11_agrees 37 = .ok (.iaload, 1) := by decide +kernel
theorem sX11_agrees_37 {a n : Nat} {f : Nat → Int32} {i : Int32} (hP : P.1 a = some (xA 0 n f)) (hi : vp_in i n) (k : X w mX11_agrees d Q 38 ls (.int (f i.toNatClampNeg) :: st) P) : X w mX11_agrees d Q 37 ls (.int i :: .ref a :: st) P := X_iald (M := mX11_agrees) (dX11_agrees_37) hP hi k
theorem dX11_agrees_38 : decode cX11_agrees 38 = .ok (.invokestatic 235, 3) := by decide +kernel
theorem sX11_agrees_38_g {a0 : Int64} {a1 : Int32} {a2 : Int32} {Qc : Outcome → xH → Prop} (hst : (st.map fun v => v.category).sum ≤ 8) (hC : xC w d mX11_senseOf [.long a0, .int a1, .int a2] P Qc) (kr : ∀ v P1, Qc (.returned v) P1 → X w mX11_agrees (d + 1) Q 41 ls (v.toList ++ st) P1) (kt : ∀ q P1, Qc (.threw q) P1 → Xt w mX11_agrees (d + 1) Q 38 ls st P1 q) : X w mX11_agrees (d + 1) Q 38 ls (.int a2 :: .int a1 :: .long a0 :: st) P := X_callS (M := mX11_agrees) (MC := mX11_senseOf) (As := [.long a0, .int a1, .int a2]) (dX11_agrees_38) calX11_senseOf xw_528 xw_529 rfl hC hst kr kt
theorem sX11_agrees_38 {a0 : Int64} {a1 : Int32} {a2 : Int32} {r : Int32} {P1 : xH} (hst : (st.map fun v => v.category).sum ≤ 8) (hC : xC w d mX11_senseOf [.long a0, .int a1, .int a2] P (xRet (some (.int r)) P1)) (k : X w mX11_agrees (d + 1) Q 41 ls (.int r :: st) P1) : X w mX11_agrees (d + 1) Q 38 ls (.int a2 :: .int a1 :: .long a0 :: st) P := X_callS (M := mX11_agrees) (MC := mX11_senseOf) (As := [.long a0, .int a1, .int a2]) (dX11_agrees_38) calX11_senseOf xw_528 xw_529 rfl hC hst (fun v P2 h => by obtain ⟨h1, rfl⟩ := h; cases h1; exact k) (fun q P2 h => by cases h.1)
theorem sX11_agrees_38_r {a0 : Int64} {a1 : Int32} {a2 : Int32} {r : Int32} {Rp : xH → Prop} (hst : (st.map fun v => v.category).sum ≤ 8) (hC : xC w d mX11_senseOf [.long a0, .int a1, .int a2] P (xRl (some (.int r)) Rp)) (k : ∀ P1, Rp P1 → X w mX11_agrees (d + 1) Q 41 ls (.int r :: st) P1) : X w mX11_agrees (d + 1) Q 38 ls (.int a2 :: .int a1 :: .long a0 :: st) P := X_callS (M := mX11_agrees) (MC := mX11_senseOf) (As := [.long a0, .int a1, .int a2]) (dX11_agrees_38) calX11_senseOf xw_528 xw_529 rfl hC hst (fun v P2 h => by obtain ⟨h1, hR⟩ := h; cases h1; exact k P2 hR) (fun q P2 h => by cases h.1)
theorem sX11_agrees_38_t {a0 : Int64} {a1 : Int32} {a2 : Int32} {q : Nat} {P1 : xH} (hst : (st.map fun v => v.category).sum ≤ 8) (hC : xC w d mX11_senseOf [.long a0, .int a1, .int a2] P (xThr q P1)) (hq : Q (.threw q) P1) : X w mX11_agrees (d + 1) Q 38 ls (.int a2 :: .int a1 :: .long a0 :: st) P := X_callS (M := mX11_agrees) (MC := mX11_senseOf) (As := [.long a0, .int a1, .int a2]) (dX11_agrees_38) calX11_senseOf xw_528 xw_529 rfl hC hst (fun v P2 h => by cases h.1) (fun q2 P2 h => by obtain ⟨h1, rfl⟩ := h; cases h1; exact Xt_out rfl hq)
theorem dX11_agrees_41 : decode cX11_agrees 41 = .ok (.istore 4, 2) := by decide +kernel
theorem sX11_agrees_41 {l0 l1 l2 l3 l4 l5 : Option Value} {x : Int32} (hn : xnl l3 = true) (k : X w mX11_agrees d Q 43 [l0, l1, l2, l3, some (.int x), l5] st P) : X w mX11_agrees d Q 41 [l0, l1, l2, l3, l4, l5] (.int x :: st) P := X_istore (M := mX11_agrees) (dX11_agrees_41) (by decide) rfl (xnl_p (ls := [l0, l1, l2, l3, l4, l5]) (j := 3) rfl hn) k
theorem dX11_agrees_43 : decode cX11_agrees 43 = .ok (.aload_n 0, 1) := by decide +kernel
theorem sX11_agrees_43 {l1 l2 l3 l4 l5 : Option Value} {x : Nat} (k : X w mX11_agrees d Q 44 [some (.ref x), l1, l2, l3, l4, l5] (.ref x :: st) P) : X w mX11_agrees d Q 43 [some (.ref x), l1, l2, l3, l4, l5] st P := X_aload_n (M := mX11_agrees) (dX11_agrees_43) rfl rfl k
theorem dX11_agrees_44 : decode cX11_agrees 44 = .ok (.getfield 66, 3) := by decide +kernel
theorem sX11_agrees_44 {a : Nat} {fs : List Value} {v : Nat} (hP : P.1 a = some (xO 9 fs)) (hv : fs[21]? = some (.ref v)) (k : X w mX11_agrees d Q 47 ls (.ref v :: st) P) : X w mX11_agrees d Q 44 ls (.ref a :: st) P := X_get (M := mX11_agrees) (j := 21) (T := TX11) (dX11_agrees_44) rfl (by decide) x_in11 xw_422 hP hv k
theorem dX11_agrees_47 : decode cX11_agrees 47 = .ok (.iload_n 3, 1) := by decide +kernel
theorem sX11_agrees_47 {l0 l1 l2 l4 l5 : Option Value} {x : Int32} (k : X w mX11_agrees d Q 48 [l0, l1, l2, some (.int x), l4, l5] (.int x :: st) P) : X w mX11_agrees d Q 47 [l0, l1, l2, some (.int x), l4, l5] st P := X_iload_n (M := mX11_agrees) (dX11_agrees_47) rfl rfl k
theorem dX11_agrees_48 : decode cX11_agrees 48 = .ok (.iconst 2, 1) := by decide +kernel
theorem sX11_agrees_48 (k : X w mX11_agrees d Q 49 ls (.int (2 : Int32) :: st) P) : X w mX11_agrees d Q 48 ls st P := X_iconst (M := mX11_agrees) (dX11_agrees_48) (by decide) k
theorem dX11_agrees_49 : decode cX11_agrees 49 = .ok (.iadd, 1) := by decide +kernel
theorem sX11_agrees_49 {x y : Int32} (k : X w mX11_agrees d Q 50 ls (.int (x + y) :: st) P) : X w mX11_agrees d Q 49 ls (.int y :: .int x :: st) P := X_iadd (M := mX11_agrees) (dX11_agrees_49) k
theorem dX11_agrees_50 : decode cX11_agrees 50 = .ok (.iaload, 1) := by decide +kernel
theorem sX11_agrees_50 {a n : Nat} {f : Nat → Int32} {i : Int32} (hP : P.1 a = some (xA 0 n f)) (hi : vp_in i n) (k : X w mX11_agrees d Q 51 ls (.int (f i.toNatClampNeg) :: st) P) : X w mX11_agrees d Q 50 ls (.int i :: .ref a :: st) P := X_iald (M := mX11_agrees) (dX11_agrees_50) hP hi k
theorem dX11_agrees_51 : decode cX11_agrees 51 = .ok (.istore 5, 2) := by decide +kernel
theorem sX11_agrees_51 {l0 l1 l2 l3 l4 l5 : Option Value} {x : Int32} (hn : xnl l4 = true) (k : X w mX11_agrees d Q 53 [l0, l1, l2, l3, l4, some (.int x)] st P) : X w mX11_agrees d Q 51 [l0, l1, l2, l3, l4, l5] (.int x :: st) P := X_istore (M := mX11_agrees) (dX11_agrees_51) (by decide) rfl (xnl_p (ls := [l0, l1, l2, l3, l4, l5]) (j := 4) rfl hn) k
theorem dX11_agrees_53 : decode cX11_agrees 53 = .ok (.iload 5, 2) := by decide +kernel
theorem sX11_agrees_53 {l0 l1 l2 l3 l4 : Option Value} {x : Int32} (k : X w mX11_agrees d Q 55 [l0, l1, l2, l3, l4, some (.int x)] (.int x :: st) P) : X w mX11_agrees d Q 53 [l0, l1, l2, l3, l4, some (.int x)] st P := X_iload (M := mX11_agrees) (dX11_agrees_53) rfl k
theorem dX11_agrees_55 : decode cX11_agrees 55 = .ok (.ifCond .eq 16, 3) := by decide +kernel
theorem sX11_agrees_55 {x : Int32} (kt : x = 0 → X w mX11_agrees d Q 71 ls st P) (kf : ¬ x = 0 → X w mX11_agrees d Q 58 ls st P) : X w mX11_agrees d Q 55 ls (.int x :: st) P := X_if_eq (M := mX11_agrees) (dX11_agrees_55) (by decide) kt kf
theorem dX11_agrees_58 : decode cX11_agrees 58 = .ok (.iload 4, 2) := by decide +kernel
theorem sX11_agrees_58 {l0 l1 l2 l3 l5 : Option Value} {x : Int32} (k : X w mX11_agrees d Q 60 [l0, l1, l2, l3, some (.int x), l5] (.int x :: st) P) : X w mX11_agrees d Q 58 [l0, l1, l2, l3, some (.int x), l5] st P := X_iload (M := mX11_agrees) (dX11_agrees_58) rfl k
theorem dX11_agrees_60 : decode cX11_agrees 60 = .ok (.iconst 2, 1) := by decide +kernel
theorem sX11_agrees_60 (k : X w mX11_agrees d Q 61 ls (.int (2 : Int32) :: st) P) : X w mX11_agrees d Q 60 ls st P := X_iconst (M := mX11_agrees) (dX11_agrees_60) (by decide) k
theorem dX11_agrees_61 : decode cX11_agrees 61 = .ok (.if_icmp .eq 10, 3) := by decide +kernel
theorem sX11_agrees_61 {x y : Int32} (kt : x = y → X w mX11_agrees d Q 71 ls st P) (kf : ¬ x = y → X w mX11_agrees d Q 64 ls st P) : X w mX11_agrees d Q 61 ls (.int y :: .int x :: st) P := X_icmp_eq (M := mX11_agrees) (dX11_agrees_61) (by decide) kt kf
theorem dX11_agrees_64 : decode cX11_agrees 64 = .ok (.iload 4, 2) := by decide +kernel
theorem sX11_agrees_64 {l0 l1 l2 l3 l5 : Option Value} {x : Int32} (k : X w mX11_agrees d Q 66 [l0, l1, l2, l3, some (.int x), l5] (.int x :: st) P) : X w mX11_agrees d Q 64 [l0, l1, l2, l3, some (.int x), l5] st P := X_iload (M := mX11_agrees) (dX11_agrees_64) rfl k
theorem dX11_agrees_66 : decode cX11_agrees 66 = .ok (.iload 5, 2) := by decide +kernel
theorem sX11_agrees_66 {l0 l1 l2 l3 l4 : Option Value} {x : Int32} (k : X w mX11_agrees d Q 68 [l0, l1, l2, l3, l4, some (.int x)] (.int x :: st) P) : X w mX11_agrees d Q 66 [l0, l1, l2, l3, l4, some (.int x)] st P := X_iload (M := mX11_agrees) (dX11_agrees_66) rfl k
theorem dX11_agrees_68 : decode cX11_agrees 68 = .ok (.if_icmp .ne 7, 3) := by decide +kernel
theorem sX11_agrees_68 {x y : Int32} (kt : ¬ x = y → X w mX11_agrees d Q 75 ls st P) (kf : x = y → X w mX11_agrees d Q 71 ls st P) : X w mX11_agrees d Q 68 ls (.int y :: .int x :: st) P := X_icmp_ne (M := mX11_agrees) (dX11_agrees_68) (by decide) kt kf
theorem dX11_agrees_71 : decode cX11_agrees 71 = .ok (.iconst 1, 1) := by decide +kernel
theorem sX11_agrees_71 (k : X w mX11_agrees d Q 72 ls (.int (1 : Int32) :: st) P) : X w mX11_agrees d Q 71 ls st P := X_iconst (M := mX11_agrees) (dX11_agrees_71) (by decide) k
theorem dX11_agrees_72 : decode cX11_agrees 72 = .ok (.goto 4, 3) := by decide +kernel
theorem sX11_agrees_72 (k : X w mX11_agrees d Q 76 ls st P) : X w mX11_agrees d Q 72 ls st P := X_goto (M := mX11_agrees) (dX11_agrees_72) (by decide) k
theorem dX11_agrees_75 : decode cX11_agrees 75 = .ok (.iconst 0, 1) := by decide +kernel
theorem sX11_agrees_75 (k : X w mX11_agrees d Q 76 ls (.int (0 : Int32) :: st) P) : X w mX11_agrees d Q 75 ls st P := X_iconst (M := mX11_agrees) (dX11_agrees_75) (by decide) k
theorem dX11_agrees_76 : decode cX11_agrees 76 = .ok (.ireturn, 1) := by decide +kernel
theorem sX11_agrees_76 {v : Int32} (hb : v = 0 ∨ v = 1) (hq : Q (.returned (some (.int v))) P) : X w mX11_agrees d Q 76 ls [.int v] P := X_zret (M := mX11_agrees) (ty := .boolean) (dX11_agrees_76) rfl (xz_n hb) hq
theorem dX11_cell_0 : decode cX11_cell 0 = .ok (.aload_n 0, 1) := by decide +kernel
theorem sX11_cell_0 {l1 l2 l3 l4 l5 : Option Value} {x : Nat} (k : X w mX11_cell d Q 1 [some (.ref x), l1, l2, l3, l4, l5] (.ref x :: st) P) : X w mX11_cell d Q 0 [some (.ref x), l1, l2, l3, l4, l5] st P := X_aload_n (M := mX11_cell) (dX11_cell_0) rfl rfl k
theorem dX11_cell_1 : decode cX11_cell 1 = .ok (.aload_n 0, 1) := by decide +kernel
theorem sX11_cell_1 {l1 l2 l3 l4 l5 : Option Value} {x : Nat} (k : X w mX11_cell d Q 2 [some (.ref x), l1, l2, l3, l4, l5] (.ref x :: st) P) : X w mX11_cell d Q 1 [some (.ref x), l1, l2, l3, l4, l5] st P := X_aload_n (M := mX11_cell) (dX11_cell_1) rfl rfl k
theorem dX11_cell_2 : decode cX11_cell 2 = .ok (.iload_n 1, 1) := by decide +kernel
theorem sX11_cell_2 {l0 l2 l3 l4 l5 : Option Value} {x : Int32} (k : X w mX11_cell d Q 3 [l0, some (.int x), l2, l3, l4, l5] (.int x :: st) P) : X w mX11_cell d Q 2 [l0, some (.int x), l2, l3, l4, l5] st P := X_iload_n (M := mX11_cell) (dX11_cell_2) rfl rfl k
theorem dX11_cell_3 : decode cX11_cell 3 = .ok (.invokevirtual 238, 3) := by decide +kernel
theorem sX11_cell_3_g {b : Nat} {fs : List Value} {a0 : Int32} {Qc : Outcome → xH → Prop} (hst : (st.map fun v => v.category).sum ≤ 8) (hP : P.1 b = some (xO 9 fs)) (hC : xC w d mX11_isCell [.ref b, .int a0] P Qc) (kr : ∀ v P1, Qc (.returned v) P1 → X w mX11_cell (d + 1) Q 6 ls (v.toList ++ st) P1) (kt : ∀ q P1, Qc (.threw q) P1 → Xt w mX11_cell (d + 1) Q 3 ls st P1 q) : X w mX11_cell (d + 1) Q 3 ls (.int a0 :: .ref b :: st) P := X_callV (M := mX11_cell) (MC := mX11_isCell) (As := [.int a0]) (T := TX11) (dX11_cell_3) calX11_isCell xw_530 xw_531 xw_532 rfl rfl hP hC hst kr kt
theorem sX11_cell_3 {b : Nat} {fs : List Value} {a0 : Int32} {r : Int32} {P1 : xH} (hst : (st.map fun v => v.category).sum ≤ 8) (hP : P.1 b = some (xO 9 fs)) (hC : xC w d mX11_isCell [.ref b, .int a0] P (xRet (some (.int r)) P1)) (k : X w mX11_cell (d + 1) Q 6 ls (.int r :: st) P1) : X w mX11_cell (d + 1) Q 3 ls (.int a0 :: .ref b :: st) P := X_callV (M := mX11_cell) (MC := mX11_isCell) (As := [.int a0]) (T := TX11) (dX11_cell_3) calX11_isCell xw_530 xw_531 xw_532 rfl rfl hP hC hst (fun v P2 h => by obtain ⟨h1, rfl⟩ := h; cases h1; exact k) (fun q P2 h => by cases h.1)
theorem sX11_cell_3_r {b : Nat} {fs : List Value} {a0 : Int32} {r : Int32} {Rp : xH → Prop} (hst : (st.map fun v => v.category).sum ≤ 8) (hP : P.1 b = some (xO 9 fs)) (hC : xC w d mX11_isCell [.ref b, .int a0] P (xRl (some (.int r)) Rp)) (k : ∀ P1, Rp P1 → X w mX11_cell (d + 1) Q 6 ls (.int r :: st) P1) : X w mX11_cell (d + 1) Q 3 ls (.int a0 :: .ref b :: st) P := X_callV (M := mX11_cell) (MC := mX11_isCell) (As := [.int a0]) (T := TX11) (dX11_cell_3) calX11_isCell xw_530 xw_531 xw_532 rfl rfl hP hC hst (fun v P2 h => by obtain ⟨h1, hR⟩ := h; cases h1; exact k P2 hR) (fun q P2 h => by cases h.1)
theorem sX11_cell_3_t {b : Nat} {fs : List Value} {a0 : Int32} {q : Nat} {P1 : xH} (hst : (st.map fun v => v.category).sum ≤ 8) (hP : P.1 b = some (xO 9 fs)) (hC : xC w d mX11_isCell [.ref b, .int a0] P (xThr q P1)) (hq : Q (.threw q) P1) : X w mX11_cell (d + 1) Q 3 ls (.int a0 :: .ref b :: st) P := X_callV (M := mX11_cell) (MC := mX11_isCell) (As := [.int a0]) (T := TX11) (dX11_cell_3) calX11_isCell xw_530 xw_531 xw_532 rfl rfl hP hC hst (fun v P2 h => by cases h.1) (fun q2 P2 h => by obtain ⟨h1, rfl⟩ := h; cases h1; exact Xt_out rfl hq)
theorem dX11_cell_6 : decode cX11_cell 6 = .ok (.ifCond .eq 13, 3) := by decide +kernel
theorem sX11_cell_6 {x : Int32} (kt : x = 0 → X w mX11_cell d Q 19 ls st P) (kf : ¬ x = 0 → X w mX11_cell d Q 9 ls st P) : X w mX11_cell d Q 6 ls (.int x :: st) P := X_if_eq (M := mX11_cell) (dX11_cell_6) (by decide) kt kf
theorem dX11_cell_9 : decode cX11_cell 9 = .ok (.iload_n 2, 1) := by decide +kernel
theorem sX11_cell_9 {l0 l1 l3 l4 l5 : Option Value} {x : Int32} (k : X w mX11_cell d Q 10 [l0, l1, some (.int x), l3, l4, l5] (.int x :: st) P) : X w mX11_cell d Q 9 [l0, l1, some (.int x), l3, l4, l5] st P := X_iload_n (M := mX11_cell) (dX11_cell_9) rfl rfl k
theorem dX11_cell_10 : decode cX11_cell 10 = .ok (.ifCond .lt 9, 3) := by decide +kernel
theorem sX11_cell_10 {x : Int32} (kt : x < 0 → X w mX11_cell d Q 19 ls st P) (kf : ¬ x < 0 → X w mX11_cell d Q 13 ls st P) : X w mX11_cell d Q 10 ls (.int x :: st) P := X_if_lt (M := mX11_cell) (dX11_cell_10) (by decide) kt kf
theorem dX11_cell_13 : decode cX11_cell 13 = .ok (.iload_n 2, 1) := by decide +kernel
theorem sX11_cell_13 {l0 l1 l3 l4 l5 : Option Value} {x : Int32} (k : X w mX11_cell d Q 14 [l0, l1, some (.int x), l3, l4, l5] (.int x :: st) P) : X w mX11_cell d Q 13 [l0, l1, some (.int x), l3, l4, l5] st P := X_iload_n (M := mX11_cell) (dX11_cell_13) rfl rfl k
theorem dX11_cell_14 : decode cX11_cell 14 = .ok (.bipush 7, 2) := by decide +kernel
theorem sX11_cell_14 (k : X w mX11_cell d Q 16 ls (.int (7 : Int32) :: st) P) : X w mX11_cell d Q 14 ls st P := X_bipush (M := mX11_cell) (dX11_cell_14) (by decide) k
theorem dX11_cell_16 : decode cX11_cell 16 = .ok (.if_icmp .le 7, 3) := by decide +kernel
theorem sX11_cell_16 {x y : Int32} (kt : x ≤ y → X w mX11_cell d Q 23 ls st P) (kf : ¬ x ≤ y → X w mX11_cell d Q 19 ls st P) : X w mX11_cell d Q 16 ls (.int y :: .int x :: st) P := X_icmp_le (M := mX11_cell) (dX11_cell_16) (by decide) kt kf
theorem dX11_cell_19 : decode cX11_cell 19 = .ok (.iconst 1, 1) := by decide +kernel
theorem sX11_cell_19 (k : X w mX11_cell d Q 20 ls (.int (1 : Int32) :: st) P) : X w mX11_cell d Q 19 ls st P := X_iconst (M := mX11_cell) (dX11_cell_19) (by decide) k
theorem dX11_cell_20 : decode cX11_cell 20 = .ok (.goto 4, 3) := by decide +kernel
theorem sX11_cell_20 (k : X w mX11_cell d Q 24 ls st P) : X w mX11_cell d Q 20 ls st P := X_goto (M := mX11_cell) (dX11_cell_20) (by decide) k
theorem dX11_cell_23 : decode cX11_cell 23 = .ok (.iconst 0, 1) := by decide +kernel
theorem sX11_cell_23 (k : X w mX11_cell d Q 24 ls (.int (0 : Int32) :: st) P) : X w mX11_cell d Q 23 ls st P := X_iconst (M := mX11_cell) (dX11_cell_23) (by decide) k
theorem dX11_cell_24 : decode cX11_cell 24 = .ok (.putfield 84, 3) := by decide +kernel
theorem sX11_cell_24 {a : Nat} {fs : List Value} {v : Int32} (hP : P.1 a = some (xO 9 fs)) (hl : 0 < fs.length) (k : X w mX11_cell d Q 27 ls st (xs P a (xO 9 (fs.set 0 (.int v))))) : X w mX11_cell d Q 24 ls (.int v :: .ref a :: st) P := X_put (M := mX11_cell) (j := 0) (T := TX11) (dX11_cell_24) rfl (by decide) x_c11 xw_428 rfl hP rfl rfl hl k
theorem dX11_cell_27 : decode cX11_cell 27 = .ok (.aload_n 0, 1) := by decide +kernel
theorem sX11_cell_27 {l1 l2 l3 l4 l5 : Option Value} {x : Nat} (k : X w mX11_cell d Q 28 [some (.ref x), l1, l2, l3, l4, l5] (.ref x :: st) P) : X w mX11_cell d Q 27 [some (.ref x), l1, l2, l3, l4, l5] st P := X_aload_n (M := mX11_cell) (dX11_cell_27) rfl rfl k
theorem dX11_cell_28 : decode cX11_cell 28 = .ok (.getfield 84, 3) := by decide +kernel
theorem sX11_cell_28 {a : Nat} {fs : List Value} {v : Int32} (hP : P.1 a = some (xO 9 fs)) (hv : fs[0]? = some (.int v)) (k : X w mX11_cell d Q 31 ls (.int v :: st) P) : X w mX11_cell d Q 28 ls (.ref a :: st) P := X_get (M := mX11_cell) (j := 0) (T := TX11) (dX11_cell_28) rfl (by decide) x_in11 xw_428 hP hv k
theorem dX11_cell_31 : decode cX11_cell 31 = .ok (.ifCond .le 5, 3) := by decide +kernel
theorem sX11_cell_31 {x : Int32} (kt : x ≤ 0 → X w mX11_cell d Q 36 ls st P) (kf : ¬ x ≤ 0 → X w mX11_cell d Q 34 ls st P) : X w mX11_cell d Q 31 ls (.int x :: st) P := X_if_le (M := mX11_cell) (dX11_cell_31) (by decide) kt kf
theorem dX11_cell_34 : decode cX11_cell 34 = .ok (.iconst 0, 1) := by decide +kernel
theorem sX11_cell_34 (k : X w mX11_cell d Q 35 ls (.int (0 : Int32) :: st) P) : X w mX11_cell d Q 34 ls st P := X_iconst (M := mX11_cell) (dX11_cell_34) (by decide) k
theorem dX11_cell_35 : decode cX11_cell 35 = .ok (.ireturn, 1) := by decide +kernel
theorem sX11_cell_35 {v : Int32} (hq : Q (.returned (some (.int v))) P) : X w mX11_cell d Q 35 ls [.int v] P := X_iret (M := mX11_cell) (dX11_cell_35) rfl hq
theorem dX11_cell_36 : decode cX11_cell 36 = .ok (.bipush 12, 2) := by decide +kernel
theorem sX11_cell_36 (k : X w mX11_cell d Q 38 ls (.int (12 : Int32) :: st) P) : X w mX11_cell d Q 36 ls st P := X_bipush (M := mX11_cell) (dX11_cell_36) (by decide) k
theorem dX11_cell_38 : decode cX11_cell 38 = .ok (.aload_n 0, 1) := by decide +kernel
theorem sX11_cell_38 {l1 l2 l3 l4 l5 : Option Value} {x : Nat} (k : X w mX11_cell d Q 39 [some (.ref x), l1, l2, l3, l4, l5] (.ref x :: st) P) : X w mX11_cell d Q 38 [some (.ref x), l1, l2, l3, l4, l5] st P := X_aload_n (M := mX11_cell) (dX11_cell_38) rfl rfl k
theorem dX11_cell_39 : decode cX11_cell 39 = .ok (.getfield 226, 3) := by decide +kernel
theorem sX11_cell_39 {a : Nat} {fs : List Value} {v : Int32} (hP : P.1 a = some (xO 9 fs)) (hv : fs[3]? = some (.int v)) (k : X w mX11_cell d Q 42 ls (.int v :: st) P) : X w mX11_cell d Q 39 ls (.ref a :: st) P := X_get (M := mX11_cell) (j := 3) (T := TX11) (dX11_cell_39) rfl (by decide) x_in11 xw_521 hP hv k
theorem dX11_cell_42 : decode cX11_cell 42 = .ok (.imul, 1) := by decide +kernel
theorem sX11_cell_42 {x y : Int32} (k : X w mX11_cell d Q 43 ls (.int (x * y) :: st) P) : X w mX11_cell d Q 42 ls (.int y :: .int x :: st) P := X_imul (M := mX11_cell) (dX11_cell_42) k
theorem dX11_cell_43 : decode cX11_cell 43 = .ok (.iload_n 1, 1) := by decide +kernel
theorem sX11_cell_43 {l0 l2 l3 l4 l5 : Option Value} {x : Int32} (k : X w mX11_cell d Q 44 [l0, some (.int x), l2, l3, l4, l5] (.int x :: st) P) : X w mX11_cell d Q 43 [l0, some (.int x), l2, l3, l4, l5] st P := X_iload_n (M := mX11_cell) (dX11_cell_43) rfl rfl k
theorem dX11_cell_44 : decode cX11_cell 44 = .ok (.iadd, 1) := by decide +kernel
theorem sX11_cell_44 {x y : Int32} (k : X w mX11_cell d Q 45 ls (.int (x + y) :: st) P) : X w mX11_cell d Q 44 ls (.int y :: .int x :: st) P := X_iadd (M := mX11_cell) (dX11_cell_44) k
theorem dX11_cell_45 : decode cX11_cell 45 = .ok (.istore_n 3, 1) := by decide +kernel
theorem sX11_cell_45 {l0 l1 l2 l3 l4 l5 : Option Value} {x : Int32} (hn : xnl l2 = true) (k : X w mX11_cell d Q 46 [l0, l1, l2, some (.int x), l4, l5] st P) : X w mX11_cell d Q 45 [l0, l1, l2, l3, l4, l5] (.int x :: st) P := X_istore_n (M := mX11_cell) (dX11_cell_45) rfl (by decide) rfl (xnl_p (ls := [l0, l1, l2, l3, l4, l5]) (j := 2) rfl hn) k
theorem dX11_cell_46 : decode cX11_cell 46 = .ok (.iload_n 2, 1) := by decide +kernel
theorem sX11_cell_46 {l0 l1 l3 l4 l5 : Option Value} {x : Int32} (k : X w mX11_cell d Q 47 [l0, l1, some (.int x), l3, l4, l5] (.int x :: st) P) : X w mX11_cell d Q 46 [l0, l1, some (.int x), l3, l4, l5] st P := X_iload_n (M := mX11_cell) (dX11_cell_46) rfl rfl k
theorem dX11_cell_47 : decode cX11_cell 47 = .ok (.ifCond .ne 10, 3) := by decide +kernel
theorem sX11_cell_47 {x : Int32} (kt : ¬ x = 0 → X w mX11_cell d Q 57 ls st P) (kf : x = 0 → X w mX11_cell d Q 50 ls st P) : X w mX11_cell d Q 47 ls (.int x :: st) P := X_if_ne (M := mX11_cell) (dX11_cell_47) (by decide) kt kf
theorem dX11_cell_50 : decode cX11_cell 50 = .ok (.aload_n 0, 1) := by decide +kernel
theorem sX11_cell_50 {l1 l2 l3 l4 l5 : Option Value} {x : Nat} (k : X w mX11_cell d Q 51 [some (.ref x), l1, l2, l3, l4, l5] (.ref x :: st) P) : X w mX11_cell d Q 50 [some (.ref x), l1, l2, l3, l4, l5] st P := X_aload_n (M := mX11_cell) (dX11_cell_50) rfl rfl k
theorem dX11_cell_51 : decode cX11_cell 51 = .ok (.getfield 47, 3) := by decide +kernel
theorem sX11_cell_51 {a : Nat} {fs : List Value} {v : Nat} (hP : P.1 a = some (xO 9 fs)) (hv : fs[15]? = some (.ref v)) (k : X w mX11_cell d Q 54 ls (.ref v :: st) P) : X w mX11_cell d Q 51 ls (.ref a :: st) P := X_get (M := mX11_cell) (j := 15) (T := TX11) (dX11_cell_51) rfl (by decide) x_in11 xw_416 hP hv k
theorem dX11_cell_54 : decode cX11_cell 54 = .ok (.iload_n 3, 1) := by decide +kernel
theorem sX11_cell_54 {l0 l1 l2 l4 l5 : Option Value} {x : Int32} (k : X w mX11_cell d Q 55 [l0, l1, l2, some (.int x), l4, l5] (.int x :: st) P) : X w mX11_cell d Q 54 [l0, l1, l2, some (.int x), l4, l5] st P := X_iload_n (M := mX11_cell) (dX11_cell_54) rfl rfl k
theorem dX11_cell_55 : decode cX11_cell 55 = .ok (.iaload, 1) := by decide +kernel
theorem sX11_cell_55 {a n : Nat} {f : Nat → Int32} {i : Int32} (hP : P.1 a = some (xA 0 n f)) (hi : vp_in i n) (k : X w mX11_cell d Q 56 ls (.int (f i.toNatClampNeg) :: st) P) : X w mX11_cell d Q 55 ls (.int i :: .ref a :: st) P := X_iald (M := mX11_cell) (dX11_cell_55) hP hi k
theorem dX11_cell_56 : decode cX11_cell 56 = .ok (.ireturn, 1) := by decide +kernel
theorem sX11_cell_56 {v : Int32} (hq : Q (.returned (some (.int v))) P) : X w mX11_cell d Q 56 ls [.int v] P := X_iret (M := mX11_cell) (dX11_cell_56) rfl hq
theorem dX11_cell_57 : decode cX11_cell 57 = .ok (.iload_n 2, 1) := by decide +kernel
theorem sX11_cell_57 {l0 l1 l3 l4 l5 : Option Value} {x : Int32} (k : X w mX11_cell d Q 58 [l0, l1, some (.int x), l3, l4, l5] (.int x :: st) P) : X w mX11_cell d Q 57 [l0, l1, some (.int x), l3, l4, l5] st P := X_iload_n (M := mX11_cell) (dX11_cell_57) rfl rfl k
theorem dX11_cell_58 : decode cX11_cell 58 = .ok (.iconst 1, 1) := by decide +kernel
theorem sX11_cell_58 (k : X w mX11_cell d Q 59 ls (.int (1 : Int32) :: st) P) : X w mX11_cell d Q 58 ls st P := X_iconst (M := mX11_cell) (dX11_cell_58) (by decide) k
theorem dX11_cell_59 : decode cX11_cell 59 = .ok (.if_icmp .ne 10, 3) := by decide +kernel
theorem sX11_cell_59 {x y : Int32} (kt : ¬ x = y → X w mX11_cell d Q 69 ls st P) (kf : x = y → X w mX11_cell d Q 62 ls st P) : X w mX11_cell d Q 59 ls (.int y :: .int x :: st) P := X_icmp_ne (M := mX11_cell) (dX11_cell_59) (by decide) kt kf
theorem dX11_cell_62 : decode cX11_cell 62 = .ok (.aload_n 0, 1) := by decide +kernel
theorem sX11_cell_62 {l1 l2 l3 l4 l5 : Option Value} {x : Nat} (k : X w mX11_cell d Q 63 [some (.ref x), l1, l2, l3, l4, l5] (.ref x :: st) P) : X w mX11_cell d Q 62 [some (.ref x), l1, l2, l3, l4, l5] st P := X_aload_n (M := mX11_cell) (dX11_cell_62) rfl rfl k
theorem dX11_cell_63 : decode cX11_cell 63 = .ok (.getfield 50, 3) := by decide +kernel
theorem sX11_cell_63 {a : Nat} {fs : List Value} {v : Nat} (hP : P.1 a = some (xO 9 fs)) (hv : fs[16]? = some (.ref v)) (k : X w mX11_cell d Q 66 ls (.ref v :: st) P) : X w mX11_cell d Q 63 ls (.ref a :: st) P := X_get (M := mX11_cell) (j := 16) (T := TX11) (dX11_cell_63) rfl (by decide) x_in11 xw_417 hP hv k
theorem dX11_cell_66 : decode cX11_cell 66 = .ok (.iload_n 3, 1) := by decide +kernel
theorem sX11_cell_66 {l0 l1 l2 l4 l5 : Option Value} {x : Int32} (k : X w mX11_cell d Q 67 [l0, l1, l2, some (.int x), l4, l5] (.int x :: st) P) : X w mX11_cell d Q 66 [l0, l1, l2, some (.int x), l4, l5] st P := X_iload_n (M := mX11_cell) (dX11_cell_66) rfl rfl k
theorem dX11_cell_67 : decode cX11_cell 67 = .ok (.iaload, 1) := by decide +kernel
theorem sX11_cell_67 {a n : Nat} {f : Nat → Int32} {i : Int32} (hP : P.1 a = some (xA 0 n f)) (hi : vp_in i n) (k : X w mX11_cell d Q 68 ls (.int (f i.toNatClampNeg) :: st) P) : X w mX11_cell d Q 67 ls (.int i :: .ref a :: st) P := X_iald (M := mX11_cell) (dX11_cell_67) hP hi k
theorem dX11_cell_68 : decode cX11_cell 68 = .ok (.ireturn, 1) := by decide +kernel
theorem sX11_cell_68 {v : Int32} (hq : Q (.returned (some (.int v))) P) : X w mX11_cell d Q 68 ls [.int v] P := X_iret (M := mX11_cell) (dX11_cell_68) rfl hq
theorem dX11_cell_69 : decode cX11_cell 69 = .ok (.iload_n 2, 1) := by decide +kernel
theorem sX11_cell_69 {l0 l1 l3 l4 l5 : Option Value} {x : Int32} (k : X w mX11_cell d Q 70 [l0, l1, some (.int x), l3, l4, l5] (.int x :: st) P) : X w mX11_cell d Q 69 [l0, l1, some (.int x), l3, l4, l5] st P := X_iload_n (M := mX11_cell) (dX11_cell_69) rfl rfl k
theorem dX11_cell_70 : decode cX11_cell 70 = .ok (.iconst 2, 1) := by decide +kernel
theorem sX11_cell_70 (k : X w mX11_cell d Q 71 ls (.int (2 : Int32) :: st) P) : X w mX11_cell d Q 70 ls st P := X_iconst (M := mX11_cell) (dX11_cell_70) (by decide) k
theorem dX11_cell_71 : decode cX11_cell 71 = .ok (.if_icmp .ne 10, 3) := by decide +kernel
theorem sX11_cell_71 {x y : Int32} (kt : ¬ x = y → X w mX11_cell d Q 81 ls st P) (kf : x = y → X w mX11_cell d Q 74 ls st P) : X w mX11_cell d Q 71 ls (.int y :: .int x :: st) P := X_icmp_ne (M := mX11_cell) (dX11_cell_71) (by decide) kt kf
theorem dX11_cell_74 : decode cX11_cell 74 = .ok (.aload_n 0, 1) := by decide +kernel
theorem sX11_cell_74 {l1 l2 l3 l4 l5 : Option Value} {x : Nat} (k : X w mX11_cell d Q 75 [some (.ref x), l1, l2, l3, l4, l5] (.ref x :: st) P) : X w mX11_cell d Q 74 [some (.ref x), l1, l2, l3, l4, l5] st P := X_aload_n (M := mX11_cell) (dX11_cell_74) rfl rfl k
theorem dX11_cell_75 : decode cX11_cell 75 = .ok (.getfield 63, 3) := by decide +kernel
theorem sX11_cell_75 {a : Nat} {fs : List Value} {v : Nat} (hP : P.1 a = some (xO 9 fs)) (hv : fs[20]? = some (.ref v)) (k : X w mX11_cell d Q 78 ls (.ref v :: st) P) : X w mX11_cell d Q 75 ls (.ref a :: st) P := X_get (M := mX11_cell) (j := 20) (T := TX11) (dX11_cell_75) rfl (by decide) x_in11 xw_421 hP hv k
theorem dX11_cell_78 : decode cX11_cell 78 = .ok (.iload_n 3, 1) := by decide +kernel
theorem sX11_cell_78 {l0 l1 l2 l4 l5 : Option Value} {x : Int32} (k : X w mX11_cell d Q 79 [l0, l1, l2, some (.int x), l4, l5] (.int x :: st) P) : X w mX11_cell d Q 78 [l0, l1, l2, some (.int x), l4, l5] st P := X_iload_n (M := mX11_cell) (dX11_cell_78) rfl rfl k
theorem dX11_cell_79 : decode cX11_cell 79 = .ok (.iaload, 1) := by decide +kernel
theorem sX11_cell_79 {a n : Nat} {f : Nat → Int32} {i : Int32} (hP : P.1 a = some (xA 0 n f)) (hi : vp_in i n) (k : X w mX11_cell d Q 80 ls (.int (f i.toNatClampNeg) :: st) P) : X w mX11_cell d Q 79 ls (.int i :: .ref a :: st) P := X_iald (M := mX11_cell) (dX11_cell_79) hP hi k
theorem dX11_cell_80 : decode cX11_cell 80 = .ok (.ireturn, 1) := by decide +kernel
theorem sX11_cell_80 {v : Int32} (hq : Q (.returned (some (.int v))) P) : X w mX11_cell d Q 80 ls [.int v] P := X_iret (M := mX11_cell) (dX11_cell_80) rfl hq
theorem dX11_cell_81 : decode cX11_cell 81 = .ok (.iload_n 2, 1) := by decide +kernel
theorem sX11_cell_81 {l0 l1 l3 l4 l5 : Option Value} {x : Int32} (k : X w mX11_cell d Q 82 [l0, l1, some (.int x), l3, l4, l5] (.int x :: st) P) : X w mX11_cell d Q 81 [l0, l1, some (.int x), l3, l4, l5] st P := X_iload_n (M := mX11_cell) (dX11_cell_81) rfl rfl k
theorem dX11_cell_82 : decode cX11_cell 82 = .ok (.bipush 6, 2) := by decide +kernel
theorem sX11_cell_82 (k : X w mX11_cell d Q 84 ls (.int (6 : Int32) :: st) P) : X w mX11_cell d Q 82 ls st P := X_bipush (M := mX11_cell) (dX11_cell_82) (by decide) k
theorem dX11_cell_84 : decode cX11_cell 84 = .ok (.if_icmp .ge 16, 3) := by decide +kernel
theorem sX11_cell_84 {x y : Int32} (kt : y ≤ x → X w mX11_cell d Q 100 ls st P) (kf : ¬ y ≤ x → X w mX11_cell d Q 87 ls st P) : X w mX11_cell d Q 84 ls (.int y :: .int x :: st) P := X_icmp_ge (M := mX11_cell) (dX11_cell_84) (by decide) kt kf
theorem dX11_cell_87 : decode cX11_cell 87 = .ok (.aload_n 0, 1) := by decide +kernel
theorem sX11_cell_87 {l1 l2 l3 l4 l5 : Option Value} {x : Nat} (k : X w mX11_cell d Q 88 [some (.ref x), l1, l2, l3, l4, l5] (.ref x :: st) P) : X w mX11_cell d Q 87 [some (.ref x), l1, l2, l3, l4, l5] st P := X_aload_n (M := mX11_cell) (dX11_cell_87) rfl rfl k
theorem dX11_cell_88 : decode cX11_cell 88 = .ok (.getfield 53, 3) := by decide +kernel
theorem sX11_cell_88 {a : Nat} {fs : List Value} {v : Nat} (hP : P.1 a = some (xO 9 fs)) (hv : fs[17]? = some (.ref v)) (k : X w mX11_cell d Q 91 ls (.ref v :: st) P) : X w mX11_cell d Q 88 ls (.ref a :: st) P := X_get (M := mX11_cell) (j := 17) (T := TX11) (dX11_cell_88) rfl (by decide) x_in11 xw_418 hP hv k
theorem dX11_cell_91 : decode cX11_cell 91 = .ok (.iconst 3, 1) := by decide +kernel
theorem sX11_cell_91 (k : X w mX11_cell d Q 92 ls (.int (3 : Int32) :: st) P) : X w mX11_cell d Q 91 ls st P := X_iconst (M := mX11_cell) (dX11_cell_91) (by decide) k
theorem dX11_cell_92 : decode cX11_cell 92 = .ok (.iload_n 3, 1) := by decide +kernel
theorem sX11_cell_92 {l0 l1 l2 l4 l5 : Option Value} {x : Int32} (k : X w mX11_cell d Q 93 [l0, l1, l2, some (.int x), l4, l5] (.int x :: st) P) : X w mX11_cell d Q 92 [l0, l1, l2, some (.int x), l4, l5] st P := X_iload_n (M := mX11_cell) (dX11_cell_92) rfl rfl k
theorem dX11_cell_93 : decode cX11_cell 93 = .ok (.imul, 1) := by decide +kernel
theorem sX11_cell_93 {x y : Int32} (k : X w mX11_cell d Q 94 ls (.int (x * y) :: st) P) : X w mX11_cell d Q 93 ls (.int y :: .int x :: st) P := X_imul (M := mX11_cell) (dX11_cell_93) k
theorem dX11_cell_94 : decode cX11_cell 94 = .ok (.iload_n 2, 1) := by decide +kernel
theorem sX11_cell_94 {l0 l1 l3 l4 l5 : Option Value} {x : Int32} (k : X w mX11_cell d Q 95 [l0, l1, some (.int x), l3, l4, l5] (.int x :: st) P) : X w mX11_cell d Q 94 [l0, l1, some (.int x), l3, l4, l5] st P := X_iload_n (M := mX11_cell) (dX11_cell_94) rfl rfl k
theorem dX11_cell_95 : decode cX11_cell 95 = .ok (.iadd, 1) := by decide +kernel
theorem sX11_cell_95 {x y : Int32} (k : X w mX11_cell d Q 96 ls (.int (x + y) :: st) P) : X w mX11_cell d Q 95 ls (.int y :: .int x :: st) P := X_iadd (M := mX11_cell) (dX11_cell_95) k
theorem dX11_cell_96 : decode cX11_cell 96 = .ok (.iconst 3, 1) := by decide +kernel
theorem sX11_cell_96 (k : X w mX11_cell d Q 97 ls (.int (3 : Int32) :: st) P) : X w mX11_cell d Q 96 ls st P := X_iconst (M := mX11_cell) (dX11_cell_96) (by decide) k
theorem dX11_cell_97 : decode cX11_cell 97 = .ok (.isub, 1) := by decide +kernel
theorem sX11_cell_97 {x y : Int32} (k : X w mX11_cell d Q 98 ls (.int (x - y) :: st) P) : X w mX11_cell d Q 97 ls (.int y :: .int x :: st) P := X_isub (M := mX11_cell) (dX11_cell_97) k
theorem dX11_cell_98 : decode cX11_cell 98 = .ok (.iaload, 1) := by decide +kernel
theorem sX11_cell_98 {a n : Nat} {f : Nat → Int32} {i : Int32} (hP : P.1 a = some (xA 0 n f)) (hi : vp_in i n) (k : X w mX11_cell d Q 99 ls (.int (f i.toNatClampNeg) :: st) P) : X w mX11_cell d Q 98 ls (.int i :: .ref a :: st) P := X_iald (M := mX11_cell) (dX11_cell_98) hP hi k
theorem dX11_cell_99 : decode cX11_cell 99 = .ok (.ireturn, 1) := by decide +kernel
theorem sX11_cell_99 {v : Int32} (hq : Q (.returned (some (.int v))) P) : X w mX11_cell d Q 99 ls [.int v] P := X_iret (M := mX11_cell) (dX11_cell_99) rfl hq
theorem dX11_cell_100 : decode cX11_cell 100 = .ok (.iload_n 2, 1) := by decide +kernel
theorem sX11_cell_100 {l0 l1 l3 l4 l5 : Option Value} {x : Int32} (k : X w mX11_cell d Q 101 [l0, l1, some (.int x), l3, l4, l5] (.int x :: st) P) : X w mX11_cell d Q 100 [l0, l1, some (.int x), l3, l4, l5] st P := X_iload_n (M := mX11_cell) (dX11_cell_100) rfl rfl k
theorem dX11_cell_101 : decode cX11_cell 101 = .ok (.bipush 7, 2) := by decide +kernel
theorem sX11_cell_101 (k : X w mX11_cell d Q 103 ls (.int (7 : Int32) :: st) P) : X w mX11_cell d Q 101 ls st P := X_bipush (M := mX11_cell) (dX11_cell_101) (by decide) k
theorem dX11_cell_103 : decode cX11_cell 103 = .ok (.if_icmp .ne 10, 3) := by decide +kernel
theorem sX11_cell_103 {x y : Int32} (kt : ¬ x = y → X w mX11_cell d Q 113 ls st P) (kf : x = y → X w mX11_cell d Q 106 ls st P) : X w mX11_cell d Q 103 ls (.int y :: .int x :: st) P := X_icmp_ne (M := mX11_cell) (dX11_cell_103) (by decide) kt kf
theorem dX11_cell_106 : decode cX11_cell 106 = .ok (.aload_n 0, 1) := by decide +kernel
theorem sX11_cell_106 {l1 l2 l3 l4 l5 : Option Value} {x : Nat} (k : X w mX11_cell d Q 107 [some (.ref x), l1, l2, l3, l4, l5] (.ref x :: st) P) : X w mX11_cell d Q 106 [some (.ref x), l1, l2, l3, l4, l5] st P := X_aload_n (M := mX11_cell) (dX11_cell_106) rfl rfl k
theorem dX11_cell_107 : decode cX11_cell 107 = .ok (.getfield 41, 3) := by decide +kernel
theorem sX11_cell_107 {a : Nat} {fs : List Value} {v : Nat} (hP : P.1 a = some (xO 9 fs)) (hv : fs[13]? = some (.ref v)) (k : X w mX11_cell d Q 110 ls (.ref v :: st) P) : X w mX11_cell d Q 107 ls (.ref a :: st) P := X_get (M := mX11_cell) (j := 13) (T := TX11) (dX11_cell_107) rfl (by decide) x_in11 xw_414 hP hv k
theorem dX11_cell_110 : decode cX11_cell 110 = .ok (.iload_n 3, 1) := by decide +kernel
theorem sX11_cell_110 {l0 l1 l2 l4 l5 : Option Value} {x : Int32} (k : X w mX11_cell d Q 111 [l0, l1, l2, some (.int x), l4, l5] (.int x :: st) P) : X w mX11_cell d Q 110 [l0, l1, l2, some (.int x), l4, l5] st P := X_iload_n (M := mX11_cell) (dX11_cell_110) rfl rfl k
theorem dX11_cell_111 : decode cX11_cell 111 = .ok (.iaload, 1) := by decide +kernel
theorem sX11_cell_111 {a n : Nat} {f : Nat → Int32} {i : Int32} (hP : P.1 a = some (xA 0 n f)) (hi : vp_in i n) (k : X w mX11_cell d Q 112 ls (.int (f i.toNatClampNeg) :: st) P) : X w mX11_cell d Q 111 ls (.int i :: .ref a :: st) P := X_iald (M := mX11_cell) (dX11_cell_111) hP hi k
theorem dX11_cell_112 : decode cX11_cell 112 = .ok (.ireturn, 1) := by decide +kernel
theorem sX11_cell_112 {v : Int32} (hq : Q (.returned (some (.int v))) P) : X w mX11_cell d Q 112 ls [.int v] P := X_iret (M := mX11_cell) (dX11_cell_112) rfl hq
theorem dX11_cell_113 : decode cX11_cell 113 = .ok (.iconst 0, 1) := by decide +kernel
theorem sX11_cell_113 (k : X w mX11_cell d Q 114 ls (.int (0 : Int32) :: st) P) : X w mX11_cell d Q 113 ls st P := X_iconst (M := mX11_cell) (dX11_cell_113) (by decide) k
theorem dX11_cell_114 : decode cX11_cell 114 = .ok (.istore 4, 2) := by decide +kernel
theorem sX11_cell_114 {l0 l1 l2 l3 l4 l5 : Option Value} {x : Int32} (hn : xnl l3 = true) (k : X w mX11_cell d Q 116 [l0, l1, l2, l3, some (.int x), l5] st P) : X w mX11_cell d Q 114 [l0, l1, l2, l3, l4, l5] (.int x :: st) P := X_istore (M := mX11_cell) (dX11_cell_114) (by decide) rfl (xnl_p (ls := [l0, l1, l2, l3, l4, l5]) (j := 3) rfl hn) k
theorem dX11_cell_116 : decode cX11_cell 116 = .ok (.iconst 0, 1) := by decide +kernel
theorem sX11_cell_116 (k : X w mX11_cell d Q 117 ls (.int (0 : Int32) :: st) P) : X w mX11_cell d Q 116 ls st P := X_iconst (M := mX11_cell) (dX11_cell_116) (by decide) k
theorem dX11_cell_117 : decode cX11_cell 117 = .ok (.istore 5, 2) := by decide +kernel
theorem sX11_cell_117 {l0 l1 l2 l3 l4 l5 : Option Value} {x : Int32} (hn : xnl l4 = true) (k : X w mX11_cell d Q 119 [l0, l1, l2, l3, l4, some (.int x)] st P) : X w mX11_cell d Q 117 [l0, l1, l2, l3, l4, l5] (.int x :: st) P := X_istore (M := mX11_cell) (dX11_cell_117) (by decide) rfl (xnl_p (ls := [l0, l1, l2, l3, l4, l5]) (j := 4) rfl hn) k
theorem dX11_cell_119 : decode cX11_cell 119 = .ok (.iload 5, 2) := by decide +kernel
theorem sX11_cell_119 {l0 l1 l2 l3 l4 : Option Value} {x : Int32} (k : X w mX11_cell d Q 121 [l0, l1, l2, l3, l4, some (.int x)] (.int x :: st) P) : X w mX11_cell d Q 119 [l0, l1, l2, l3, l4, some (.int x)] st P := X_iload (M := mX11_cell) (dX11_cell_119) rfl k
theorem dX11_cell_121 : decode cX11_cell 121 = .ok (.aload_n 0, 1) := by decide +kernel
theorem sX11_cell_121 {l1 l2 l3 l4 l5 : Option Value} {x : Nat} (k : X w mX11_cell d Q 122 [some (.ref x), l1, l2, l3, l4, l5] (.ref x :: st) P) : X w mX11_cell d Q 121 [some (.ref x), l1, l2, l3, l4, l5] st P := X_aload_n (M := mX11_cell) (dX11_cell_121) rfl rfl k
theorem dX11_cell_122 : decode cX11_cell 122 = .ok (.getfield 63, 3) := by decide +kernel
theorem sX11_cell_122 {a : Nat} {fs : List Value} {v : Nat} (hP : P.1 a = some (xO 9 fs)) (hv : fs[20]? = some (.ref v)) (k : X w mX11_cell d Q 125 ls (.ref v :: st) P) : X w mX11_cell d Q 122 ls (.ref a :: st) P := X_get (M := mX11_cell) (j := 20) (T := TX11) (dX11_cell_122) rfl (by decide) x_in11 xw_421 hP hv k
theorem dX11_cell_125 : decode cX11_cell 125 = .ok (.iload_n 3, 1) := by decide +kernel
theorem sX11_cell_125 {l0 l1 l2 l4 l5 : Option Value} {x : Int32} (k : X w mX11_cell d Q 126 [l0, l1, l2, some (.int x), l4, l5] (.int x :: st) P) : X w mX11_cell d Q 125 [l0, l1, l2, some (.int x), l4, l5] st P := X_iload_n (M := mX11_cell) (dX11_cell_125) rfl rfl k
theorem dX11_cell_126 : decode cX11_cell 126 = .ok (.iaload, 1) := by decide +kernel
theorem sX11_cell_126 {a n : Nat} {f : Nat → Int32} {i : Int32} (hP : P.1 a = some (xA 0 n f)) (hi : vp_in i n) (k : X w mX11_cell d Q 127 ls (.int (f i.toNatClampNeg) :: st) P) : X w mX11_cell d Q 126 ls (.int i :: .ref a :: st) P := X_iald (M := mX11_cell) (dX11_cell_126) hP hi k
theorem dX11_cell_127 : decode cX11_cell 127 = .ok (.if_icmp .ge 29, 3) := by decide +kernel
theorem sX11_cell_127 {x y : Int32} (kt : y ≤ x → X w mX11_cell d Q 156 ls st P) (kf : ¬ y ≤ x → X w mX11_cell d Q 130 ls st P) : X w mX11_cell d Q 127 ls (.int y :: .int x :: st) P := X_icmp_ge (M := mX11_cell) (dX11_cell_127) (by decide) kt kf
theorem dX11_cell_130 : decode cX11_cell 130 = .ok (.iload 4, 2) := by decide +kernel
theorem sX11_cell_130 {l0 l1 l2 l3 l5 : Option Value} {x : Int32} (k : X w mX11_cell d Q 132 [l0, l1, l2, l3, some (.int x), l5] (.int x :: st) P) : X w mX11_cell d Q 130 [l0, l1, l2, l3, some (.int x), l5] st P := X_iload (M := mX11_cell) (dX11_cell_130) rfl k
theorem dX11_cell_132 : decode cX11_cell 132 = .ok (.aload_n 0, 1) := by decide +kernel
theorem sX11_cell_132 {l1 l2 l3 l4 l5 : Option Value} {x : Nat} (k : X w mX11_cell d Q 133 [some (.ref x), l1, l2, l3, l4, l5] (.ref x :: st) P) : X w mX11_cell d Q 132 [some (.ref x), l1, l2, l3, l4, l5] st P := X_aload_n (M := mX11_cell) (dX11_cell_132) rfl rfl k
theorem dX11_cell_133 : decode cX11_cell 133 = .ok (.iload_n 3, 1) := by decide +kernel
theorem sX11_cell_133 {l0 l1 l2 l4 l5 : Option Value} {x : Int32} (k : X w mX11_cell d Q 134 [l0, l1, l2, some (.int x), l4, l5] (.int x :: st) P) : X w mX11_cell d Q 133 [l0, l1, l2, some (.int x), l4, l5] st P := X_iload_n (M := mX11_cell) (dX11_cell_133) rfl rfl k
theorem dX11_cell_134 : decode cX11_cell 134 = .ok (.iload 5, 2) := by decide +kernel
theorem sX11_cell_134 {l0 l1 l2 l3 l4 : Option Value} {x : Int32} (k : X w mX11_cell d Q 136 [l0, l1, l2, l3, l4, some (.int x)] (.int x :: st) P) : X w mX11_cell d Q 134 [l0, l1, l2, l3, l4, some (.int x)] st P := X_iload (M := mX11_cell) (dX11_cell_134) rfl k
theorem dX11_cell_136 : decode cX11_cell 136 = .ok (.invokevirtual 241, 3) := by decide +kernel
theorem sX11_cell_136_g {b : Nat} {fs : List Value} {a0 : Int32} {a1 : Int32} {Qc : Outcome → xH → Prop} (hst : (st.map fun v => v.category).sum ≤ 8) (hP : P.1 b = some (xO 9 fs)) (hC : xC w d mX11_agrees [.ref b, .int a0, .int a1] P Qc) (kr : ∀ v P1, Qc (.returned v) P1 → X w mX11_cell (d + 1) Q 139 ls (v.toList ++ st) P1) (kt : ∀ q P1, Qc (.threw q) P1 → Xt w mX11_cell (d + 1) Q 136 ls st P1 q) : X w mX11_cell (d + 1) Q 136 ls (.int a1 :: .int a0 :: .ref b :: st) P := X_callV (M := mX11_cell) (MC := mX11_agrees) (As := [.int a0, .int a1]) (T := TX11) (dX11_cell_136) calX11_agrees xw_533 xw_534 xw_535 rfl rfl hP hC hst kr kt
theorem sX11_cell_136 {b : Nat} {fs : List Value} {a0 : Int32} {a1 : Int32} {r : Int32} {P1 : xH} (hst : (st.map fun v => v.category).sum ≤ 8) (hP : P.1 b = some (xO 9 fs)) (hC : xC w d mX11_agrees [.ref b, .int a0, .int a1] P (xRet (some (.int r)) P1)) (k : X w mX11_cell (d + 1) Q 139 ls (.int r :: st) P1) : X w mX11_cell (d + 1) Q 136 ls (.int a1 :: .int a0 :: .ref b :: st) P := X_callV (M := mX11_cell) (MC := mX11_agrees) (As := [.int a0, .int a1]) (T := TX11) (dX11_cell_136) calX11_agrees xw_533 xw_534 xw_535 rfl rfl hP hC hst (fun v P2 h => by obtain ⟨h1, rfl⟩ := h; cases h1; exact k) (fun q P2 h => by cases h.1)
theorem sX11_cell_136_r {b : Nat} {fs : List Value} {a0 : Int32} {a1 : Int32} {r : Int32} {Rp : xH → Prop} (hst : (st.map fun v => v.category).sum ≤ 8) (hP : P.1 b = some (xO 9 fs)) (hC : xC w d mX11_agrees [.ref b, .int a0, .int a1] P (xRl (some (.int r)) Rp)) (k : ∀ P1, Rp P1 → X w mX11_cell (d + 1) Q 139 ls (.int r :: st) P1) : X w mX11_cell (d + 1) Q 136 ls (.int a1 :: .int a0 :: .ref b :: st) P := X_callV (M := mX11_cell) (MC := mX11_agrees) (As := [.int a0, .int a1]) (T := TX11) (dX11_cell_136) calX11_agrees xw_533 xw_534 xw_535 rfl rfl hP hC hst (fun v P2 h => by obtain ⟨h1, hR⟩ := h; cases h1; exact k P2 hR) (fun q P2 h => by cases h.1)
theorem sX11_cell_136_t {b : Nat} {fs : List Value} {a0 : Int32} {a1 : Int32} {q : Nat} {P1 : xH} (hst : (st.map fun v => v.category).sum ≤ 8) (hP : P.1 b = some (xO 9 fs)) (hC : xC w d mX11_agrees [.ref b, .int a0, .int a1] P (xThr q P1)) (hq : Q (.threw q) P1) : X w mX11_cell (d + 1) Q 136 ls (.int a1 :: .int a0 :: .ref b :: st) P := X_callV (M := mX11_cell) (MC := mX11_agrees) (As := [.int a0, .int a1]) (T := TX11) (dX11_cell_136) calX11_agrees xw_533 xw_534 xw_535 rfl rfl hP hC hst (fun v P2 h => by cases h.1) (fun q2 P2 h => by obtain ⟨h1, rfl⟩ := h; cases h1; exact Xt_out rfl hq)
theorem dX11_cell_139 : decode cX11_cell 139 = .ok (.ifCond .eq 7, 3) := by decide +kernel
theorem sX11_cell_139 {x : Int32} (kt : x = 0 → X w mX11_cell d Q 146 ls st P) (kf : ¬ x = 0 → X w mX11_cell d Q 142 ls st P) : X w mX11_cell d Q 139 ls (.int x :: st) P := X_if_eq (M := mX11_cell) (dX11_cell_139) (by decide) kt kf
theorem dX11_cell_142 : decode cX11_cell 142 = .ok (.iconst 0, 1) := by decide +kernel
theorem sX11_cell_142 (k : X w mX11_cell d Q 143 ls (.int (0 : Int32) :: st) P) : X w mX11_cell d Q 142 ls st P := X_iconst (M := mX11_cell) (dX11_cell_142) (by decide) k
theorem dX11_cell_143 : decode cX11_cell 143 = .ok (.goto 4, 3) := by decide +kernel
theorem sX11_cell_143 (k : X w mX11_cell d Q 147 ls st P) : X w mX11_cell d Q 143 ls st P := X_goto (M := mX11_cell) (dX11_cell_143) (by decide) k
theorem dX11_cell_146 : decode cX11_cell 146 = .ok (.iconst 1, 1) := by decide +kernel
theorem sX11_cell_146 (k : X w mX11_cell d Q 147 ls (.int (1 : Int32) :: st) P) : X w mX11_cell d Q 146 ls st P := X_iconst (M := mX11_cell) (dX11_cell_146) (by decide) k
theorem dX11_cell_147 : decode cX11_cell 147 = .ok (.iadd, 1) := by decide +kernel
theorem sX11_cell_147 {x y : Int32} (k : X w mX11_cell d Q 148 ls (.int (x + y) :: st) P) : X w mX11_cell d Q 147 ls (.int y :: .int x :: st) P := X_iadd (M := mX11_cell) (dX11_cell_147) k
theorem dX11_cell_148 : decode cX11_cell 148 = .ok (.istore 4, 2) := by decide +kernel
theorem sX11_cell_148 {l0 l1 l2 l3 l4 l5 : Option Value} {x : Int32} (hn : xnl l3 = true) (k : X w mX11_cell d Q 150 [l0, l1, l2, l3, some (.int x), l5] st P) : X w mX11_cell d Q 148 [l0, l1, l2, l3, l4, l5] (.int x :: st) P := X_istore (M := mX11_cell) (dX11_cell_148) (by decide) rfl (xnl_p (ls := [l0, l1, l2, l3, l4, l5]) (j := 3) rfl hn) k
theorem dX11_cell_150 : decode cX11_cell 150 = .ok (.iinc 5 1, 3) := by decide +kernel
theorem sX11_cell_150 {l0 l1 l2 l3 l4 : Option Value} {x : Int32} (hn : xnl l4 = true) (k : X w mX11_cell d Q 153 [l0, l1, l2, l3, l4, some (.int (x + (1 : Int32)))] st P) : X w mX11_cell d Q 150 [l0, l1, l2, l3, l4, some (.int x)] st P := X_iinc (M := mX11_cell) (dX11_cell_150) rfl (by rfl) (by decide) rfl (xnl_p (ls := [l0, l1, l2, l3, l4, some (.int x)]) (j := 4) rfl hn) k
theorem dX11_cell_153 : decode cX11_cell 153 = .ok (.goto (-34), 3) := by decide +kernel
theorem sX11_cell_153 (k : X w mX11_cell d Q 119 ls st P) : X w mX11_cell d Q 153 ls st P := X_goto (M := mX11_cell) (dX11_cell_153) (by decide) k
theorem dX11_cell_156 : decode cX11_cell 156 = .ok (.iload 4, 2) := by decide +kernel
theorem sX11_cell_156 {l0 l1 l2 l3 l5 : Option Value} {x : Int32} (k : X w mX11_cell d Q 158 [l0, l1, l2, l3, some (.int x), l5] (.int x :: st) P) : X w mX11_cell d Q 156 [l0, l1, l2, l3, some (.int x), l5] st P := X_iload (M := mX11_cell) (dX11_cell_156) rfl k
theorem dX11_cell_158 : decode cX11_cell 158 = .ok (.ireturn, 1) := by decide +kernel
theorem sX11_cell_158 {v : Int32} (hq : Q (.returned (some (.int v))) P) : X w mX11_cell d Q 158 ls [.int v] P := X_iret (M := mX11_cell) (dX11_cell_158) rfl hq
theorem dX11_truth_0 : decode cX11_truth 0 = .ok (.aload_n 0, 1) := by decide +kernel
theorem sX11_truth_0 {l1 l2 : Option Value} {x : Nat} (k : X w mX11_truth d Q 1 [some (.ref x), l1, l2] (.ref x :: st) P) : X w mX11_truth d Q 0 [some (.ref x), l1, l2] st P := X_aload_n (M := mX11_truth) (dX11_truth_0) rfl rfl k
theorem dX11_truth_1 : decode cX11_truth 1 = .ok (.aload_n 0, 1) := by decide +kernel
theorem sX11_truth_1 {l1 l2 : Option Value} {x : Nat} (k : X w mX11_truth d Q 2 [some (.ref x), l1, l2] (.ref x :: st) P) : X w mX11_truth d Q 1 [some (.ref x), l1, l2] st P := X_aload_n (M := mX11_truth) (dX11_truth_1) rfl rfl k
theorem dX11_truth_2 : decode cX11_truth 2 = .ok (.iload_n 1, 1) := by decide +kernel
theorem sX11_truth_2 {l0 l2 : Option Value} {x : Int32} (k : X w mX11_truth d Q 3 [l0, some (.int x), l2] (.int x :: st) P) : X w mX11_truth d Q 2 [l0, some (.int x), l2] st P := X_iload_n (M := mX11_truth) (dX11_truth_2) rfl rfl k
theorem dX11_truth_3 : decode cX11_truth 3 = .ok (.invokevirtual 238, 3) := by decide +kernel
theorem sX11_truth_3_g {b : Nat} {fs : List Value} {a0 : Int32} {Qc : Outcome → xH → Prop} (hst : (st.map fun v => v.category).sum ≤ 8) (hP : P.1 b = some (xO 9 fs)) (hC : xC w d mX11_isCell [.ref b, .int a0] P Qc) (kr : ∀ v P1, Qc (.returned v) P1 → X w mX11_truth (d + 1) Q 6 ls (v.toList ++ st) P1) (kt : ∀ q P1, Qc (.threw q) P1 → Xt w mX11_truth (d + 1) Q 3 ls st P1 q) : X w mX11_truth (d + 1) Q 3 ls (.int a0 :: .ref b :: st) P := X_callV (M := mX11_truth) (MC := mX11_isCell) (As := [.int a0]) (T := TX11) (dX11_truth_3) calX11_isCell xw_530 xw_531 xw_532 rfl rfl hP hC hst kr kt
theorem sX11_truth_3 {b : Nat} {fs : List Value} {a0 : Int32} {r : Int32} {P1 : xH} (hst : (st.map fun v => v.category).sum ≤ 8) (hP : P.1 b = some (xO 9 fs)) (hC : xC w d mX11_isCell [.ref b, .int a0] P (xRet (some (.int r)) P1)) (k : X w mX11_truth (d + 1) Q 6 ls (.int r :: st) P1) : X w mX11_truth (d + 1) Q 3 ls (.int a0 :: .ref b :: st) P := X_callV (M := mX11_truth) (MC := mX11_isCell) (As := [.int a0]) (T := TX11) (dX11_truth_3) calX11_isCell xw_530 xw_531 xw_532 rfl rfl hP hC hst (fun v P2 h => by obtain ⟨h1, rfl⟩ := h; cases h1; exact k) (fun q P2 h => by cases h.1)
theorem sX11_truth_3_r {b : Nat} {fs : List Value} {a0 : Int32} {r : Int32} {Rp : xH → Prop} (hst : (st.map fun v => v.category).sum ≤ 8) (hP : P.1 b = some (xO 9 fs)) (hC : xC w d mX11_isCell [.ref b, .int a0] P (xRl (some (.int r)) Rp)) (k : ∀ P1, Rp P1 → X w mX11_truth (d + 1) Q 6 ls (.int r :: st) P1) : X w mX11_truth (d + 1) Q 3 ls (.int a0 :: .ref b :: st) P := X_callV (M := mX11_truth) (MC := mX11_isCell) (As := [.int a0]) (T := TX11) (dX11_truth_3) calX11_isCell xw_530 xw_531 xw_532 rfl rfl hP hC hst (fun v P2 h => by obtain ⟨h1, hR⟩ := h; cases h1; exact k P2 hR) (fun q P2 h => by cases h.1)
theorem sX11_truth_3_t {b : Nat} {fs : List Value} {a0 : Int32} {q : Nat} {P1 : xH} (hst : (st.map fun v => v.category).sum ≤ 8) (hP : P.1 b = some (xO 9 fs)) (hC : xC w d mX11_isCell [.ref b, .int a0] P (xThr q P1)) (hq : Q (.threw q) P1) : X w mX11_truth (d + 1) Q 3 ls (.int a0 :: .ref b :: st) P := X_callV (M := mX11_truth) (MC := mX11_isCell) (As := [.int a0]) (T := TX11) (dX11_truth_3) calX11_isCell xw_530 xw_531 xw_532 rfl rfl hP hC hst (fun v P2 h => by cases h.1) (fun q2 P2 h => by obtain ⟨h1, rfl⟩ := h; cases h1; exact Xt_out rfl hq)
theorem dX11_truth_6 : decode cX11_truth 6 = .ok (.ifCond .eq 25, 3) := by decide +kernel
theorem sX11_truth_6 {x : Int32} (kt : x = 0 → X w mX11_truth d Q 31 ls st P) (kf : ¬ x = 0 → X w mX11_truth d Q 9 ls st P) : X w mX11_truth d Q 6 ls (.int x :: st) P := X_if_eq (M := mX11_truth) (dX11_truth_6) (by decide) kt kf
theorem dX11_truth_9 : decode cX11_truth 9 = .ok (.iload_n 2, 1) := by decide +kernel
theorem sX11_truth_9 {l0 l1 : Option Value} {x : Int32} (k : X w mX11_truth d Q 10 [l0, l1, some (.int x)] (.int x :: st) P) : X w mX11_truth d Q 9 [l0, l1, some (.int x)] st P := X_iload_n (M := mX11_truth) (dX11_truth_9) rfl rfl k
theorem dX11_truth_10 : decode cX11_truth 10 = .ok (.ifCond .lt 21, 3) := by decide +kernel
theorem sX11_truth_10 {x : Int32} (kt : x < 0 → X w mX11_truth d Q 31 ls st P) (kf : ¬ x < 0 → X w mX11_truth d Q 13 ls st P) : X w mX11_truth d Q 10 ls (.int x :: st) P := X_if_lt (M := mX11_truth) (dX11_truth_10) (by decide) kt kf
theorem dX11_truth_13 : decode cX11_truth 13 = .ok (.iload_n 2, 1) := by decide +kernel
theorem sX11_truth_13 {l0 l1 : Option Value} {x : Int32} (k : X w mX11_truth d Q 14 [l0, l1, some (.int x)] (.int x :: st) P) : X w mX11_truth d Q 13 [l0, l1, some (.int x)] st P := X_iload_n (M := mX11_truth) (dX11_truth_13) rfl rfl k
theorem dX11_truth_14 : decode cX11_truth 14 = .ok (.aload_n 0, 1) := by decide +kernel
theorem sX11_truth_14 {l1 l2 : Option Value} {x : Nat} (k : X w mX11_truth d Q 15 [some (.ref x), l1, l2] (.ref x :: st) P) : X w mX11_truth d Q 14 [some (.ref x), l1, l2] st P := X_aload_n (M := mX11_truth) (dX11_truth_14) rfl rfl k
theorem dX11_truth_15 : decode cX11_truth 15 = .ok (.getfield 50, 3) := by decide +kernel
theorem sX11_truth_15 {a : Nat} {fs : List Value} {v : Nat} (hP : P.1 a = some (xO 9 fs)) (hv : fs[16]? = some (.ref v)) (k : X w mX11_truth d Q 18 ls (.ref v :: st) P) : X w mX11_truth d Q 15 ls (.ref a :: st) P := X_get (M := mX11_truth) (j := 16) (T := TX11) (dX11_truth_15) rfl (by decide) x_in11 xw_417 hP hv k
theorem dX11_truth_18 : decode cX11_truth 18 = .ok (.bipush 12, 2) := by decide +kernel
theorem sX11_truth_18 (k : X w mX11_truth d Q 20 ls (.int (12 : Int32) :: st) P) : X w mX11_truth d Q 18 ls st P := X_bipush (M := mX11_truth) (dX11_truth_18) (by decide) k
theorem dX11_truth_20 : decode cX11_truth 20 = .ok (.aload_n 0, 1) := by decide +kernel
theorem sX11_truth_20 {l1 l2 : Option Value} {x : Nat} (k : X w mX11_truth d Q 21 [some (.ref x), l1, l2] (.ref x :: st) P) : X w mX11_truth d Q 20 [some (.ref x), l1, l2] st P := X_aload_n (M := mX11_truth) (dX11_truth_20) rfl rfl k
theorem dX11_truth_21 : decode cX11_truth 21 = .ok (.getfield 226, 3) := by decide +kernel
theorem sX11_truth_21 {a : Nat} {fs : List Value} {v : Int32} (hP : P.1 a = some (xO 9 fs)) (hv : fs[3]? = some (.int v)) (k : X w mX11_truth d Q 24 ls (.int v :: st) P) : X w mX11_truth d Q 21 ls (.ref a :: st) P := X_get (M := mX11_truth) (j := 3) (T := TX11) (dX11_truth_21) rfl (by decide) x_in11 xw_521 hP hv k
theorem dX11_truth_24 : decode cX11_truth 24 = .ok (.imul, 1) := by decide +kernel
theorem sX11_truth_24 {x y : Int32} (k : X w mX11_truth d Q 25 ls (.int (x * y) :: st) P) : X w mX11_truth d Q 24 ls (.int y :: .int x :: st) P := X_imul (M := mX11_truth) (dX11_truth_24) k
theorem dX11_truth_25 : decode cX11_truth 25 = .ok (.iload_n 1, 1) := by decide +kernel
theorem sX11_truth_25 {l0 l2 : Option Value} {x : Int32} (k : X w mX11_truth d Q 26 [l0, some (.int x), l2] (.int x :: st) P) : X w mX11_truth d Q 25 [l0, some (.int x), l2] st P := X_iload_n (M := mX11_truth) (dX11_truth_25) rfl rfl k
theorem dX11_truth_26 : decode cX11_truth 26 = .ok (.iadd, 1) := by decide +kernel
theorem sX11_truth_26 {x y : Int32} (k : X w mX11_truth d Q 27 ls (.int (x + y) :: st) P) : X w mX11_truth d Q 26 ls (.int y :: .int x :: st) P := X_iadd (M := mX11_truth) (dX11_truth_26) k
theorem dX11_truth_27 : decode cX11_truth 27 = .ok (.iaload, 1) := by decide +kernel
theorem sX11_truth_27 {a n : Nat} {f : Nat → Int32} {i : Int32} (hP : P.1 a = some (xA 0 n f)) (hi : vp_in i n) (k : X w mX11_truth d Q 28 ls (.int (f i.toNatClampNeg) :: st) P) : X w mX11_truth d Q 27 ls (.int i :: .ref a :: st) P := X_iald (M := mX11_truth) (dX11_truth_27) hP hi k
theorem dX11_truth_28 : decode cX11_truth 28 = .ok (.if_icmp .lt 7, 3) := by decide +kernel
theorem sX11_truth_28 {x y : Int32} (kt : x < y → X w mX11_truth d Q 35 ls st P) (kf : ¬ x < y → X w mX11_truth d Q 31 ls st P) : X w mX11_truth d Q 28 ls (.int y :: .int x :: st) P := X_icmp_lt (M := mX11_truth) (dX11_truth_28) (by decide) kt kf
theorem dX11_truth_31 : decode cX11_truth 31 = .ok (.iconst 1, 1) := by decide +kernel
theorem sX11_truth_31 (k : X w mX11_truth d Q 32 ls (.int (1 : Int32) :: st) P) : X w mX11_truth d Q 31 ls st P := X_iconst (M := mX11_truth) (dX11_truth_31) (by decide) k
theorem dX11_truth_32 : decode cX11_truth 32 = .ok (.goto 4, 3) := by decide +kernel
theorem sX11_truth_32 (k : X w mX11_truth d Q 36 ls st P) : X w mX11_truth d Q 32 ls st P := X_goto (M := mX11_truth) (dX11_truth_32) (by decide) k
theorem dX11_truth_35 : decode cX11_truth 35 = .ok (.iconst 0, 1) := by decide +kernel
theorem sX11_truth_35 (k : X w mX11_truth d Q 36 ls (.int (0 : Int32) :: st) P) : X w mX11_truth d Q 35 ls st P := X_iconst (M := mX11_truth) (dX11_truth_35) (by decide) k
theorem dX11_truth_36 : decode cX11_truth 36 = .ok (.putfield 84, 3) := by decide +kernel
theorem sX11_truth_36 {a : Nat} {fs : List Value} {v : Int32} (hP : P.1 a = some (xO 9 fs)) (hl : 0 < fs.length) (k : X w mX11_truth d Q 39 ls st (xs P a (xO 9 (fs.set 0 (.int v))))) : X w mX11_truth d Q 36 ls (.int v :: .ref a :: st) P := X_put (M := mX11_truth) (j := 0) (T := TX11) (dX11_truth_36) rfl (by decide) x_c11 xw_428 rfl hP rfl rfl hl k
theorem dX11_truth_39 : decode cX11_truth 39 = .ok (.aload_n 0, 1) := by decide +kernel
theorem sX11_truth_39 {l1 l2 : Option Value} {x : Nat} (k : X w mX11_truth d Q 40 [some (.ref x), l1, l2] (.ref x :: st) P) : X w mX11_truth d Q 39 [some (.ref x), l1, l2] st P := X_aload_n (M := mX11_truth) (dX11_truth_39) rfl rfl k
theorem dX11_truth_40 : decode cX11_truth 40 = .ok (.getfield 84, 3) := by decide +kernel
theorem sX11_truth_40 {a : Nat} {fs : List Value} {v : Int32} (hP : P.1 a = some (xO 9 fs)) (hv : fs[0]? = some (.int v)) (k : X w mX11_truth d Q 43 ls (.int v :: st) P) : X w mX11_truth d Q 40 ls (.ref a :: st) P := X_get (M := mX11_truth) (j := 0) (T := TX11) (dX11_truth_40) rfl (by decide) x_in11 xw_428 hP hv k
theorem dX11_truth_43 : decode cX11_truth 43 = .ok (.ifCond .le 7, 3) := by decide +kernel
theorem sX11_truth_43 {x : Int32} (kt : x ≤ 0 → X w mX11_truth d Q 50 ls st P) (kf : ¬ x ≤ 0 → X w mX11_truth d Q 46 ls st P) : X w mX11_truth d Q 43 ls (.int x :: st) P := X_if_le (M := mX11_truth) (dX11_truth_43) (by decide) kt kf
theorem dX11_truth_46 : decode cX11_truth 46 = .ok (.lconst 0, 1) := by decide +kernel
theorem sX11_truth_46 (k : X w mX11_truth d Q 47 ls (.long (0 : Int64) :: st) P) : X w mX11_truth d Q 46 ls st P := X_lconst (M := mX11_truth) (dX11_truth_46) (by decide) k
theorem dX11_truth_47 : decode cX11_truth 47 = .ok (.goto 21, 3) := by decide +kernel
theorem sX11_truth_47 (k : X w mX11_truth d Q 68 ls st P) : X w mX11_truth d Q 47 ls st P := X_goto (M := mX11_truth) (dX11_truth_47) (by decide) k
theorem dX11_truth_50 : decode cX11_truth 50 = .ok (.aload_n 0, 1) := by decide +kernel
theorem sX11_truth_50 {l1 l2 : Option Value} {x : Nat} (k : X w mX11_truth d Q 51 [some (.ref x), l1, l2] (.ref x :: st) P) : X w mX11_truth d Q 50 [some (.ref x), l1, l2] st P := X_aload_n (M := mX11_truth) (dX11_truth_50) rfl rfl k
theorem dX11_truth_51 : decode cX11_truth 51 = .ok (.getfield 60, 3) := by decide +kernel
theorem sX11_truth_51 {a : Nat} {fs : List Value} {v : Nat} (hP : P.1 a = some (xO 9 fs)) (hv : fs[19]? = some (.ref v)) (k : X w mX11_truth d Q 54 ls (.ref v :: st) P) : X w mX11_truth d Q 51 ls (.ref a :: st) P := X_get (M := mX11_truth) (j := 19) (T := TX11) (dX11_truth_51) rfl (by decide) x_in11 xw_420 hP hv k
theorem dX11_truth_54 : decode cX11_truth 54 = .ok (.iconst 3, 1) := by decide +kernel
theorem sX11_truth_54 (k : X w mX11_truth d Q 55 ls (.int (3 : Int32) :: st) P) : X w mX11_truth d Q 54 ls st P := X_iconst (M := mX11_truth) (dX11_truth_54) (by decide) k
theorem dX11_truth_55 : decode cX11_truth 55 = .ok (.bipush 12, 2) := by decide +kernel
theorem sX11_truth_55 (k : X w mX11_truth d Q 57 ls (.int (12 : Int32) :: st) P) : X w mX11_truth d Q 55 ls st P := X_bipush (M := mX11_truth) (dX11_truth_55) (by decide) k
theorem dX11_truth_57 : decode cX11_truth 57 = .ok (.aload_n 0, 1) := by decide +kernel
theorem sX11_truth_57 {l1 l2 : Option Value} {x : Nat} (k : X w mX11_truth d Q 58 [some (.ref x), l1, l2] (.ref x :: st) P) : X w mX11_truth d Q 57 [some (.ref x), l1, l2] st P := X_aload_n (M := mX11_truth) (dX11_truth_57) rfl rfl k
theorem dX11_truth_58 : decode cX11_truth 58 = .ok (.getfield 226, 3) := by decide +kernel
theorem sX11_truth_58 {a : Nat} {fs : List Value} {v : Int32} (hP : P.1 a = some (xO 9 fs)) (hv : fs[3]? = some (.int v)) (k : X w mX11_truth d Q 61 ls (.int v :: st) P) : X w mX11_truth d Q 58 ls (.ref a :: st) P := X_get (M := mX11_truth) (j := 3) (T := TX11) (dX11_truth_58) rfl (by decide) x_in11 xw_521 hP hv k
theorem dX11_truth_61 : decode cX11_truth 61 = .ok (.imul, 1) := by decide +kernel
theorem sX11_truth_61 {x y : Int32} (k : X w mX11_truth d Q 62 ls (.int (x * y) :: st) P) : X w mX11_truth d Q 61 ls (.int y :: .int x :: st) P := X_imul (M := mX11_truth) (dX11_truth_61) k
theorem dX11_truth_62 : decode cX11_truth 62 = .ok (.iload_n 1, 1) := by decide +kernel
theorem sX11_truth_62 {l0 l2 : Option Value} {x : Int32} (k : X w mX11_truth d Q 63 [l0, some (.int x), l2] (.int x :: st) P) : X w mX11_truth d Q 62 [l0, some (.int x), l2] st P := X_iload_n (M := mX11_truth) (dX11_truth_62) rfl rfl k
theorem dX11_truth_63 : decode cX11_truth 63 = .ok (.iadd, 1) := by decide +kernel
theorem sX11_truth_63 {x y : Int32} (k : X w mX11_truth d Q 64 ls (.int (x + y) :: st) P) : X w mX11_truth d Q 63 ls (.int y :: .int x :: st) P := X_iadd (M := mX11_truth) (dX11_truth_63) k
theorem dX11_truth_64 : decode cX11_truth 64 = .ok (.imul, 1) := by decide +kernel
theorem sX11_truth_64 {x y : Int32} (k : X w mX11_truth d Q 65 ls (.int (x * y) :: st) P) : X w mX11_truth d Q 64 ls (.int y :: .int x :: st) P := X_imul (M := mX11_truth) (dX11_truth_64) k
theorem dX11_truth_65 : decode cX11_truth 65 = .ok (.iload_n 2, 1) := by decide +kernel
theorem sX11_truth_65 {l0 l1 : Option Value} {x : Int32} (k : X w mX11_truth d Q 66 [l0, l1, some (.int x)] (.int x :: st) P) : X w mX11_truth d Q 65 [l0, l1, some (.int x)] st P := X_iload_n (M := mX11_truth) (dX11_truth_65) rfl rfl k
theorem dX11_truth_66 : decode cX11_truth 66 = .ok (.iadd, 1) := by decide +kernel
theorem sX11_truth_66 {x y : Int32} (k : X w mX11_truth d Q 67 ls (.int (x + y) :: st) P) : X w mX11_truth d Q 66 ls (.int y :: .int x :: st) P := X_iadd (M := mX11_truth) (dX11_truth_66) k
theorem dX11_truth_67 : decode cX11_truth 67 = .ok (.laload, 1) := by decide +kernel
theorem sX11_truth_67 {a n : Nat} {f : Nat → Int64} {i : Int32} (hP : P.1 a = some (xJ n f)) (hi : vp_in i n) (k : X w mX11_truth d Q 68 ls (.long (f i.toNatClampNeg) :: st) P) : X w mX11_truth d Q 67 ls (.int i :: .ref a :: st) P := X_lald (M := mX11_truth) (dX11_truth_67) hP hi k
theorem dX11_truth_68 : decode cX11_truth 68 = .ok (.lreturn, 1) := by decide +kernel
theorem sX11_truth_68 {v : Int64} (hq : Q (.returned (some (.long v))) P) : X w mX11_truth d Q 68 ls [.long v] P := X_lret (M := mX11_truth) (dX11_truth_68) rfl hq
theorem dX11_sense_0 : decode cX11_sense 0 = .ok (.bipush 12, 2) := by decide +kernel
theorem sX11_sense_0 (k : X w mX11_sense d Q 2 ls (.int (12 : Int32) :: st) P) : X w mX11_sense d Q 0 ls st P := X_bipush (M := mX11_sense) (dX11_sense_0) (by decide) k
theorem dX11_sense_2 : decode cX11_sense 2 = .ok (.aload_n 0, 1) := by decide +kernel
theorem sX11_sense_2 {l1 l2 l3 l4 : Option Value} {x : Nat} (k : X w mX11_sense d Q 3 [some (.ref x), l1, l2, l3, l4] (.ref x :: st) P) : X w mX11_sense d Q 2 [some (.ref x), l1, l2, l3, l4] st P := X_aload_n (M := mX11_sense) (dX11_sense_2) rfl rfl k
theorem dX11_sense_3 : decode cX11_sense 3 = .ok (.getfield 226, 3) := by decide +kernel
theorem sX11_sense_3 {a : Nat} {fs : List Value} {v : Int32} (hP : P.1 a = some (xO 9 fs)) (hv : fs[3]? = some (.int v)) (k : X w mX11_sense d Q 6 ls (.int v :: st) P) : X w mX11_sense d Q 3 ls (.ref a :: st) P := X_get (M := mX11_sense) (j := 3) (T := TX11) (dX11_sense_3) rfl (by decide) x_in11 xw_521 hP hv k
theorem dX11_sense_6 : decode cX11_sense 6 = .ok (.imul, 1) := by decide +kernel
theorem sX11_sense_6 {x y : Int32} (k : X w mX11_sense d Q 7 ls (.int (x * y) :: st) P) : X w mX11_sense d Q 6 ls (.int y :: .int x :: st) P := X_imul (M := mX11_sense) (dX11_sense_6) k
theorem dX11_sense_7 : decode cX11_sense 7 = .ok (.iload_n 1, 1) := by decide +kernel
theorem sX11_sense_7 {l0 l2 l3 l4 : Option Value} {x : Int32} (k : X w mX11_sense d Q 8 [l0, some (.int x), l2, l3, l4] (.int x :: st) P) : X w mX11_sense d Q 7 [l0, some (.int x), l2, l3, l4] st P := X_iload_n (M := mX11_sense) (dX11_sense_7) rfl rfl k
theorem dX11_sense_8 : decode cX11_sense 8 = .ok (.iadd, 1) := by decide +kernel
theorem sX11_sense_8 {x y : Int32} (k : X w mX11_sense d Q 9 ls (.int (x + y) :: st) P) : X w mX11_sense d Q 8 ls (.int y :: .int x :: st) P := X_iadd (M := mX11_sense) (dX11_sense_8) k
theorem dX11_sense_9 : decode cX11_sense 9 = .ok (.istore 4, 2) := by decide +kernel
theorem sX11_sense_9 {l0 l1 l2 l3 l4 : Option Value} {x : Int32} (hn : xnl l3 = true) (k : X w mX11_sense d Q 11 [l0, l1, l2, l3, some (.int x)] st P) : X w mX11_sense d Q 9 [l0, l1, l2, l3, l4] (.int x :: st) P := X_istore (M := mX11_sense) (dX11_sense_9) (by decide) rfl (xnl_p (ls := [l0, l1, l2, l3, l4]) (j := 3) rfl hn) k
theorem dX11_sense_11 : decode cX11_sense 11 = .ok (.aload_n 0, 1) := by decide +kernel
theorem sX11_sense_11 {l1 l2 l3 l4 : Option Value} {x : Nat} (k : X w mX11_sense d Q 12 [some (.ref x), l1, l2, l3, l4] (.ref x :: st) P) : X w mX11_sense d Q 11 [some (.ref x), l1, l2, l3, l4] st P := X_aload_n (M := mX11_sense) (dX11_sense_11) rfl rfl k
theorem dX11_sense_12 : decode cX11_sense 12 = .ok (.aload_n 0, 1) := by decide +kernel
theorem sX11_sense_12 {l1 l2 l3 l4 : Option Value} {x : Nat} (k : X w mX11_sense d Q 13 [some (.ref x), l1, l2, l3, l4] (.ref x :: st) P) : X w mX11_sense d Q 12 [some (.ref x), l1, l2, l3, l4] st P := X_aload_n (M := mX11_sense) (dX11_sense_12) rfl rfl k
theorem dX11_sense_13 : decode cX11_sense 13 = .ok (.iload_n 1, 1) := by decide +kernel
theorem sX11_sense_13 {l0 l2 l3 l4 : Option Value} {x : Int32} (k : X w mX11_sense d Q 14 [l0, some (.int x), l2, l3, l4] (.int x :: st) P) : X w mX11_sense d Q 13 [l0, some (.int x), l2, l3, l4] st P := X_iload_n (M := mX11_sense) (dX11_sense_13) rfl rfl k
theorem dX11_sense_14 : decode cX11_sense 14 = .ok (.invokevirtual 238, 3) := by decide +kernel
theorem sX11_sense_14_g {b : Nat} {fs : List Value} {a0 : Int32} {Qc : Outcome → xH → Prop} (hst : (st.map fun v => v.category).sum ≤ 8) (hP : P.1 b = some (xO 9 fs)) (hC : xC w d mX11_isCell [.ref b, .int a0] P Qc) (kr : ∀ v P1, Qc (.returned v) P1 → X w mX11_sense (d + 1) Q 17 ls (v.toList ++ st) P1) (kt : ∀ q P1, Qc (.threw q) P1 → Xt w mX11_sense (d + 1) Q 14 ls st P1 q) : X w mX11_sense (d + 1) Q 14 ls (.int a0 :: .ref b :: st) P := X_callV (M := mX11_sense) (MC := mX11_isCell) (As := [.int a0]) (T := TX11) (dX11_sense_14) calX11_isCell xw_530 xw_531 xw_532 rfl rfl hP hC hst kr kt
theorem sX11_sense_14 {b : Nat} {fs : List Value} {a0 : Int32} {r : Int32} {P1 : xH} (hst : (st.map fun v => v.category).sum ≤ 8) (hP : P.1 b = some (xO 9 fs)) (hC : xC w d mX11_isCell [.ref b, .int a0] P (xRet (some (.int r)) P1)) (k : X w mX11_sense (d + 1) Q 17 ls (.int r :: st) P1) : X w mX11_sense (d + 1) Q 14 ls (.int a0 :: .ref b :: st) P := X_callV (M := mX11_sense) (MC := mX11_isCell) (As := [.int a0]) (T := TX11) (dX11_sense_14) calX11_isCell xw_530 xw_531 xw_532 rfl rfl hP hC hst (fun v P2 h => by obtain ⟨h1, rfl⟩ := h; cases h1; exact k) (fun q P2 h => by cases h.1)
theorem sX11_sense_14_r {b : Nat} {fs : List Value} {a0 : Int32} {r : Int32} {Rp : xH → Prop} (hst : (st.map fun v => v.category).sum ≤ 8) (hP : P.1 b = some (xO 9 fs)) (hC : xC w d mX11_isCell [.ref b, .int a0] P (xRl (some (.int r)) Rp)) (k : ∀ P1, Rp P1 → X w mX11_sense (d + 1) Q 17 ls (.int r :: st) P1) : X w mX11_sense (d + 1) Q 14 ls (.int a0 :: .ref b :: st) P := X_callV (M := mX11_sense) (MC := mX11_isCell) (As := [.int a0]) (T := TX11) (dX11_sense_14) calX11_isCell xw_530 xw_531 xw_532 rfl rfl hP hC hst (fun v P2 h => by obtain ⟨h1, hR⟩ := h; cases h1; exact k P2 hR) (fun q P2 h => by cases h.1)
theorem sX11_sense_14_t {b : Nat} {fs : List Value} {a0 : Int32} {q : Nat} {P1 : xH} (hst : (st.map fun v => v.category).sum ≤ 8) (hP : P.1 b = some (xO 9 fs)) (hC : xC w d mX11_isCell [.ref b, .int a0] P (xThr q P1)) (hq : Q (.threw q) P1) : X w mX11_sense (d + 1) Q 14 ls (.int a0 :: .ref b :: st) P := X_callV (M := mX11_sense) (MC := mX11_isCell) (As := [.int a0]) (T := TX11) (dX11_sense_14) calX11_isCell xw_530 xw_531 xw_532 rfl rfl hP hC hst (fun v P2 h => by cases h.1) (fun q2 P2 h => by obtain ⟨h1, rfl⟩ := h; cases h1; exact Xt_out rfl hq)
theorem dX11_sense_17 : decode cX11_sense 17 = .ok (.ifCond .eq 33, 3) := by decide +kernel
theorem sX11_sense_17 {x : Int32} (kt : x = 0 → X w mX11_sense d Q 50 ls st P) (kf : ¬ x = 0 → X w mX11_sense d Q 20 ls st P) : X w mX11_sense d Q 17 ls (.int x :: st) P := X_if_eq (M := mX11_sense) (dX11_sense_17) (by decide) kt kf
theorem dX11_sense_20 : decode cX11_sense 20 = .ok (.iload_n 2, 1) := by decide +kernel
theorem sX11_sense_20 {l0 l1 l3 l4 : Option Value} {x : Int32} (k : X w mX11_sense d Q 21 [l0, l1, some (.int x), l3, l4] (.int x :: st) P) : X w mX11_sense d Q 20 [l0, l1, some (.int x), l3, l4] st P := X_iload_n (M := mX11_sense) (dX11_sense_20) rfl rfl k
theorem dX11_sense_21 : decode cX11_sense 21 = .ok (.ifCond .lt 29, 3) := by decide +kernel
theorem sX11_sense_21 {x : Int32} (kt : x < 0 → X w mX11_sense d Q 50 ls st P) (kf : ¬ x < 0 → X w mX11_sense d Q 24 ls st P) : X w mX11_sense d Q 21 ls (.int x :: st) P := X_if_lt (M := mX11_sense) (dX11_sense_21) (by decide) kt kf
theorem dX11_sense_24 : decode cX11_sense 24 = .ok (.iload_n 2, 1) := by decide +kernel
theorem sX11_sense_24 {l0 l1 l3 l4 : Option Value} {x : Int32} (k : X w mX11_sense d Q 25 [l0, l1, some (.int x), l3, l4] (.int x :: st) P) : X w mX11_sense d Q 24 [l0, l1, some (.int x), l3, l4] st P := X_iload_n (M := mX11_sense) (dX11_sense_24) rfl rfl k
theorem dX11_sense_25 : decode cX11_sense 25 = .ok (.aload_n 0, 1) := by decide +kernel
theorem sX11_sense_25 {l1 l2 l3 l4 : Option Value} {x : Nat} (k : X w mX11_sense d Q 26 [some (.ref x), l1, l2, l3, l4] (.ref x :: st) P) : X w mX11_sense d Q 25 [some (.ref x), l1, l2, l3, l4] st P := X_aload_n (M := mX11_sense) (dX11_sense_25) rfl rfl k
theorem dX11_sense_26 : decode cX11_sense 26 = .ok (.getfield 47, 3) := by decide +kernel
theorem sX11_sense_26 {a : Nat} {fs : List Value} {v : Nat} (hP : P.1 a = some (xO 9 fs)) (hv : fs[15]? = some (.ref v)) (k : X w mX11_sense d Q 29 ls (.ref v :: st) P) : X w mX11_sense d Q 26 ls (.ref a :: st) P := X_get (M := mX11_sense) (j := 15) (T := TX11) (dX11_sense_26) rfl (by decide) x_in11 xw_416 hP hv k
theorem dX11_sense_29 : decode cX11_sense 29 = .ok (.iload 4, 2) := by decide +kernel
theorem sX11_sense_29 {l0 l1 l2 l3 : Option Value} {x : Int32} (k : X w mX11_sense d Q 31 [l0, l1, l2, l3, some (.int x)] (.int x :: st) P) : X w mX11_sense d Q 29 [l0, l1, l2, l3, some (.int x)] st P := X_iload (M := mX11_sense) (dX11_sense_29) rfl k
theorem dX11_sense_31 : decode cX11_sense 31 = .ok (.iaload, 1) := by decide +kernel
theorem sX11_sense_31 {a n : Nat} {f : Nat → Int32} {i : Int32} (hP : P.1 a = some (xA 0 n f)) (hi : vp_in i n) (k : X w mX11_sense d Q 32 ls (.int (f i.toNatClampNeg) :: st) P) : X w mX11_sense d Q 31 ls (.int i :: .ref a :: st) P := X_iald (M := mX11_sense) (dX11_sense_31) hP hi k
theorem dX11_sense_32 : decode cX11_sense 32 = .ok (.if_icmp .ge 18, 3) := by decide +kernel
theorem sX11_sense_32 {x y : Int32} (kt : y ≤ x → X w mX11_sense d Q 50 ls st P) (kf : ¬ y ≤ x → X w mX11_sense d Q 35 ls st P) : X w mX11_sense d Q 32 ls (.int y :: .int x :: st) P := X_icmp_ge (M := mX11_sense) (dX11_sense_32) (by decide) kt kf
theorem dX11_sense_35 : decode cX11_sense 35 = .ok (.iload_n 3, 1) := by decide +kernel
theorem sX11_sense_35 {l0 l1 l2 l4 : Option Value} {x : Int32} (k : X w mX11_sense d Q 36 [l0, l1, l2, some (.int x), l4] (.int x :: st) P) : X w mX11_sense d Q 35 [l0, l1, l2, some (.int x), l4] st P := X_iload_n (M := mX11_sense) (dX11_sense_35) rfl rfl k
theorem dX11_sense_36 : decode cX11_sense 36 = .ok (.ifCond .lt 14, 3) := by decide +kernel
theorem sX11_sense_36 {x : Int32} (kt : x < 0 → X w mX11_sense d Q 50 ls st P) (kf : ¬ x < 0 → X w mX11_sense d Q 39 ls st P) : X w mX11_sense d Q 36 ls (.int x :: st) P := X_if_lt (M := mX11_sense) (dX11_sense_36) (by decide) kt kf
theorem dX11_sense_39 : decode cX11_sense 39 = .ok (.iload_n 3, 1) := by decide +kernel
theorem sX11_sense_39 {l0 l1 l2 l4 : Option Value} {x : Int32} (k : X w mX11_sense d Q 40 [l0, l1, l2, some (.int x), l4] (.int x :: st) P) : X w mX11_sense d Q 39 [l0, l1, l2, some (.int x), l4] st P := X_iload_n (M := mX11_sense) (dX11_sense_39) rfl rfl k
theorem dX11_sense_40 : decode cX11_sense 40 = .ok (.aload_n 0, 1) := by decide +kernel
theorem sX11_sense_40 {l1 l2 l3 l4 : Option Value} {x : Nat} (k : X w mX11_sense d Q 41 [some (.ref x), l1, l2, l3, l4] (.ref x :: st) P) : X w mX11_sense d Q 40 [some (.ref x), l1, l2, l3, l4] st P := X_aload_n (M := mX11_sense) (dX11_sense_40) rfl rfl k
theorem dX11_sense_41 : decode cX11_sense 41 = .ok (.getfield 50, 3) := by decide +kernel
theorem sX11_sense_41 {a : Nat} {fs : List Value} {v : Nat} (hP : P.1 a = some (xO 9 fs)) (hv : fs[16]? = some (.ref v)) (k : X w mX11_sense d Q 44 ls (.ref v :: st) P) : X w mX11_sense d Q 41 ls (.ref a :: st) P := X_get (M := mX11_sense) (j := 16) (T := TX11) (dX11_sense_41) rfl (by decide) x_in11 xw_417 hP hv k
theorem dX11_sense_44 : decode cX11_sense 44 = .ok (.iload 4, 2) := by decide +kernel
theorem sX11_sense_44 {l0 l1 l2 l3 : Option Value} {x : Int32} (k : X w mX11_sense d Q 46 [l0, l1, l2, l3, some (.int x)] (.int x :: st) P) : X w mX11_sense d Q 44 [l0, l1, l2, l3, some (.int x)] st P := X_iload (M := mX11_sense) (dX11_sense_44) rfl k
theorem dX11_sense_46 : decode cX11_sense 46 = .ok (.iaload, 1) := by decide +kernel
theorem sX11_sense_46 {a n : Nat} {f : Nat → Int32} {i : Int32} (hP : P.1 a = some (xA 0 n f)) (hi : vp_in i n) (k : X w mX11_sense d Q 47 ls (.int (f i.toNatClampNeg) :: st) P) : X w mX11_sense d Q 46 ls (.int i :: .ref a :: st) P := X_iald (M := mX11_sense) (dX11_sense_46) hP hi k
theorem dX11_sense_47 : decode cX11_sense 47 = .ok (.if_icmp .lt 7, 3) := by decide +kernel
theorem sX11_sense_47 {x y : Int32} (kt : x < y → X w mX11_sense d Q 54 ls st P) (kf : ¬ x < y → X w mX11_sense d Q 50 ls st P) : X w mX11_sense d Q 47 ls (.int y :: .int x :: st) P := X_icmp_lt (M := mX11_sense) (dX11_sense_47) (by decide) kt kf
theorem dX11_sense_50 : decode cX11_sense 50 = .ok (.iconst 1, 1) := by decide +kernel
theorem sX11_sense_50 (k : X w mX11_sense d Q 51 ls (.int (1 : Int32) :: st) P) : X w mX11_sense d Q 50 ls st P := X_iconst (M := mX11_sense) (dX11_sense_50) (by decide) k
theorem dX11_sense_51 : decode cX11_sense 51 = .ok (.goto 4, 3) := by decide +kernel
theorem sX11_sense_51 (k : X w mX11_sense d Q 55 ls st P) : X w mX11_sense d Q 51 ls st P := X_goto (M := mX11_sense) (dX11_sense_51) (by decide) k
theorem dX11_sense_54 : decode cX11_sense 54 = .ok (.iconst 0, 1) := by decide +kernel
theorem sX11_sense_54 (k : X w mX11_sense d Q 55 ls (.int (0 : Int32) :: st) P) : X w mX11_sense d Q 54 ls st P := X_iconst (M := mX11_sense) (dX11_sense_54) (by decide) k
theorem dX11_sense_55 : decode cX11_sense 55 = .ok (.putfield 84, 3) := by decide +kernel
theorem sX11_sense_55 {a : Nat} {fs : List Value} {v : Int32} (hP : P.1 a = some (xO 9 fs)) (hl : 0 < fs.length) (k : X w mX11_sense d Q 58 ls st (xs P a (xO 9 (fs.set 0 (.int v))))) : X w mX11_sense d Q 55 ls (.int v :: .ref a :: st) P := X_put (M := mX11_sense) (j := 0) (T := TX11) (dX11_sense_55) rfl (by decide) x_c11 xw_428 rfl hP rfl rfl hl k
theorem dX11_sense_58 : decode cX11_sense 58 = .ok (.aload_n 0, 1) := by decide +kernel
theorem sX11_sense_58 {l1 l2 l3 l4 : Option Value} {x : Nat} (k : X w mX11_sense d Q 59 [some (.ref x), l1, l2, l3, l4] (.ref x :: st) P) : X w mX11_sense d Q 58 [some (.ref x), l1, l2, l3, l4] st P := X_aload_n (M := mX11_sense) (dX11_sense_58) rfl rfl k
theorem dX11_sense_59 : decode cX11_sense 59 = .ok (.getfield 84, 3) := by decide +kernel
theorem sX11_sense_59 {a : Nat} {fs : List Value} {v : Int32} (hP : P.1 a = some (xO 9 fs)) (hv : fs[0]? = some (.int v)) (k : X w mX11_sense d Q 62 ls (.int v :: st) P) : X w mX11_sense d Q 59 ls (.ref a :: st) P := X_get (M := mX11_sense) (j := 0) (T := TX11) (dX11_sense_59) rfl (by decide) x_in11 xw_428 hP hv k
theorem dX11_sense_62 : decode cX11_sense 62 = .ok (.ifCond .le 7, 3) := by decide +kernel
theorem sX11_sense_62 {x : Int32} (kt : x ≤ 0 → X w mX11_sense d Q 69 ls st P) (kf : ¬ x ≤ 0 → X w mX11_sense d Q 65 ls st P) : X w mX11_sense d Q 62 ls (.int x :: st) P := X_if_le (M := mX11_sense) (dX11_sense_62) (by decide) kt kf
theorem dX11_sense_65 : decode cX11_sense 65 = .ok (.iconst 0, 1) := by decide +kernel
theorem sX11_sense_65 (k : X w mX11_sense d Q 66 ls (.int (0 : Int32) :: st) P) : X w mX11_sense d Q 65 ls st P := X_iconst (M := mX11_sense) (dX11_sense_65) (by decide) k
theorem dX11_sense_66 : decode cX11_sense 66 = .ok (.goto 25, 3) := by decide +kernel
theorem sX11_sense_66 (k : X w mX11_sense d Q 91 ls st P) : X w mX11_sense d Q 66 ls st P := X_goto (M := mX11_sense) (dX11_sense_66) (by decide) k
theorem dX11_sense_69 : decode cX11_sense 69 = .ok (.aload_n 0, 1) := by decide +kernel
theorem sX11_sense_69 {l1 l2 l3 l4 : Option Value} {x : Nat} (k : X w mX11_sense d Q 70 [some (.ref x), l1, l2, l3, l4] (.ref x :: st) P) : X w mX11_sense d Q 69 [some (.ref x), l1, l2, l3, l4] st P := X_aload_n (M := mX11_sense) (dX11_sense_69) rfl rfl k
theorem dX11_sense_70 : decode cX11_sense 70 = .ok (.getfield 60, 3) := by decide +kernel
theorem sX11_sense_70 {a : Nat} {fs : List Value} {v : Nat} (hP : P.1 a = some (xO 9 fs)) (hv : fs[19]? = some (.ref v)) (k : X w mX11_sense d Q 73 ls (.ref v :: st) P) : X w mX11_sense d Q 70 ls (.ref a :: st) P := X_get (M := mX11_sense) (j := 19) (T := TX11) (dX11_sense_70) rfl (by decide) x_in11 xw_420 hP hv k
theorem dX11_sense_73 : decode cX11_sense 73 = .ok (.iconst 3, 1) := by decide +kernel
theorem sX11_sense_73 (k : X w mX11_sense d Q 74 ls (.int (3 : Int32) :: st) P) : X w mX11_sense d Q 73 ls st P := X_iconst (M := mX11_sense) (dX11_sense_73) (by decide) k
theorem dX11_sense_74 : decode cX11_sense 74 = .ok (.iload 4, 2) := by decide +kernel
theorem sX11_sense_74 {l0 l1 l2 l3 : Option Value} {x : Int32} (k : X w mX11_sense d Q 76 [l0, l1, l2, l3, some (.int x)] (.int x :: st) P) : X w mX11_sense d Q 74 [l0, l1, l2, l3, some (.int x)] st P := X_iload (M := mX11_sense) (dX11_sense_74) rfl k
theorem dX11_sense_76 : decode cX11_sense 76 = .ok (.imul, 1) := by decide +kernel
theorem sX11_sense_76 {x y : Int32} (k : X w mX11_sense d Q 77 ls (.int (x * y) :: st) P) : X w mX11_sense d Q 76 ls (.int y :: .int x :: st) P := X_imul (M := mX11_sense) (dX11_sense_76) k
theorem dX11_sense_77 : decode cX11_sense 77 = .ok (.iload_n 3, 1) := by decide +kernel
theorem sX11_sense_77 {l0 l1 l2 l4 : Option Value} {x : Int32} (k : X w mX11_sense d Q 78 [l0, l1, l2, some (.int x), l4] (.int x :: st) P) : X w mX11_sense d Q 77 [l0, l1, l2, some (.int x), l4] st P := X_iload_n (M := mX11_sense) (dX11_sense_77) rfl rfl k
theorem dX11_sense_78 : decode cX11_sense 78 = .ok (.iadd, 1) := by decide +kernel
theorem sX11_sense_78 {x y : Int32} (k : X w mX11_sense d Q 79 ls (.int (x + y) :: st) P) : X w mX11_sense d Q 78 ls (.int y :: .int x :: st) P := X_iadd (M := mX11_sense) (dX11_sense_78) k
theorem dX11_sense_79 : decode cX11_sense 79 = .ok (.laload, 1) := by decide +kernel
theorem sX11_sense_79 {a n : Nat} {f : Nat → Int64} {i : Int32} (hP : P.1 a = some (xJ n f)) (hi : vp_in i n) (k : X w mX11_sense d Q 80 ls (.long (f i.toNatClampNeg) :: st) P) : X w mX11_sense d Q 79 ls (.int i :: .ref a :: st) P := X_lald (M := mX11_sense) (dX11_sense_79) hP hi k
theorem dX11_sense_80 : decode cX11_sense 80 = .ok (.iload_n 2, 1) := by decide +kernel
theorem sX11_sense_80 {l0 l1 l3 l4 : Option Value} {x : Int32} (k : X w mX11_sense d Q 81 [l0, l1, some (.int x), l3, l4] (.int x :: st) P) : X w mX11_sense d Q 80 [l0, l1, some (.int x), l3, l4] st P := X_iload_n (M := mX11_sense) (dX11_sense_80) rfl rfl k
theorem dX11_sense_81 : decode cX11_sense 81 = .ok (.aload_n 0, 1) := by decide +kernel
theorem sX11_sense_81 {l1 l2 l3 l4 : Option Value} {x : Nat} (k : X w mX11_sense d Q 82 [some (.ref x), l1, l2, l3, l4] (.ref x :: st) P) : X w mX11_sense d Q 81 [some (.ref x), l1, l2, l3, l4] st P := X_aload_n (M := mX11_sense) (dX11_sense_81) rfl rfl k
theorem dX11_sense_82 : decode cX11_sense 82 = .ok (.getfield 47, 3) := by decide +kernel
theorem sX11_sense_82 {a : Nat} {fs : List Value} {v : Nat} (hP : P.1 a = some (xO 9 fs)) (hv : fs[15]? = some (.ref v)) (k : X w mX11_sense d Q 85 ls (.ref v :: st) P) : X w mX11_sense d Q 82 ls (.ref a :: st) P := X_get (M := mX11_sense) (j := 15) (T := TX11) (dX11_sense_82) rfl (by decide) x_in11 xw_416 hP hv k
theorem dX11_sense_85 : decode cX11_sense 85 = .ok (.iload 4, 2) := by decide +kernel
theorem sX11_sense_85 {l0 l1 l2 l3 : Option Value} {x : Int32} (k : X w mX11_sense d Q 87 [l0, l1, l2, l3, some (.int x)] (.int x :: st) P) : X w mX11_sense d Q 85 [l0, l1, l2, l3, some (.int x)] st P := X_iload (M := mX11_sense) (dX11_sense_85) rfl k
theorem dX11_sense_87 : decode cX11_sense 87 = .ok (.iaload, 1) := by decide +kernel
theorem sX11_sense_87 {a n : Nat} {f : Nat → Int32} {i : Int32} (hP : P.1 a = some (xA 0 n f)) (hi : vp_in i n) (k : X w mX11_sense d Q 88 ls (.int (f i.toNatClampNeg) :: st) P) : X w mX11_sense d Q 87 ls (.int i :: .ref a :: st) P := X_iald (M := mX11_sense) (dX11_sense_87) hP hi k
theorem dX11_sense_88 : decode cX11_sense 88 = .ok (.invokestatic 235, 3) := by decide +kernel
theorem sX11_sense_88_g {a0 : Int64} {a1 : Int32} {a2 : Int32} {Qc : Outcome → xH → Prop} (hst : (st.map fun v => v.category).sum ≤ 8) (hC : xC w d mX11_senseOf [.long a0, .int a1, .int a2] P Qc) (kr : ∀ v P1, Qc (.returned v) P1 → X w mX11_sense (d + 1) Q 91 ls (v.toList ++ st) P1) (kt : ∀ q P1, Qc (.threw q) P1 → Xt w mX11_sense (d + 1) Q 88 ls st P1 q) : X w mX11_sense (d + 1) Q 88 ls (.int a2 :: .int a1 :: .long a0 :: st) P := X_callS (M := mX11_sense) (MC := mX11_senseOf) (As := [.long a0, .int a1, .int a2]) (dX11_sense_88) calX11_senseOf xw_528 xw_529 rfl hC hst kr kt
theorem sX11_sense_88 {a0 : Int64} {a1 : Int32} {a2 : Int32} {r : Int32} {P1 : xH} (hst : (st.map fun v => v.category).sum ≤ 8) (hC : xC w d mX11_senseOf [.long a0, .int a1, .int a2] P (xRet (some (.int r)) P1)) (k : X w mX11_sense (d + 1) Q 91 ls (.int r :: st) P1) : X w mX11_sense (d + 1) Q 88 ls (.int a2 :: .int a1 :: .long a0 :: st) P := X_callS (M := mX11_sense) (MC := mX11_senseOf) (As := [.long a0, .int a1, .int a2]) (dX11_sense_88) calX11_senseOf xw_528 xw_529 rfl hC hst (fun v P2 h => by obtain ⟨h1, rfl⟩ := h; cases h1; exact k) (fun q P2 h => by cases h.1)
theorem sX11_sense_88_r {a0 : Int64} {a1 : Int32} {a2 : Int32} {r : Int32} {Rp : xH → Prop} (hst : (st.map fun v => v.category).sum ≤ 8) (hC : xC w d mX11_senseOf [.long a0, .int a1, .int a2] P (xRl (some (.int r)) Rp)) (k : ∀ P1, Rp P1 → X w mX11_sense (d + 1) Q 91 ls (.int r :: st) P1) : X w mX11_sense (d + 1) Q 88 ls (.int a2 :: .int a1 :: .long a0 :: st) P := X_callS (M := mX11_sense) (MC := mX11_senseOf) (As := [.long a0, .int a1, .int a2]) (dX11_sense_88) calX11_senseOf xw_528 xw_529 rfl hC hst (fun v P2 h => by obtain ⟨h1, hR⟩ := h; cases h1; exact k P2 hR) (fun q P2 h => by cases h.1)
theorem sX11_sense_88_t {a0 : Int64} {a1 : Int32} {a2 : Int32} {q : Nat} {P1 : xH} (hst : (st.map fun v => v.category).sum ≤ 8) (hC : xC w d mX11_senseOf [.long a0, .int a1, .int a2] P (xThr q P1)) (hq : Q (.threw q) P1) : X w mX11_sense (d + 1) Q 88 ls (.int a2 :: .int a1 :: .long a0 :: st) P := X_callS (M := mX11_sense) (MC := mX11_senseOf) (As := [.long a0, .int a1, .int a2]) (dX11_sense_88) calX11_senseOf xw_528 xw_529 rfl hC hst (fun v P2 h => by cases h.1) (fun q2 P2 h => by obtain ⟨h1, rfl⟩ := h; cases h1; exact Xt_out rfl hq)
theorem dX11_sense_91 : decode cX11_sense 91 = .ok (.ireturn, 1) := by decide +kernel
theorem sX11_sense_91 {v : Int32} (hq : Q (.returned (some (.int v))) P) : X w mX11_sense d Q 91 ls [.int v] P := X_iret (M := mX11_sense) (dX11_sense_91) rfl hq
theorem dX11_isArc_0 : decode cX11_isArc 0 = .ok (.aload_n 0, 1) := by decide +kernel
theorem sX11_isArc_0 {l1 l2 : Option Value} {x : Nat} (k : X w mX11_isArc d Q 1 [some (.ref x), l1, l2] (.ref x :: st) P) : X w mX11_isArc d Q 0 [some (.ref x), l1, l2] st P := X_aload_n (M := mX11_isArc) (dX11_isArc_0) rfl rfl k
theorem dX11_isArc_1 : decode cX11_isArc 1 = .ok (.iload_n 1, 1) := by decide +kernel
theorem sX11_isArc_1 {l0 l2 : Option Value} {x : Int32} (k : X w mX11_isArc d Q 2 [l0, some (.int x), l2] (.int x :: st) P) : X w mX11_isArc d Q 1 [l0, some (.int x), l2] st P := X_iload_n (M := mX11_isArc) (dX11_isArc_1) rfl rfl k
theorem dX11_isArc_2 : decode cX11_isArc 2 = .ok (.invokevirtual 238, 3) := by decide +kernel
theorem sX11_isArc_2_g {b : Nat} {fs : List Value} {a0 : Int32} {Qc : Outcome → xH → Prop} (hst : (st.map fun v => v.category).sum ≤ 8) (hP : P.1 b = some (xO 9 fs)) (hC : xC w d mX11_isCell [.ref b, .int a0] P Qc) (kr : ∀ v P1, Qc (.returned v) P1 → X w mX11_isArc (d + 1) Q 5 ls (v.toList ++ st) P1) (kt : ∀ q P1, Qc (.threw q) P1 → Xt w mX11_isArc (d + 1) Q 2 ls st P1 q) : X w mX11_isArc (d + 1) Q 2 ls (.int a0 :: .ref b :: st) P := X_callV (M := mX11_isArc) (MC := mX11_isCell) (As := [.int a0]) (T := TX11) (dX11_isArc_2) calX11_isCell xw_530 xw_531 xw_532 rfl rfl hP hC hst kr kt
theorem sX11_isArc_2 {b : Nat} {fs : List Value} {a0 : Int32} {r : Int32} {P1 : xH} (hst : (st.map fun v => v.category).sum ≤ 8) (hP : P.1 b = some (xO 9 fs)) (hC : xC w d mX11_isCell [.ref b, .int a0] P (xRet (some (.int r)) P1)) (k : X w mX11_isArc (d + 1) Q 5 ls (.int r :: st) P1) : X w mX11_isArc (d + 1) Q 2 ls (.int a0 :: .ref b :: st) P := X_callV (M := mX11_isArc) (MC := mX11_isCell) (As := [.int a0]) (T := TX11) (dX11_isArc_2) calX11_isCell xw_530 xw_531 xw_532 rfl rfl hP hC hst (fun v P2 h => by obtain ⟨h1, rfl⟩ := h; cases h1; exact k) (fun q P2 h => by cases h.1)
theorem sX11_isArc_2_r {b : Nat} {fs : List Value} {a0 : Int32} {r : Int32} {Rp : xH → Prop} (hst : (st.map fun v => v.category).sum ≤ 8) (hP : P.1 b = some (xO 9 fs)) (hC : xC w d mX11_isCell [.ref b, .int a0] P (xRl (some (.int r)) Rp)) (k : ∀ P1, Rp P1 → X w mX11_isArc (d + 1) Q 5 ls (.int r :: st) P1) : X w mX11_isArc (d + 1) Q 2 ls (.int a0 :: .ref b :: st) P := X_callV (M := mX11_isArc) (MC := mX11_isCell) (As := [.int a0]) (T := TX11) (dX11_isArc_2) calX11_isCell xw_530 xw_531 xw_532 rfl rfl hP hC hst (fun v P2 h => by obtain ⟨h1, hR⟩ := h; cases h1; exact k P2 hR) (fun q P2 h => by cases h.1)
theorem sX11_isArc_2_t {b : Nat} {fs : List Value} {a0 : Int32} {q : Nat} {P1 : xH} (hst : (st.map fun v => v.category).sum ≤ 8) (hP : P.1 b = some (xO 9 fs)) (hC : xC w d mX11_isCell [.ref b, .int a0] P (xThr q P1)) (hq : Q (.threw q) P1) : X w mX11_isArc (d + 1) Q 2 ls (.int a0 :: .ref b :: st) P := X_callV (M := mX11_isArc) (MC := mX11_isCell) (As := [.int a0]) (T := TX11) (dX11_isArc_2) calX11_isCell xw_530 xw_531 xw_532 rfl rfl hP hC hst (fun v P2 h => by cases h.1) (fun q2 P2 h => by obtain ⟨h1, rfl⟩ := h; cases h1; exact Xt_out rfl hq)
theorem dX11_isArc_5 : decode cX11_isArc 5 = .ok (.ifCond .eq 29, 3) := by decide +kernel
theorem sX11_isArc_5 {x : Int32} (kt : x = 0 → X w mX11_isArc d Q 34 ls st P) (kf : ¬ x = 0 → X w mX11_isArc d Q 8 ls st P) : X w mX11_isArc d Q 5 ls (.int x :: st) P := X_if_eq (M := mX11_isArc) (dX11_isArc_5) (by decide) kt kf
theorem dX11_isArc_8 : decode cX11_isArc 8 = .ok (.iload_n 2, 1) := by decide +kernel
theorem sX11_isArc_8 {l0 l1 : Option Value} {x : Int32} (k : X w mX11_isArc d Q 9 [l0, l1, some (.int x)] (.int x :: st) P) : X w mX11_isArc d Q 8 [l0, l1, some (.int x)] st P := X_iload_n (M := mX11_isArc) (dX11_isArc_8) rfl rfl k
theorem dX11_isArc_9 : decode cX11_isArc 9 = .ok (.ifCond .lt 25, 3) := by decide +kernel
theorem sX11_isArc_9 {x : Int32} (kt : x < 0 → X w mX11_isArc d Q 34 ls st P) (kf : ¬ x < 0 → X w mX11_isArc d Q 12 ls st P) : X w mX11_isArc d Q 9 ls (.int x :: st) P := X_if_lt (M := mX11_isArc) (dX11_isArc_9) (by decide) kt kf
theorem dX11_isArc_12 : decode cX11_isArc 12 = .ok (.iload_n 2, 1) := by decide +kernel
theorem sX11_isArc_12 {l0 l1 : Option Value} {x : Int32} (k : X w mX11_isArc d Q 13 [l0, l1, some (.int x)] (.int x :: st) P) : X w mX11_isArc d Q 12 [l0, l1, some (.int x)] st P := X_iload_n (M := mX11_isArc) (dX11_isArc_12) rfl rfl k
theorem dX11_isArc_13 : decode cX11_isArc 13 = .ok (.aload_n 0, 1) := by decide +kernel
theorem sX11_isArc_13 {l1 l2 : Option Value} {x : Nat} (k : X w mX11_isArc d Q 14 [some (.ref x), l1, l2] (.ref x :: st) P) : X w mX11_isArc d Q 13 [some (.ref x), l1, l2] st P := X_aload_n (M := mX11_isArc) (dX11_isArc_13) rfl rfl k
theorem dX11_isArc_14 : decode cX11_isArc 14 = .ok (.getfield 63, 3) := by decide +kernel
theorem sX11_isArc_14 {a : Nat} {fs : List Value} {v : Nat} (hP : P.1 a = some (xO 9 fs)) (hv : fs[20]? = some (.ref v)) (k : X w mX11_isArc d Q 17 ls (.ref v :: st) P) : X w mX11_isArc d Q 14 ls (.ref a :: st) P := X_get (M := mX11_isArc) (j := 20) (T := TX11) (dX11_isArc_14) rfl (by decide) x_in11 xw_421 hP hv k
theorem dX11_isArc_17 : decode cX11_isArc 17 = .ok (.bipush 12, 2) := by decide +kernel
theorem sX11_isArc_17 (k : X w mX11_isArc d Q 19 ls (.int (12 : Int32) :: st) P) : X w mX11_isArc d Q 17 ls st P := X_bipush (M := mX11_isArc) (dX11_isArc_17) (by decide) k
theorem dX11_isArc_19 : decode cX11_isArc 19 = .ok (.aload_n 0, 1) := by decide +kernel
theorem sX11_isArc_19 {l1 l2 : Option Value} {x : Nat} (k : X w mX11_isArc d Q 20 [some (.ref x), l1, l2] (.ref x :: st) P) : X w mX11_isArc d Q 19 [some (.ref x), l1, l2] st P := X_aload_n (M := mX11_isArc) (dX11_isArc_19) rfl rfl k
theorem dX11_isArc_20 : decode cX11_isArc 20 = .ok (.getfield 226, 3) := by decide +kernel
theorem sX11_isArc_20 {a : Nat} {fs : List Value} {v : Int32} (hP : P.1 a = some (xO 9 fs)) (hv : fs[3]? = some (.int v)) (k : X w mX11_isArc d Q 23 ls (.int v :: st) P) : X w mX11_isArc d Q 20 ls (.ref a :: st) P := X_get (M := mX11_isArc) (j := 3) (T := TX11) (dX11_isArc_20) rfl (by decide) x_in11 xw_521 hP hv k
theorem dX11_isArc_23 : decode cX11_isArc 23 = .ok (.imul, 1) := by decide +kernel
theorem sX11_isArc_23 {x y : Int32} (k : X w mX11_isArc d Q 24 ls (.int (x * y) :: st) P) : X w mX11_isArc d Q 23 ls (.int y :: .int x :: st) P := X_imul (M := mX11_isArc) (dX11_isArc_23) k
theorem dX11_isArc_24 : decode cX11_isArc 24 = .ok (.iload_n 1, 1) := by decide +kernel
theorem sX11_isArc_24 {l0 l2 : Option Value} {x : Int32} (k : X w mX11_isArc d Q 25 [l0, some (.int x), l2] (.int x :: st) P) : X w mX11_isArc d Q 24 [l0, some (.int x), l2] st P := X_iload_n (M := mX11_isArc) (dX11_isArc_24) rfl rfl k
theorem dX11_isArc_25 : decode cX11_isArc 25 = .ok (.iadd, 1) := by decide +kernel
theorem sX11_isArc_25 {x y : Int32} (k : X w mX11_isArc d Q 26 ls (.int (x + y) :: st) P) : X w mX11_isArc d Q 25 ls (.int y :: .int x :: st) P := X_iadd (M := mX11_isArc) (dX11_isArc_25) k
theorem dX11_isArc_26 : decode cX11_isArc 26 = .ok (.iaload, 1) := by decide +kernel
theorem sX11_isArc_26 {a n : Nat} {f : Nat → Int32} {i : Int32} (hP : P.1 a = some (xA 0 n f)) (hi : vp_in i n) (k : X w mX11_isArc d Q 27 ls (.int (f i.toNatClampNeg) :: st) P) : X w mX11_isArc d Q 26 ls (.int i :: .ref a :: st) P := X_iald (M := mX11_isArc) (dX11_isArc_26) hP hi k
theorem dX11_isArc_27 : decode cX11_isArc 27 = .ok (.if_icmp .ge 7, 3) := by decide +kernel
theorem sX11_isArc_27 {x y : Int32} (kt : y ≤ x → X w mX11_isArc d Q 34 ls st P) (kf : ¬ y ≤ x → X w mX11_isArc d Q 30 ls st P) : X w mX11_isArc d Q 27 ls (.int y :: .int x :: st) P := X_icmp_ge (M := mX11_isArc) (dX11_isArc_27) (by decide) kt kf
theorem dX11_isArc_30 : decode cX11_isArc 30 = .ok (.iconst 1, 1) := by decide +kernel
theorem sX11_isArc_30 (k : X w mX11_isArc d Q 31 ls (.int (1 : Int32) :: st) P) : X w mX11_isArc d Q 30 ls st P := X_iconst (M := mX11_isArc) (dX11_isArc_30) (by decide) k
theorem dX11_isArc_31 : decode cX11_isArc 31 = .ok (.goto 4, 3) := by decide +kernel
theorem sX11_isArc_31 (k : X w mX11_isArc d Q 35 ls st P) : X w mX11_isArc d Q 31 ls st P := X_goto (M := mX11_isArc) (dX11_isArc_31) (by decide) k
theorem dX11_isArc_34 : decode cX11_isArc 34 = .ok (.iconst 0, 1) := by decide +kernel
theorem sX11_isArc_34 (k : X w mX11_isArc d Q 35 ls (.int (0 : Int32) :: st) P) : X w mX11_isArc d Q 34 ls st P := X_iconst (M := mX11_isArc) (dX11_isArc_34) (by decide) k
theorem dX11_isArc_35 : decode cX11_isArc 35 = .ok (.ireturn, 1) := by decide +kernel
theorem sX11_isArc_35 {v : Int32} (hb : v = 0 ∨ v = 1) (hq : Q (.returned (some (.int v))) P) : X w mX11_isArc d Q 35 ls [.int v] P := X_zret (M := mX11_isArc) (ty := .boolean) (dX11_isArc_35) rfl (xz_n hb) hq
theorem dX11_arc_0 : decode cX11_arc 0 = .ok (.aload_n 0, 1) := by decide +kernel
theorem sX11_arc_0 {l1 l2 l3 l4 : Option Value} {x : Nat} (k : X w mX11_arc d Q 1 [some (.ref x), l1, l2, l3, l4] (.ref x :: st) P) : X w mX11_arc d Q 0 [some (.ref x), l1, l2, l3, l4] st P := X_aload_n (M := mX11_arc) (dX11_arc_0) rfl rfl k
theorem dX11_arc_1 : decode cX11_arc 1 = .ok (.aload_n 0, 1) := by decide +kernel
theorem sX11_arc_1 {l1 l2 l3 l4 : Option Value} {x : Nat} (k : X w mX11_arc d Q 2 [some (.ref x), l1, l2, l3, l4] (.ref x :: st) P) : X w mX11_arc d Q 1 [some (.ref x), l1, l2, l3, l4] st P := X_aload_n (M := mX11_arc) (dX11_arc_1) rfl rfl k
theorem dX11_arc_2 : decode cX11_arc 2 = .ok (.iload_n 1, 1) := by decide +kernel
theorem sX11_arc_2 {l0 l2 l3 l4 : Option Value} {x : Int32} (k : X w mX11_arc d Q 3 [l0, some (.int x), l2, l3, l4] (.int x :: st) P) : X w mX11_arc d Q 2 [l0, some (.int x), l2, l3, l4] st P := X_iload_n (M := mX11_arc) (dX11_arc_2) rfl rfl k
theorem dX11_arc_3 : decode cX11_arc 3 = .ok (.iload_n 2, 1) := by decide +kernel
theorem sX11_arc_3 {l0 l1 l3 l4 : Option Value} {x : Int32} (k : X w mX11_arc d Q 4 [l0, l1, some (.int x), l3, l4] (.int x :: st) P) : X w mX11_arc d Q 3 [l0, l1, some (.int x), l3, l4] st P := X_iload_n (M := mX11_arc) (dX11_arc_3) rfl rfl k
theorem dX11_arc_4 : decode cX11_arc 4 = .ok (.invokevirtual 245, 3) := by decide +kernel
theorem sX11_arc_4_g {b : Nat} {fs : List Value} {a0 : Int32} {a1 : Int32} {Qc : Outcome → xH → Prop} (hst : (st.map fun v => v.category).sum ≤ 8) (hP : P.1 b = some (xO 9 fs)) (hC : xC w d mX11_isArc [.ref b, .int a0, .int a1] P Qc) (kr : ∀ v P1, Qc (.returned v) P1 → X w mX11_arc (d + 1) Q 7 ls (v.toList ++ st) P1) (kt : ∀ q P1, Qc (.threw q) P1 → Xt w mX11_arc (d + 1) Q 4 ls st P1 q) : X w mX11_arc (d + 1) Q 4 ls (.int a1 :: .int a0 :: .ref b :: st) P := X_callV (M := mX11_arc) (MC := mX11_isArc) (As := [.int a0, .int a1]) (T := TX11) (dX11_arc_4) calX11_isArc xw_536 xw_537 xw_538 rfl rfl hP hC hst kr kt
theorem sX11_arc_4 {b : Nat} {fs : List Value} {a0 : Int32} {a1 : Int32} {r : Int32} {P1 : xH} (hst : (st.map fun v => v.category).sum ≤ 8) (hP : P.1 b = some (xO 9 fs)) (hC : xC w d mX11_isArc [.ref b, .int a0, .int a1] P (xRet (some (.int r)) P1)) (k : X w mX11_arc (d + 1) Q 7 ls (.int r :: st) P1) : X w mX11_arc (d + 1) Q 4 ls (.int a1 :: .int a0 :: .ref b :: st) P := X_callV (M := mX11_arc) (MC := mX11_isArc) (As := [.int a0, .int a1]) (T := TX11) (dX11_arc_4) calX11_isArc xw_536 xw_537 xw_538 rfl rfl hP hC hst (fun v P2 h => by obtain ⟨h1, rfl⟩ := h; cases h1; exact k) (fun q P2 h => by cases h.1)
theorem sX11_arc_4_r {b : Nat} {fs : List Value} {a0 : Int32} {a1 : Int32} {r : Int32} {Rp : xH → Prop} (hst : (st.map fun v => v.category).sum ≤ 8) (hP : P.1 b = some (xO 9 fs)) (hC : xC w d mX11_isArc [.ref b, .int a0, .int a1] P (xRl (some (.int r)) Rp)) (k : ∀ P1, Rp P1 → X w mX11_arc (d + 1) Q 7 ls (.int r :: st) P1) : X w mX11_arc (d + 1) Q 4 ls (.int a1 :: .int a0 :: .ref b :: st) P := X_callV (M := mX11_arc) (MC := mX11_isArc) (As := [.int a0, .int a1]) (T := TX11) (dX11_arc_4) calX11_isArc xw_536 xw_537 xw_538 rfl rfl hP hC hst (fun v P2 h => by obtain ⟨h1, hR⟩ := h; cases h1; exact k P2 hR) (fun q P2 h => by cases h.1)
theorem sX11_arc_4_t {b : Nat} {fs : List Value} {a0 : Int32} {a1 : Int32} {q : Nat} {P1 : xH} (hst : (st.map fun v => v.category).sum ≤ 8) (hP : P.1 b = some (xO 9 fs)) (hC : xC w d mX11_isArc [.ref b, .int a0, .int a1] P (xThr q P1)) (hq : Q (.threw q) P1) : X w mX11_arc (d + 1) Q 4 ls (.int a1 :: .int a0 :: .ref b :: st) P := X_callV (M := mX11_arc) (MC := mX11_isArc) (As := [.int a0, .int a1]) (T := TX11) (dX11_arc_4) calX11_isArc xw_536 xw_537 xw_538 rfl rfl hP hC hst (fun v P2 h => by cases h.1) (fun q2 P2 h => by obtain ⟨h1, rfl⟩ := h; cases h1; exact Xt_out rfl hq)
theorem dX11_arc_7 : decode cX11_arc 7 = .ok (.ifCond .eq 12, 3) := by decide +kernel
theorem sX11_arc_7 {x : Int32} (kt : x = 0 → X w mX11_arc d Q 19 ls st P) (kf : ¬ x = 0 → X w mX11_arc d Q 10 ls st P) : X w mX11_arc d Q 7 ls (.int x :: st) P := X_if_eq (M := mX11_arc) (dX11_arc_7) (by decide) kt kf
theorem dX11_arc_10 : decode cX11_arc 10 = .ok (.iload_n 3, 1) := by decide +kernel
theorem sX11_arc_10 {l0 l1 l2 l4 : Option Value} {x : Int32} (k : X w mX11_arc d Q 11 [l0, l1, l2, some (.int x), l4] (.int x :: st) P) : X w mX11_arc d Q 10 [l0, l1, l2, some (.int x), l4] st P := X_iload_n (M := mX11_arc) (dX11_arc_10) rfl rfl k
theorem dX11_arc_11 : decode cX11_arc 11 = .ok (.ifCond .lt 8, 3) := by decide +kernel
theorem sX11_arc_11 {x : Int32} (kt : x < 0 → X w mX11_arc d Q 19 ls st P) (kf : ¬ x < 0 → X w mX11_arc d Q 14 ls st P) : X w mX11_arc d Q 11 ls (.int x :: st) P := X_if_lt (M := mX11_arc) (dX11_arc_11) (by decide) kt kf
theorem dX11_arc_14 : decode cX11_arc 14 = .ok (.iload_n 3, 1) := by decide +kernel
theorem sX11_arc_14 {l0 l1 l2 l4 : Option Value} {x : Int32} (k : X w mX11_arc d Q 15 [l0, l1, l2, some (.int x), l4] (.int x :: st) P) : X w mX11_arc d Q 14 [l0, l1, l2, some (.int x), l4] st P := X_iload_n (M := mX11_arc) (dX11_arc_14) rfl rfl k
theorem dX11_arc_15 : decode cX11_arc 15 = .ok (.iconst 5, 1) := by decide +kernel
theorem sX11_arc_15 (k : X w mX11_arc d Q 16 ls (.int (5 : Int32) :: st) P) : X w mX11_arc d Q 15 ls st P := X_iconst (M := mX11_arc) (dX11_arc_15) (by decide) k
theorem dX11_arc_16 : decode cX11_arc 16 = .ok (.if_icmp .le 7, 3) := by decide +kernel
theorem sX11_arc_16 {x y : Int32} (kt : x ≤ y → X w mX11_arc d Q 23 ls st P) (kf : ¬ x ≤ y → X w mX11_arc d Q 19 ls st P) : X w mX11_arc d Q 16 ls (.int y :: .int x :: st) P := X_icmp_le (M := mX11_arc) (dX11_arc_16) (by decide) kt kf
theorem dX11_arc_19 : decode cX11_arc 19 = .ok (.iconst 1, 1) := by decide +kernel
theorem sX11_arc_19 (k : X w mX11_arc d Q 20 ls (.int (1 : Int32) :: st) P) : X w mX11_arc d Q 19 ls st P := X_iconst (M := mX11_arc) (dX11_arc_19) (by decide) k
theorem dX11_arc_20 : decode cX11_arc 20 = .ok (.goto 4, 3) := by decide +kernel
theorem sX11_arc_20 (k : X w mX11_arc d Q 24 ls st P) : X w mX11_arc d Q 20 ls st P := X_goto (M := mX11_arc) (dX11_arc_20) (by decide) k
theorem dX11_arc_23 : decode cX11_arc 23 = .ok (.iconst 0, 1) := by decide +kernel
theorem sX11_arc_23 (k : X w mX11_arc d Q 24 ls (.int (0 : Int32) :: st) P) : X w mX11_arc d Q 23 ls st P := X_iconst (M := mX11_arc) (dX11_arc_23) (by decide) k
theorem dX11_arc_24 : decode cX11_arc 24 = .ok (.putfield 84, 3) := by decide +kernel
theorem sX11_arc_24 {a : Nat} {fs : List Value} {v : Int32} (hP : P.1 a = some (xO 9 fs)) (hl : 0 < fs.length) (k : X w mX11_arc d Q 27 ls st (xs P a (xO 9 (fs.set 0 (.int v))))) : X w mX11_arc d Q 24 ls (.int v :: .ref a :: st) P := X_put (M := mX11_arc) (j := 0) (T := TX11) (dX11_arc_24) rfl (by decide) x_c11 xw_428 rfl hP rfl rfl hl k
theorem dX11_arc_27 : decode cX11_arc 27 = .ok (.aload_n 0, 1) := by decide +kernel
theorem sX11_arc_27 {l1 l2 l3 l4 : Option Value} {x : Nat} (k : X w mX11_arc d Q 28 [some (.ref x), l1, l2, l3, l4] (.ref x :: st) P) : X w mX11_arc d Q 27 [some (.ref x), l1, l2, l3, l4] st P := X_aload_n (M := mX11_arc) (dX11_arc_27) rfl rfl k
theorem dX11_arc_28 : decode cX11_arc 28 = .ok (.getfield 84, 3) := by decide +kernel
theorem sX11_arc_28 {a : Nat} {fs : List Value} {v : Int32} (hP : P.1 a = some (xO 9 fs)) (hv : fs[0]? = some (.int v)) (k : X w mX11_arc d Q 31 ls (.int v :: st) P) : X w mX11_arc d Q 28 ls (.ref a :: st) P := X_get (M := mX11_arc) (j := 0) (T := TX11) (dX11_arc_28) rfl (by decide) x_in11 xw_428 hP hv k
theorem dX11_arc_31 : decode cX11_arc 31 = .ok (.ifCond .le 5, 3) := by decide +kernel
theorem sX11_arc_31 {x : Int32} (kt : x ≤ 0 → X w mX11_arc d Q 36 ls st P) (kf : ¬ x ≤ 0 → X w mX11_arc d Q 34 ls st P) : X w mX11_arc d Q 31 ls (.int x :: st) P := X_if_le (M := mX11_arc) (dX11_arc_31) (by decide) kt kf
theorem dX11_arc_34 : decode cX11_arc 34 = .ok (.iconst 0, 1) := by decide +kernel
theorem sX11_arc_34 (k : X w mX11_arc d Q 35 ls (.int (0 : Int32) :: st) P) : X w mX11_arc d Q 34 ls st P := X_iconst (M := mX11_arc) (dX11_arc_34) (by decide) k
theorem dX11_arc_35 : decode cX11_arc 35 = .ok (.ireturn, 1) := by decide +kernel
theorem sX11_arc_35 {v : Int32} (hq : Q (.returned (some (.int v))) P) : X w mX11_arc d Q 35 ls [.int v] P := X_iret (M := mX11_arc) (dX11_arc_35) rfl hq
theorem dX11_arc_36 : decode cX11_arc 36 = .ok (.bipush 12, 2) := by decide +kernel
theorem sX11_arc_36 (k : X w mX11_arc d Q 38 ls (.int (12 : Int32) :: st) P) : X w mX11_arc d Q 36 ls st P := X_bipush (M := mX11_arc) (dX11_arc_36) (by decide) k
theorem dX11_arc_38 : decode cX11_arc 38 = .ok (.aload_n 0, 1) := by decide +kernel
theorem sX11_arc_38 {l1 l2 l3 l4 : Option Value} {x : Nat} (k : X w mX11_arc d Q 39 [some (.ref x), l1, l2, l3, l4] (.ref x :: st) P) : X w mX11_arc d Q 38 [some (.ref x), l1, l2, l3, l4] st P := X_aload_n (M := mX11_arc) (dX11_arc_38) rfl rfl k
theorem dX11_arc_39 : decode cX11_arc 39 = .ok (.getfield 226, 3) := by decide +kernel
theorem sX11_arc_39 {a : Nat} {fs : List Value} {v : Int32} (hP : P.1 a = some (xO 9 fs)) (hv : fs[3]? = some (.int v)) (k : X w mX11_arc d Q 42 ls (.int v :: st) P) : X w mX11_arc d Q 39 ls (.ref a :: st) P := X_get (M := mX11_arc) (j := 3) (T := TX11) (dX11_arc_39) rfl (by decide) x_in11 xw_521 hP hv k
theorem dX11_arc_42 : decode cX11_arc 42 = .ok (.imul, 1) := by decide +kernel
theorem sX11_arc_42 {x y : Int32} (k : X w mX11_arc d Q 43 ls (.int (x * y) :: st) P) : X w mX11_arc d Q 42 ls (.int y :: .int x :: st) P := X_imul (M := mX11_arc) (dX11_arc_42) k
theorem dX11_arc_43 : decode cX11_arc 43 = .ok (.iload_n 1, 1) := by decide +kernel
theorem sX11_arc_43 {l0 l2 l3 l4 : Option Value} {x : Int32} (k : X w mX11_arc d Q 44 [l0, some (.int x), l2, l3, l4] (.int x :: st) P) : X w mX11_arc d Q 43 [l0, some (.int x), l2, l3, l4] st P := X_iload_n (M := mX11_arc) (dX11_arc_43) rfl rfl k
theorem dX11_arc_44 : decode cX11_arc 44 = .ok (.iadd, 1) := by decide +kernel
theorem sX11_arc_44 {x y : Int32} (k : X w mX11_arc d Q 45 ls (.int (x + y) :: st) P) : X w mX11_arc d Q 44 ls (.int y :: .int x :: st) P := X_iadd (M := mX11_arc) (dX11_arc_44) k
theorem dX11_arc_45 : decode cX11_arc 45 = .ok (.istore 4, 2) := by decide +kernel
theorem sX11_arc_45 {l0 l1 l2 l3 l4 : Option Value} {x : Int32} (hn : xnl l3 = true) (k : X w mX11_arc d Q 47 [l0, l1, l2, l3, some (.int x)] st P) : X w mX11_arc d Q 45 [l0, l1, l2, l3, l4] (.int x :: st) P := X_istore (M := mX11_arc) (dX11_arc_45) (by decide) rfl (xnl_p (ls := [l0, l1, l2, l3, l4]) (j := 3) rfl hn) k
theorem dX11_arc_47 : decode cX11_arc 47 = .ok (.iload_n 3, 1) := by decide +kernel
theorem sX11_arc_47 {l0 l1 l2 l4 : Option Value} {x : Int32} (k : X w mX11_arc d Q 48 [l0, l1, l2, some (.int x), l4] (.int x :: st) P) : X w mX11_arc d Q 47 [l0, l1, l2, some (.int x), l4] st P := X_iload_n (M := mX11_arc) (dX11_arc_47) rfl rfl k
theorem dX11_arc_48 : decode cX11_arc 48 = .ok (.iconst 5, 1) := by decide +kernel
theorem sX11_arc_48 (k : X w mX11_arc d Q 49 ls (.int (5 : Int32) :: st) P) : X w mX11_arc d Q 48 ls st P := X_iconst (M := mX11_arc) (dX11_arc_48) (by decide) k
theorem dX11_arc_49 : decode cX11_arc 49 = .ok (.if_icmp .ge 22, 3) := by decide +kernel
theorem sX11_arc_49 {x y : Int32} (kt : y ≤ x → X w mX11_arc d Q 71 ls st P) (kf : ¬ y ≤ x → X w mX11_arc d Q 52 ls st P) : X w mX11_arc d Q 49 ls (.int y :: .int x :: st) P := X_icmp_ge (M := mX11_arc) (dX11_arc_49) (by decide) kt kf
theorem dX11_arc_52 : decode cX11_arc 52 = .ok (.aload_n 0, 1) := by decide +kernel
theorem sX11_arc_52 {l1 l2 l3 l4 : Option Value} {x : Nat} (k : X w mX11_arc d Q 53 [some (.ref x), l1, l2, l3, l4] (.ref x :: st) P) : X w mX11_arc d Q 52 [some (.ref x), l1, l2, l3, l4] st P := X_aload_n (M := mX11_arc) (dX11_arc_52) rfl rfl k
theorem dX11_arc_53 : decode cX11_arc 53 = .ok (.getfield 66, 3) := by decide +kernel
theorem sX11_arc_53 {a : Nat} {fs : List Value} {v : Nat} (hP : P.1 a = some (xO 9 fs)) (hv : fs[21]? = some (.ref v)) (k : X w mX11_arc d Q 56 ls (.ref v :: st) P) : X w mX11_arc d Q 53 ls (.ref a :: st) P := X_get (M := mX11_arc) (j := 21) (T := TX11) (dX11_arc_53) rfl (by decide) x_in11 xw_422 hP hv k
theorem dX11_arc_56 : decode cX11_arc 56 = .ok (.iconst 5, 1) := by decide +kernel
theorem sX11_arc_56 (k : X w mX11_arc d Q 57 ls (.int (5 : Int32) :: st) P) : X w mX11_arc d Q 56 ls st P := X_iconst (M := mX11_arc) (dX11_arc_56) (by decide) k
theorem dX11_arc_57 : decode cX11_arc 57 = .ok (.bipush 10, 2) := by decide +kernel
theorem sX11_arc_57 (k : X w mX11_arc d Q 59 ls (.int (10 : Int32) :: st) P) : X w mX11_arc d Q 57 ls st P := X_bipush (M := mX11_arc) (dX11_arc_57) (by decide) k
theorem dX11_arc_59 : decode cX11_arc 59 = .ok (.iload 4, 2) := by decide +kernel
theorem sX11_arc_59 {l0 l1 l2 l3 : Option Value} {x : Int32} (k : X w mX11_arc d Q 61 [l0, l1, l2, l3, some (.int x)] (.int x :: st) P) : X w mX11_arc d Q 59 [l0, l1, l2, l3, some (.int x)] st P := X_iload (M := mX11_arc) (dX11_arc_59) rfl k
theorem dX11_arc_61 : decode cX11_arc 61 = .ok (.imul, 1) := by decide +kernel
theorem sX11_arc_61 {x y : Int32} (k : X w mX11_arc d Q 62 ls (.int (x * y) :: st) P) : X w mX11_arc d Q 61 ls (.int y :: .int x :: st) P := X_imul (M := mX11_arc) (dX11_arc_61) k
theorem dX11_arc_62 : decode cX11_arc 62 = .ok (.iload_n 2, 1) := by decide +kernel
theorem sX11_arc_62 {l0 l1 l3 l4 : Option Value} {x : Int32} (k : X w mX11_arc d Q 63 [l0, l1, some (.int x), l3, l4] (.int x :: st) P) : X w mX11_arc d Q 62 [l0, l1, some (.int x), l3, l4] st P := X_iload_n (M := mX11_arc) (dX11_arc_62) rfl rfl k
theorem dX11_arc_63 : decode cX11_arc 63 = .ok (.iadd, 1) := by decide +kernel
theorem sX11_arc_63 {x y : Int32} (k : X w mX11_arc d Q 64 ls (.int (x + y) :: st) P) : X w mX11_arc d Q 63 ls (.int y :: .int x :: st) P := X_iadd (M := mX11_arc) (dX11_arc_63) k
theorem dX11_arc_64 : decode cX11_arc 64 = .ok (.imul, 1) := by decide +kernel
theorem sX11_arc_64 {x y : Int32} (k : X w mX11_arc d Q 65 ls (.int (x * y) :: st) P) : X w mX11_arc d Q 64 ls (.int y :: .int x :: st) P := X_imul (M := mX11_arc) (dX11_arc_64) k
theorem dX11_arc_65 : decode cX11_arc 65 = .ok (.iload_n 3, 1) := by decide +kernel
theorem sX11_arc_65 {l0 l1 l2 l4 : Option Value} {x : Int32} (k : X w mX11_arc d Q 66 [l0, l1, l2, some (.int x), l4] (.int x :: st) P) : X w mX11_arc d Q 65 [l0, l1, l2, some (.int x), l4] st P := X_iload_n (M := mX11_arc) (dX11_arc_65) rfl rfl k
theorem dX11_arc_66 : decode cX11_arc 66 = .ok (.iadd, 1) := by decide +kernel
theorem sX11_arc_66 {x y : Int32} (k : X w mX11_arc d Q 67 ls (.int (x + y) :: st) P) : X w mX11_arc d Q 66 ls (.int y :: .int x :: st) P := X_iadd (M := mX11_arc) (dX11_arc_66) k
theorem dX11_arc_67 : decode cX11_arc 67 = .ok (.iaload, 1) := by decide +kernel
theorem sX11_arc_67 {a n : Nat} {f : Nat → Int32} {i : Int32} (hP : P.1 a = some (xA 0 n f)) (hi : vp_in i n) (k : X w mX11_arc d Q 68 ls (.int (f i.toNatClampNeg) :: st) P) : X w mX11_arc d Q 67 ls (.int i :: .ref a :: st) P := X_iald (M := mX11_arc) (dX11_arc_67) hP hi k
theorem dX11_arc_68 : decode cX11_arc 68 = .ok (.goto 18, 3) := by decide +kernel
theorem sX11_arc_68 (k : X w mX11_arc d Q 86 ls st P) : X w mX11_arc d Q 68 ls st P := X_goto (M := mX11_arc) (dX11_arc_68) (by decide) k
theorem dX11_arc_71 : decode cX11_arc 71 = .ok (.aload_n 0, 1) := by decide +kernel
theorem sX11_arc_71 {l1 l2 l3 l4 : Option Value} {x : Nat} (k : X w mX11_arc d Q 72 [some (.ref x), l1, l2, l3, l4] (.ref x :: st) P) : X w mX11_arc d Q 71 [some (.ref x), l1, l2, l3, l4] st P := X_aload_n (M := mX11_arc) (dX11_arc_71) rfl rfl k
theorem dX11_arc_72 : decode cX11_arc 72 = .ok (.iload 4, 2) := by decide +kernel
theorem sX11_arc_72 {l0 l1 l2 l3 : Option Value} {x : Int32} (k : X w mX11_arc d Q 74 [l0, l1, l2, l3, some (.int x)] (.int x :: st) P) : X w mX11_arc d Q 72 [l0, l1, l2, l3, some (.int x)] st P := X_iload (M := mX11_arc) (dX11_arc_72) rfl k
theorem dX11_arc_74 : decode cX11_arc 74 = .ok (.iload_n 2, 1) := by decide +kernel
theorem sX11_arc_74 {l0 l1 l3 l4 : Option Value} {x : Int32} (k : X w mX11_arc d Q 75 [l0, l1, some (.int x), l3, l4] (.int x :: st) P) : X w mX11_arc d Q 74 [l0, l1, some (.int x), l3, l4] st P := X_iload_n (M := mX11_arc) (dX11_arc_74) rfl rfl k
theorem dX11_arc_75 : decode cX11_arc 75 = .ok (.invokevirtual 241, 3) := by decide +kernel
theorem sX11_arc_75_g {b : Nat} {fs : List Value} {a0 : Int32} {a1 : Int32} {Qc : Outcome → xH → Prop} (hst : (st.map fun v => v.category).sum ≤ 8) (hP : P.1 b = some (xO 9 fs)) (hC : xC w d mX11_agrees [.ref b, .int a0, .int a1] P Qc) (kr : ∀ v P1, Qc (.returned v) P1 → X w mX11_arc (d + 1) Q 78 ls (v.toList ++ st) P1) (kt : ∀ q P1, Qc (.threw q) P1 → Xt w mX11_arc (d + 1) Q 75 ls st P1 q) : X w mX11_arc (d + 1) Q 75 ls (.int a1 :: .int a0 :: .ref b :: st) P := X_callV (M := mX11_arc) (MC := mX11_agrees) (As := [.int a0, .int a1]) (T := TX11) (dX11_arc_75) calX11_agrees xw_533 xw_534 xw_535 rfl rfl hP hC hst kr kt
theorem sX11_arc_75 {b : Nat} {fs : List Value} {a0 : Int32} {a1 : Int32} {r : Int32} {P1 : xH} (hst : (st.map fun v => v.category).sum ≤ 8) (hP : P.1 b = some (xO 9 fs)) (hC : xC w d mX11_agrees [.ref b, .int a0, .int a1] P (xRet (some (.int r)) P1)) (k : X w mX11_arc (d + 1) Q 78 ls (.int r :: st) P1) : X w mX11_arc (d + 1) Q 75 ls (.int a1 :: .int a0 :: .ref b :: st) P := X_callV (M := mX11_arc) (MC := mX11_agrees) (As := [.int a0, .int a1]) (T := TX11) (dX11_arc_75) calX11_agrees xw_533 xw_534 xw_535 rfl rfl hP hC hst (fun v P2 h => by obtain ⟨h1, rfl⟩ := h; cases h1; exact k) (fun q P2 h => by cases h.1)
theorem sX11_arc_75_r {b : Nat} {fs : List Value} {a0 : Int32} {a1 : Int32} {r : Int32} {Rp : xH → Prop} (hst : (st.map fun v => v.category).sum ≤ 8) (hP : P.1 b = some (xO 9 fs)) (hC : xC w d mX11_agrees [.ref b, .int a0, .int a1] P (xRl (some (.int r)) Rp)) (k : ∀ P1, Rp P1 → X w mX11_arc (d + 1) Q 78 ls (.int r :: st) P1) : X w mX11_arc (d + 1) Q 75 ls (.int a1 :: .int a0 :: .ref b :: st) P := X_callV (M := mX11_arc) (MC := mX11_agrees) (As := [.int a0, .int a1]) (T := TX11) (dX11_arc_75) calX11_agrees xw_533 xw_534 xw_535 rfl rfl hP hC hst (fun v P2 h => by obtain ⟨h1, hR⟩ := h; cases h1; exact k P2 hR) (fun q P2 h => by cases h.1)
theorem sX11_arc_75_t {b : Nat} {fs : List Value} {a0 : Int32} {a1 : Int32} {q : Nat} {P1 : xH} (hst : (st.map fun v => v.category).sum ≤ 8) (hP : P.1 b = some (xO 9 fs)) (hC : xC w d mX11_agrees [.ref b, .int a0, .int a1] P (xThr q P1)) (hq : Q (.threw q) P1) : X w mX11_arc (d + 1) Q 75 ls (.int a1 :: .int a0 :: .ref b :: st) P := X_callV (M := mX11_arc) (MC := mX11_agrees) (As := [.int a0, .int a1]) (T := TX11) (dX11_arc_75) calX11_agrees xw_533 xw_534 xw_535 rfl rfl hP hC hst (fun v P2 h => by cases h.1) (fun q2 P2 h => by obtain ⟨h1, rfl⟩ := h; cases h1; exact Xt_out rfl hq)
theorem dX11_arc_78 : decode cX11_arc 78 = .ok (.ifCond .eq 7, 3) := by decide +kernel
theorem sX11_arc_78 {x : Int32} (kt : x = 0 → X w mX11_arc d Q 85 ls st P) (kf : ¬ x = 0 → X w mX11_arc d Q 81 ls st P) : X w mX11_arc d Q 78 ls (.int x :: st) P := X_if_eq (M := mX11_arc) (dX11_arc_78) (by decide) kt kf
theorem dX11_arc_81 : decode cX11_arc 81 = .ok (.iconst 1, 1) := by decide +kernel
theorem sX11_arc_81 (k : X w mX11_arc d Q 82 ls (.int (1 : Int32) :: st) P) : X w mX11_arc d Q 81 ls st P := X_iconst (M := mX11_arc) (dX11_arc_81) (by decide) k
theorem dX11_arc_82 : decode cX11_arc 82 = .ok (.goto 4, 3) := by decide +kernel
theorem sX11_arc_82 (k : X w mX11_arc d Q 86 ls st P) : X w mX11_arc d Q 82 ls st P := X_goto (M := mX11_arc) (dX11_arc_82) (by decide) k
theorem dX11_arc_85 : decode cX11_arc 85 = .ok (.iconst 0, 1) := by decide +kernel
theorem sX11_arc_85 (k : X w mX11_arc d Q 86 ls (.int (0 : Int32) :: st) P) : X w mX11_arc d Q 85 ls st P := X_iconst (M := mX11_arc) (dX11_arc_85) (by decide) k
theorem dX11_arc_86 : decode cX11_arc 86 = .ok (.ireturn, 1) := by decide +kernel
theorem sX11_arc_86 {v : Int32} (hq : Q (.returned (some (.int v))) P) : X w mX11_arc d Q 86 ls [.int v] P := X_iret (M := mX11_arc) (dX11_arc_86) rfl hq
theorem dX11_spanOf_0 : decode cX11_spanOf 0 = .ok (.iconst 0, 1) := by decide +kernel
theorem sX11_spanOf_0 (k : X w mX11_spanOf d Q 1 ls (.int (0 : Int32) :: st) P) : X w mX11_spanOf d Q 0 ls st P := X_iconst (M := mX11_spanOf) (dX11_spanOf_0) (by decide) k
theorem dX11_spanOf_1 : decode cX11_spanOf 1 = .ok (.istore 4, 2) := by decide +kernel
theorem sX11_spanOf_1 {l0 l1 l2 l3 l4 l5 : Option Value} {x : Int32} (hn : xnl l3 = true) (k : X w mX11_spanOf d Q 3 [l0, l1, l2, l3, some (.int x), l5] st P) : X w mX11_spanOf d Q 1 [l0, l1, l2, l3, l4, l5] (.int x :: st) P := X_istore (M := mX11_spanOf) (dX11_spanOf_1) (by decide) rfl (xnl_p (ls := [l0, l1, l2, l3, l4, l5]) (j := 3) rfl hn) k
theorem dX11_spanOf_3 : decode cX11_spanOf 3 = .ok (.iconst 0, 1) := by decide +kernel
theorem sX11_spanOf_3 (k : X w mX11_spanOf d Q 4 ls (.int (0 : Int32) :: st) P) : X w mX11_spanOf d Q 3 ls st P := X_iconst (M := mX11_spanOf) (dX11_spanOf_3) (by decide) k
theorem dX11_spanOf_4 : decode cX11_spanOf 4 = .ok (.istore 5, 2) := by decide +kernel
theorem sX11_spanOf_4 {l0 l1 l2 l3 l4 l5 : Option Value} {x : Int32} (hn : xnl l4 = true) (k : X w mX11_spanOf d Q 6 [l0, l1, l2, l3, l4, some (.int x)] st P) : X w mX11_spanOf d Q 4 [l0, l1, l2, l3, l4, l5] (.int x :: st) P := X_istore (M := mX11_spanOf) (dX11_spanOf_4) (by decide) rfl (xnl_p (ls := [l0, l1, l2, l3, l4, l5]) (j := 4) rfl hn) k
theorem dX11_spanOf_6 : decode cX11_spanOf 6 = .ok (.iload 5, 2) := by decide +kernel
theorem sX11_spanOf_6 {l0 l1 l2 l3 l4 : Option Value} {x : Int32} (k : X w mX11_spanOf d Q 8 [l0, l1, l2, l3, l4, some (.int x)] (.int x :: st) P) : X w mX11_spanOf d Q 6 [l0, l1, l2, l3, l4, some (.int x)] st P := X_iload (M := mX11_spanOf) (dX11_spanOf_6) rfl k
theorem dX11_spanOf_8 : decode cX11_spanOf 8 = .ok (.iload_n 2, 1) := by decide +kernel
theorem sX11_spanOf_8 {l0 l1 l3 l4 l5 : Option Value} {x : Int32} (k : X w mX11_spanOf d Q 9 [l0, l1, some (.int x), l3, l4, l5] (.int x :: st) P) : X w mX11_spanOf d Q 8 [l0, l1, some (.int x), l3, l4, l5] st P := X_iload_n (M := mX11_spanOf) (dX11_spanOf_8) rfl rfl k
theorem dX11_spanOf_9 : decode cX11_spanOf 9 = .ok (.iconst 1, 1) := by decide +kernel
theorem sX11_spanOf_9 (k : X w mX11_spanOf d Q 10 ls (.int (1 : Int32) :: st) P) : X w mX11_spanOf d Q 9 ls st P := X_iconst (M := mX11_spanOf) (dX11_spanOf_9) (by decide) k
theorem dX11_spanOf_10 : decode cX11_spanOf 10 = .ok (.isub, 1) := by decide +kernel
theorem sX11_spanOf_10 {x y : Int32} (k : X w mX11_spanOf d Q 11 ls (.int (x - y) :: st) P) : X w mX11_spanOf d Q 10 ls (.int y :: .int x :: st) P := X_isub (M := mX11_spanOf) (dX11_spanOf_10) k
theorem dX11_spanOf_11 : decode cX11_spanOf 11 = .ok (.if_icmp .ge 28, 3) := by decide +kernel
theorem sX11_spanOf_11 {x y : Int32} (kt : y ≤ x → X w mX11_spanOf d Q 39 ls st P) (kf : ¬ y ≤ x → X w mX11_spanOf d Q 14 ls st P) : X w mX11_spanOf d Q 11 ls (.int y :: .int x :: st) P := X_icmp_ge (M := mX11_spanOf) (dX11_spanOf_11) (by decide) kt kf
theorem dX11_spanOf_14 : decode cX11_spanOf 14 = .ok (.aload_n 0, 1) := by decide +kernel
theorem sX11_spanOf_14 {l1 l2 l3 l4 l5 : Option Value} {x : Nat} (k : X w mX11_spanOf d Q 15 [some (.ref x), l1, l2, l3, l4, l5] (.ref x :: st) P) : X w mX11_spanOf d Q 14 [some (.ref x), l1, l2, l3, l4, l5] st P := X_aload_n (M := mX11_spanOf) (dX11_spanOf_14) rfl rfl k
theorem dX11_spanOf_15 : decode cX11_spanOf 15 = .ok (.iload_n 1, 1) := by decide +kernel
theorem sX11_spanOf_15 {l0 l2 l3 l4 l5 : Option Value} {x : Int32} (k : X w mX11_spanOf d Q 16 [l0, some (.int x), l2, l3, l4, l5] (.int x :: st) P) : X w mX11_spanOf d Q 15 [l0, some (.int x), l2, l3, l4, l5] st P := X_iload_n (M := mX11_spanOf) (dX11_spanOf_15) rfl rfl k
theorem dX11_spanOf_16 : decode cX11_spanOf 16 = .ok (.iload 5, 2) := by decide +kernel
theorem sX11_spanOf_16 {l0 l1 l2 l3 l4 : Option Value} {x : Int32} (k : X w mX11_spanOf d Q 18 [l0, l1, l2, l3, l4, some (.int x)] (.int x :: st) P) : X w mX11_spanOf d Q 16 [l0, l1, l2, l3, l4, some (.int x)] st P := X_iload (M := mX11_spanOf) (dX11_spanOf_16) rfl k
theorem dX11_spanOf_18 : decode cX11_spanOf 18 = .ok (.iadd, 1) := by decide +kernel
theorem sX11_spanOf_18 {x y : Int32} (k : X w mX11_spanOf d Q 19 ls (.int (x + y) :: st) P) : X w mX11_spanOf d Q 18 ls (.int y :: .int x :: st) P := X_iadd (M := mX11_spanOf) (dX11_spanOf_18) k
theorem dX11_spanOf_19 : decode cX11_spanOf 19 = .ok (.iaload, 1) := by decide +kernel
theorem sX11_spanOf_19 {a n : Nat} {f : Nat → Int32} {i : Int32} (hP : P.1 a = some (xA 0 n f)) (hi : vp_in i n) (k : X w mX11_spanOf d Q 20 ls (.int (f i.toNatClampNeg) :: st) P) : X w mX11_spanOf d Q 19 ls (.int i :: .ref a :: st) P := X_iald (M := mX11_spanOf) (dX11_spanOf_19) hP hi k
theorem dX11_spanOf_20 : decode cX11_spanOf 20 = .ok (.iload_n 3, 1) := by decide +kernel
theorem sX11_spanOf_20 {l0 l1 l2 l4 l5 : Option Value} {x : Int32} (k : X w mX11_spanOf d Q 21 [l0, l1, l2, some (.int x), l4, l5] (.int x :: st) P) : X w mX11_spanOf d Q 20 [l0, l1, l2, some (.int x), l4, l5] st P := X_iload_n (M := mX11_spanOf) (dX11_spanOf_20) rfl rfl k
theorem dX11_spanOf_21 : decode cX11_spanOf 21 = .ok (.if_icmp .gt 8, 3) := by decide +kernel
theorem sX11_spanOf_21 {x y : Int32} (kt : y < x → X w mX11_spanOf d Q 29 ls st P) (kf : ¬ y < x → X w mX11_spanOf d Q 24 ls st P) : X w mX11_spanOf d Q 21 ls (.int y :: .int x :: st) P := X_icmp_gt (M := mX11_spanOf) (dX11_spanOf_21) (by decide) kt kf
theorem dX11_spanOf_24 : decode cX11_spanOf 24 = .ok (.iload 5, 2) := by decide +kernel
theorem sX11_spanOf_24 {l0 l1 l2 l3 l4 : Option Value} {x : Int32} (k : X w mX11_spanOf d Q 26 [l0, l1, l2, l3, l4, some (.int x)] (.int x :: st) P) : X w mX11_spanOf d Q 24 [l0, l1, l2, l3, l4, some (.int x)] st P := X_iload (M := mX11_spanOf) (dX11_spanOf_24) rfl k
theorem dX11_spanOf_26 : decode cX11_spanOf 26 = .ok (.goto 5, 3) := by decide +kernel
theorem sX11_spanOf_26 (k : X w mX11_spanOf d Q 31 ls st P) : X w mX11_spanOf d Q 26 ls st P := X_goto (M := mX11_spanOf) (dX11_spanOf_26) (by decide) k
theorem dX11_spanOf_29 : decode cX11_spanOf 29 = .ok (.iload 4, 2) := by decide +kernel
theorem sX11_spanOf_29 {l0 l1 l2 l3 l5 : Option Value} {x : Int32} (k : X w mX11_spanOf d Q 31 [l0, l1, l2, l3, some (.int x), l5] (.int x :: st) P) : X w mX11_spanOf d Q 29 [l0, l1, l2, l3, some (.int x), l5] st P := X_iload (M := mX11_spanOf) (dX11_spanOf_29) rfl k
theorem dX11_spanOf_31 : decode cX11_spanOf 31 = .ok (.istore 4, 2) := by decide +kernel
theorem sX11_spanOf_31 {l0 l1 l2 l3 l4 l5 : Option Value} {x : Int32} (hn : xnl l3 = true) (k : X w mX11_spanOf d Q 33 [l0, l1, l2, l3, some (.int x), l5] st P) : X w mX11_spanOf d Q 31 [l0, l1, l2, l3, l4, l5] (.int x :: st) P := X_istore (M := mX11_spanOf) (dX11_spanOf_31) (by decide) rfl (xnl_p (ls := [l0, l1, l2, l3, l4, l5]) (j := 3) rfl hn) k
theorem dX11_spanOf_33 : decode cX11_spanOf 33 = .ok (.iinc 5 1, 3) := by decide +kernel
theorem sX11_spanOf_33 {l0 l1 l2 l3 l4 : Option Value} {x : Int32} (hn : xnl l4 = true) (k : X w mX11_spanOf d Q 36 [l0, l1, l2, l3, l4, some (.int (x + (1 : Int32)))] st P) : X w mX11_spanOf d Q 33 [l0, l1, l2, l3, l4, some (.int x)] st P := X_iinc (M := mX11_spanOf) (dX11_spanOf_33) rfl (by rfl) (by decide) rfl (xnl_p (ls := [l0, l1, l2, l3, l4, some (.int x)]) (j := 4) rfl hn) k
theorem dX11_spanOf_36 : decode cX11_spanOf 36 = .ok (.goto (-30), 3) := by decide +kernel
theorem sX11_spanOf_36 (k : X w mX11_spanOf d Q 6 ls st P) : X w mX11_spanOf d Q 36 ls st P := X_goto (M := mX11_spanOf) (dX11_spanOf_36) (by decide) k
theorem dX11_spanOf_39 : decode cX11_spanOf 39 = .ok (.iload 4, 2) := by decide +kernel
theorem sX11_spanOf_39 {l0 l1 l2 l3 l5 : Option Value} {x : Int32} (k : X w mX11_spanOf d Q 41 [l0, l1, l2, l3, some (.int x), l5] (.int x :: st) P) : X w mX11_spanOf d Q 39 [l0, l1, l2, l3, some (.int x), l5] st P := X_iload (M := mX11_spanOf) (dX11_spanOf_39) rfl k
theorem dX11_spanOf_41 : decode cX11_spanOf 41 = .ok (.ireturn, 1) := by decide +kernel
theorem sX11_spanOf_41 {v : Int32} (hq : Q (.returned (some (.int v))) P) : X w mX11_spanOf d Q 41 ls [.int v] P := X_iret (M := mX11_spanOf) (dX11_spanOf_41) rfl hq
theorem dX11_brought_0 : decode cX11_brought 0 = .ok (.iload_n 3, 1) := by decide +kernel
theorem sX11_brought_0 {l0 l1 l2 : Option Value} {x : Int32} (k : X w mX11_brought d Q 1 [l0, l1, l2, some (.int x)] (.int x :: st) P) : X w mX11_brought d Q 0 [l0, l1, l2, some (.int x)] st P := X_iload_n (M := mX11_brought) (dX11_brought_0) rfl rfl k
theorem dX11_brought_1 : decode cX11_brought 1 = .ok (.aload_n 0, 1) := by decide +kernel
theorem sX11_brought_1 {l1 l2 l3 : Option Value} {x : Nat} (k : X w mX11_brought d Q 2 [some (.ref x), l1, l2, l3] (.ref x :: st) P) : X w mX11_brought d Q 1 [some (.ref x), l1, l2, l3] st P := X_aload_n (M := mX11_brought) (dX11_brought_1) rfl rfl k
theorem dX11_brought_2 : decode cX11_brought 2 = .ok (.iload_n 1, 1) := by decide +kernel
theorem sX11_brought_2 {l0 l2 l3 : Option Value} {x : Int32} (k : X w mX11_brought d Q 3 [l0, some (.int x), l2, l3] (.int x :: st) P) : X w mX11_brought d Q 2 [l0, some (.int x), l2, l3] st P := X_iload_n (M := mX11_brought) (dX11_brought_2) rfl rfl k
theorem dX11_brought_3 : decode cX11_brought 3 = .ok (.iaload, 1) := by decide +kernel
theorem sX11_brought_3 {a n : Nat} {f : Nat → Int32} {i : Int32} (hP : P.1 a = some (xA 0 n f)) (hi : vp_in i n) (k : X w mX11_brought d Q 4 ls (.int (f i.toNatClampNeg) :: st) P) : X w mX11_brought d Q 3 ls (.int i :: .ref a :: st) P := X_iald (M := mX11_brought) (dX11_brought_3) hP hi k
theorem dX11_brought_4 : decode cX11_brought 4 = .ok (.if_icmp .ge 9, 3) := by decide +kernel
theorem sX11_brought_4 {x y : Int32} (kt : y ≤ x → X w mX11_brought d Q 13 ls st P) (kf : ¬ y ≤ x → X w mX11_brought d Q 7 ls st P) : X w mX11_brought d Q 4 ls (.int y :: .int x :: st) P := X_icmp_ge (M := mX11_brought) (dX11_brought_4) (by decide) kt kf
theorem dX11_brought_7 : decode cX11_brought 7 = .ok (.aload_n 0, 1) := by decide +kernel
theorem sX11_brought_7 {l1 l2 l3 : Option Value} {x : Nat} (k : X w mX11_brought d Q 8 [some (.ref x), l1, l2, l3] (.ref x :: st) P) : X w mX11_brought d Q 7 [some (.ref x), l1, l2, l3] st P := X_aload_n (M := mX11_brought) (dX11_brought_7) rfl rfl k
theorem dX11_brought_8 : decode cX11_brought 8 = .ok (.iload_n 1, 1) := by decide +kernel
theorem sX11_brought_8 {l0 l2 l3 : Option Value} {x : Int32} (k : X w mX11_brought d Q 9 [l0, some (.int x), l2, l3] (.int x :: st) P) : X w mX11_brought d Q 8 [l0, some (.int x), l2, l3] st P := X_iload_n (M := mX11_brought) (dX11_brought_8) rfl rfl k
theorem dX11_brought_9 : decode cX11_brought 9 = .ok (.iaload, 1) := by decide +kernel
theorem sX11_brought_9 {a n : Nat} {f : Nat → Int32} {i : Int32} (hP : P.1 a = some (xA 0 n f)) (hi : vp_in i n) (k : X w mX11_brought d Q 10 ls (.int (f i.toNatClampNeg) :: st) P) : X w mX11_brought d Q 9 ls (.int i :: .ref a :: st) P := X_iald (M := mX11_brought) (dX11_brought_9) hP hi k
theorem dX11_brought_10 : decode cX11_brought 10 = .ok (.goto 25, 3) := by decide +kernel
theorem sX11_brought_10 (k : X w mX11_brought d Q 35 ls st P) : X w mX11_brought d Q 10 ls st P := X_goto (M := mX11_brought) (dX11_brought_10) (by decide) k
theorem dX11_brought_13 : decode cX11_brought 13 = .ok (.iload_n 3, 1) := by decide +kernel
theorem sX11_brought_13 {l0 l1 l2 : Option Value} {x : Int32} (k : X w mX11_brought d Q 14 [l0, l1, l2, some (.int x)] (.int x :: st) P) : X w mX11_brought d Q 13 [l0, l1, l2, some (.int x)] st P := X_iload_n (M := mX11_brought) (dX11_brought_13) rfl rfl k
theorem dX11_brought_14 : decode cX11_brought 14 = .ok (.aload_n 0, 1) := by decide +kernel
theorem sX11_brought_14 {l1 l2 l3 : Option Value} {x : Nat} (k : X w mX11_brought d Q 15 [some (.ref x), l1, l2, l3] (.ref x :: st) P) : X w mX11_brought d Q 14 [some (.ref x), l1, l2, l3] st P := X_aload_n (M := mX11_brought) (dX11_brought_14) rfl rfl k
theorem dX11_brought_15 : decode cX11_brought 15 = .ok (.iload_n 1, 1) := by decide +kernel
theorem sX11_brought_15 {l0 l2 l3 : Option Value} {x : Int32} (k : X w mX11_brought d Q 16 [l0, some (.int x), l2, l3] (.int x :: st) P) : X w mX11_brought d Q 15 [l0, some (.int x), l2, l3] st P := X_iload_n (M := mX11_brought) (dX11_brought_15) rfl rfl k
theorem dX11_brought_16 : decode cX11_brought 16 = .ok (.iload_n 2, 1) := by decide +kernel
theorem sX11_brought_16 {l0 l1 l3 : Option Value} {x : Int32} (k : X w mX11_brought d Q 17 [l0, l1, some (.int x), l3] (.int x :: st) P) : X w mX11_brought d Q 16 [l0, l1, some (.int x), l3] st P := X_iload_n (M := mX11_brought) (dX11_brought_16) rfl rfl k
theorem dX11_brought_17 : decode cX11_brought 17 = .ok (.iadd, 1) := by decide +kernel
theorem sX11_brought_17 {x y : Int32} (k : X w mX11_brought d Q 18 ls (.int (x + y) :: st) P) : X w mX11_brought d Q 17 ls (.int y :: .int x :: st) P := X_iadd (M := mX11_brought) (dX11_brought_17) k
theorem dX11_brought_18 : decode cX11_brought 18 = .ok (.iconst 1, 1) := by decide +kernel
theorem sX11_brought_18 (k : X w mX11_brought d Q 19 ls (.int (1 : Int32) :: st) P) : X w mX11_brought d Q 18 ls st P := X_iconst (M := mX11_brought) (dX11_brought_18) (by decide) k
theorem dX11_brought_19 : decode cX11_brought 19 = .ok (.isub, 1) := by decide +kernel
theorem sX11_brought_19 {x y : Int32} (k : X w mX11_brought d Q 20 ls (.int (x - y) :: st) P) : X w mX11_brought d Q 19 ls (.int y :: .int x :: st) P := X_isub (M := mX11_brought) (dX11_brought_19) k
theorem dX11_brought_20 : decode cX11_brought 20 = .ok (.iaload, 1) := by decide +kernel
theorem sX11_brought_20 {a n : Nat} {f : Nat → Int32} {i : Int32} (hP : P.1 a = some (xA 0 n f)) (hi : vp_in i n) (k : X w mX11_brought d Q 21 ls (.int (f i.toNatClampNeg) :: st) P) : X w mX11_brought d Q 20 ls (.int i :: .ref a :: st) P := X_iald (M := mX11_brought) (dX11_brought_20) hP hi k
theorem dX11_brought_21 : decode cX11_brought 21 = .ok (.if_icmp .le 13, 3) := by decide +kernel
theorem sX11_brought_21 {x y : Int32} (kt : x ≤ y → X w mX11_brought d Q 34 ls st P) (kf : ¬ x ≤ y → X w mX11_brought d Q 24 ls st P) : X w mX11_brought d Q 21 ls (.int y :: .int x :: st) P := X_icmp_le (M := mX11_brought) (dX11_brought_21) (by decide) kt kf
theorem dX11_brought_24 : decode cX11_brought 24 = .ok (.aload_n 0, 1) := by decide +kernel
theorem sX11_brought_24 {l1 l2 l3 : Option Value} {x : Nat} (k : X w mX11_brought d Q 25 [some (.ref x), l1, l2, l3] (.ref x :: st) P) : X w mX11_brought d Q 24 [some (.ref x), l1, l2, l3] st P := X_aload_n (M := mX11_brought) (dX11_brought_24) rfl rfl k
theorem dX11_brought_25 : decode cX11_brought 25 = .ok (.iload_n 1, 1) := by decide +kernel
theorem sX11_brought_25 {l0 l2 l3 : Option Value} {x : Int32} (k : X w mX11_brought d Q 26 [l0, some (.int x), l2, l3] (.int x :: st) P) : X w mX11_brought d Q 25 [l0, some (.int x), l2, l3] st P := X_iload_n (M := mX11_brought) (dX11_brought_25) rfl rfl k
theorem dX11_brought_26 : decode cX11_brought 26 = .ok (.iload_n 2, 1) := by decide +kernel
theorem sX11_brought_26 {l0 l1 l3 : Option Value} {x : Int32} (k : X w mX11_brought d Q 27 [l0, l1, some (.int x), l3] (.int x :: st) P) : X w mX11_brought d Q 26 [l0, l1, some (.int x), l3] st P := X_iload_n (M := mX11_brought) (dX11_brought_26) rfl rfl k
theorem dX11_brought_27 : decode cX11_brought 27 = .ok (.iadd, 1) := by decide +kernel
theorem sX11_brought_27 {x y : Int32} (k : X w mX11_brought d Q 28 ls (.int (x + y) :: st) P) : X w mX11_brought d Q 27 ls (.int y :: .int x :: st) P := X_iadd (M := mX11_brought) (dX11_brought_27) k
theorem dX11_brought_28 : decode cX11_brought 28 = .ok (.iconst 1, 1) := by decide +kernel
theorem sX11_brought_28 (k : X w mX11_brought d Q 29 ls (.int (1 : Int32) :: st) P) : X w mX11_brought d Q 28 ls st P := X_iconst (M := mX11_brought) (dX11_brought_28) (by decide) k
theorem dX11_brought_29 : decode cX11_brought 29 = .ok (.isub, 1) := by decide +kernel
theorem sX11_brought_29 {x y : Int32} (k : X w mX11_brought d Q 30 ls (.int (x - y) :: st) P) : X w mX11_brought d Q 29 ls (.int y :: .int x :: st) P := X_isub (M := mX11_brought) (dX11_brought_29) k
theorem dX11_brought_30 : decode cX11_brought 30 = .ok (.iaload, 1) := by decide +kernel
theorem sX11_brought_30 {a n : Nat} {f : Nat → Int32} {i : Int32} (hP : P.1 a = some (xA 0 n f)) (hi : vp_in i n) (k : X w mX11_brought d Q 31 ls (.int (f i.toNatClampNeg) :: st) P) : X w mX11_brought d Q 30 ls (.int i :: .ref a :: st) P := X_iald (M := mX11_brought) (dX11_brought_30) hP hi k
theorem dX11_brought_31 : decode cX11_brought 31 = .ok (.goto 4, 3) := by decide +kernel
theorem sX11_brought_31 (k : X w mX11_brought d Q 35 ls st P) : X w mX11_brought d Q 31 ls st P := X_goto (M := mX11_brought) (dX11_brought_31) (by decide) k
theorem dX11_brought_34 : decode cX11_brought 34 = .ok (.iload_n 3, 1) := by decide +kernel
theorem sX11_brought_34 {l0 l1 l2 : Option Value} {x : Int32} (k : X w mX11_brought d Q 35 [l0, l1, l2, some (.int x)] (.int x :: st) P) : X w mX11_brought d Q 34 [l0, l1, l2, some (.int x)] st P := X_iload_n (M := mX11_brought) (dX11_brought_34) rfl rfl k
theorem dX11_brought_35 : decode cX11_brought 35 = .ok (.ireturn, 1) := by decide +kernel
theorem sX11_brought_35 {v : Int32} (hq : Q (.returned (some (.int v))) P) : X w mX11_brought d Q 35 ls [.int v] P := X_iret (M := mX11_brought) (dX11_brought_35) rfl hq
theorem dX11_mixed_0 : decode cX11_mixed 0 = .ok (.lload_n 2, 1) := by decide +kernel
theorem sX11_mixed_0 {l0 l1 l3 l4 l5 l6 l7 l8 l9 l10 l11 l12 l13 l14 l15 : Option Value} {x : Int64} (k : X w mX11_mixed d Q 1 [l0, l1, some (.long x), l3, l4, l5, l6, l7, l8, l9, l10, l11, l12, l13, l14, l15] (.long x :: st) P) : X w mX11_mixed d Q 0 [l0, l1, some (.long x), l3, l4, l5, l6, l7, l8, l9, l10, l11, l12, l13, l14, l15] st P := X_lload_n (M := mX11_mixed) (dX11_mixed_0) rfl rfl k
theorem dX11_mixed_1 : decode cX11_mixed 1 = .ok (.lload_n 0, 1) := by decide +kernel
theorem sX11_mixed_1 {l1 l2 l3 l4 l5 l6 l7 l8 l9 l10 l11 l12 l13 l14 l15 : Option Value} {x : Int64} (k : X w mX11_mixed d Q 2 [some (.long x), l1, l2, l3, l4, l5, l6, l7, l8, l9, l10, l11, l12, l13, l14, l15] (.long x :: st) P) : X w mX11_mixed d Q 1 [some (.long x), l1, l2, l3, l4, l5, l6, l7, l8, l9, l10, l11, l12, l13, l14, l15] st P := X_lload_n (M := mX11_mixed) (dX11_mixed_1) rfl rfl k
theorem dX11_mixed_2 : decode cX11_mixed 2 = .ok (.lsub, 1) := by decide +kernel
theorem sX11_mixed_2 {x y : Int64} (k : X w mX11_mixed d Q 3 ls (.long (x - y) :: st) P) : X w mX11_mixed d Q 2 ls (.long y :: .long x :: st) P := X_lsub (M := mX11_mixed) (dX11_mixed_2) k
theorem dX11_mixed_3 : decode cX11_mixed 3 = .ok (.lload 8, 2) := by decide +kernel
theorem sX11_mixed_3 {l0 l1 l2 l3 l4 l5 l6 l7 l9 l10 l11 l12 l13 l14 l15 : Option Value} {x : Int64} (k : X w mX11_mixed d Q 5 [l0, l1, l2, l3, l4, l5, l6, l7, some (.long x), l9, l10, l11, l12, l13, l14, l15] (.long x :: st) P) : X w mX11_mixed d Q 3 [l0, l1, l2, l3, l4, l5, l6, l7, some (.long x), l9, l10, l11, l12, l13, l14, l15] st P := X_lload (M := mX11_mixed) (dX11_mixed_3) rfl k
theorem dX11_mixed_5 : decode cX11_mixed 5 = .ok (.lload 4, 2) := by decide +kernel
theorem sX11_mixed_5 {l0 l1 l2 l3 l5 l6 l7 l8 l9 l10 l11 l12 l13 l14 l15 : Option Value} {x : Int64} (k : X w mX11_mixed d Q 7 [l0, l1, l2, l3, some (.long x), l5, l6, l7, l8, l9, l10, l11, l12, l13, l14, l15] (.long x :: st) P) : X w mX11_mixed d Q 5 [l0, l1, l2, l3, some (.long x), l5, l6, l7, l8, l9, l10, l11, l12, l13, l14, l15] st P := X_lload (M := mX11_mixed) (dX11_mixed_5) rfl k
theorem dX11_mixed_7 : decode cX11_mixed 7 = .ok (.lsub, 1) := by decide +kernel
theorem sX11_mixed_7 {x y : Int64} (k : X w mX11_mixed d Q 8 ls (.long (x - y) :: st) P) : X w mX11_mixed d Q 7 ls (.long y :: .long x :: st) P := X_lsub (M := mX11_mixed) (dX11_mixed_7) k
theorem dX11_mixed_8 : decode cX11_mixed 8 = .ok (.lmul, 1) := by decide +kernel
theorem sX11_mixed_8 {x y : Int64} (k : X w mX11_mixed d Q 9 ls (.long (x * y) :: st) P) : X w mX11_mixed d Q 8 ls (.long y :: .long x :: st) P := X_lmul (M := mX11_mixed) (dX11_mixed_8) k
theorem dX11_mixed_9 : decode cX11_mixed 9 = .ok (.lstore 10, 2) := by decide +kernel
theorem sX11_mixed_9 {l0 l1 l2 l3 l4 l5 l6 l7 l8 l9 l10 l11 l12 l13 l14 l15 : Option Value} {x : Int64} (hn : xnl l9 = true) (k : X w mX11_mixed d Q 11 [l0, l1, l2, l3, l4, l5, l6, l7, l8, l9, some (.long x), none, l12, l13, l14, l15] st P) : X w mX11_mixed d Q 9 [l0, l1, l2, l3, l4, l5, l6, l7, l8, l9, l10, l11, l12, l13, l14, l15] (.long x :: st) P := X_lstore (M := mX11_mixed) (dX11_mixed_9) (by decide) rfl (xnl_p (ls := [l0, l1, l2, l3, l4, l5, l6, l7, l8, l9, l10, l11, l12, l13, l14, l15]) (j := 9) rfl hn) k
theorem dX11_mixed_11 : decode cX11_mixed 11 = .ok (.lload 6, 2) := by decide +kernel
theorem sX11_mixed_11 {l0 l1 l2 l3 l4 l5 l7 l8 l9 l10 l11 l12 l13 l14 l15 : Option Value} {x : Int64} (k : X w mX11_mixed d Q 13 [l0, l1, l2, l3, l4, l5, some (.long x), l7, l8, l9, l10, l11, l12, l13, l14, l15] (.long x :: st) P) : X w mX11_mixed d Q 11 [l0, l1, l2, l3, l4, l5, some (.long x), l7, l8, l9, l10, l11, l12, l13, l14, l15] st P := X_lload (M := mX11_mixed) (dX11_mixed_11) rfl k
theorem dX11_mixed_13 : decode cX11_mixed 13 = .ok (.lload 4, 2) := by decide +kernel
theorem sX11_mixed_13 {l0 l1 l2 l3 l5 l6 l7 l8 l9 l10 l11 l12 l13 l14 l15 : Option Value} {x : Int64} (k : X w mX11_mixed d Q 15 [l0, l1, l2, l3, some (.long x), l5, l6, l7, l8, l9, l10, l11, l12, l13, l14, l15] (.long x :: st) P) : X w mX11_mixed d Q 13 [l0, l1, l2, l3, some (.long x), l5, l6, l7, l8, l9, l10, l11, l12, l13, l14, l15] st P := X_lload (M := mX11_mixed) (dX11_mixed_13) rfl k
theorem dX11_mixed_15 : decode cX11_mixed 15 = .ok (.lsub, 1) := by decide +kernel
theorem sX11_mixed_15 {x y : Int64} (k : X w mX11_mixed d Q 16 ls (.long (x - y) :: st) P) : X w mX11_mixed d Q 15 ls (.long y :: .long x :: st) P := X_lsub (M := mX11_mixed) (dX11_mixed_15) k
theorem dX11_mixed_16 : decode cX11_mixed 16 = .ok (.lstore 12, 2) := by decide +kernel
theorem sX11_mixed_16 {l0 l1 l2 l3 l4 l5 l6 l7 l8 l9 l10 l11 l12 l13 l14 l15 : Option Value} {x : Int64} (hn : xnl l11 = true) (k : X w mX11_mixed d Q 18 [l0, l1, l2, l3, l4, l5, l6, l7, l8, l9, l10, l11, some (.long x), none, l14, l15] st P) : X w mX11_mixed d Q 16 [l0, l1, l2, l3, l4, l5, l6, l7, l8, l9, l10, l11, l12, l13, l14, l15] (.long x :: st) P := X_lstore (M := mX11_mixed) (dX11_mixed_16) (by decide) rfl (xnl_p (ls := [l0, l1, l2, l3, l4, l5, l6, l7, l8, l9, l10, l11, l12, l13, l14, l15]) (j := 11) rfl hn) k
theorem dX11_mixed_18 : decode cX11_mixed 18 = .ok (.lload 10, 2) := by decide +kernel
theorem sX11_mixed_18 {l0 l1 l2 l3 l4 l5 l6 l7 l8 l9 l11 l12 l13 l14 l15 : Option Value} {x : Int64} (k : X w mX11_mixed d Q 20 [l0, l1, l2, l3, l4, l5, l6, l7, l8, l9, some (.long x), l11, l12, l13, l14, l15] (.long x :: st) P) : X w mX11_mixed d Q 18 [l0, l1, l2, l3, l4, l5, l6, l7, l8, l9, some (.long x), l11, l12, l13, l14, l15] st P := X_lload (M := mX11_mixed) (dX11_mixed_18) rfl k
theorem dX11_mixed_20 : decode cX11_mixed 20 = .ok (.lload 12, 2) := by decide +kernel
theorem sX11_mixed_20 {l0 l1 l2 l3 l4 l5 l6 l7 l8 l9 l10 l11 l13 l14 l15 : Option Value} {x : Int64} (k : X w mX11_mixed d Q 22 [l0, l1, l2, l3, l4, l5, l6, l7, l8, l9, l10, l11, some (.long x), l13, l14, l15] (.long x :: st) P) : X w mX11_mixed d Q 20 [l0, l1, l2, l3, l4, l5, l6, l7, l8, l9, l10, l11, some (.long x), l13, l14, l15] st P := X_lload (M := mX11_mixed) (dX11_mixed_20) rfl k
theorem dX11_mixed_22 : decode cX11_mixed 22 = .ok (.ldiv, 1) := by decide +kernel
theorem sX11_mixed_22 {x y : Int64} (hne : ¬ y = 0) (k : X w mX11_mixed d Q 23 ls (.long (x / y) :: st) P) : X w mX11_mixed d Q 22 ls (.long y :: .long x :: st) P := X_ldiv (M := mX11_mixed) (dX11_mixed_22) hne k
theorem dX11_mixed_23 : decode cX11_mixed 23 = .ok (.lstore 14, 2) := by decide +kernel
theorem sX11_mixed_23 {l0 l1 l2 l3 l4 l5 l6 l7 l8 l9 l10 l11 l12 l13 l14 l15 : Option Value} {x : Int64} (hn : xnl l13 = true) (k : X w mX11_mixed d Q 25 [l0, l1, l2, l3, l4, l5, l6, l7, l8, l9, l10, l11, l12, l13, some (.long x), none] st P) : X w mX11_mixed d Q 23 [l0, l1, l2, l3, l4, l5, l6, l7, l8, l9, l10, l11, l12, l13, l14, l15] (.long x :: st) P := X_lstore (M := mX11_mixed) (dX11_mixed_23) (by decide) rfl (xnl_p (ls := [l0, l1, l2, l3, l4, l5, l6, l7, l8, l9, l10, l11, l12, l13, l14, l15]) (j := 13) rfl hn) k
theorem dX11_mixed_25 : decode cX11_mixed 25 = .ok (.lload_n 0, 1) := by decide +kernel
theorem sX11_mixed_25 {l1 l2 l3 l4 l5 l6 l7 l8 l9 l10 l11 l12 l13 l14 l15 : Option Value} {x : Int64} (k : X w mX11_mixed d Q 26 [some (.long x), l1, l2, l3, l4, l5, l6, l7, l8, l9, l10, l11, l12, l13, l14, l15] (.long x :: st) P) : X w mX11_mixed d Q 25 [some (.long x), l1, l2, l3, l4, l5, l6, l7, l8, l9, l10, l11, l12, l13, l14, l15] st P := X_lload_n (M := mX11_mixed) (dX11_mixed_25) rfl rfl k
theorem dX11_mixed_26 : decode cX11_mixed 26 = .ok (.lload 14, 2) := by decide +kernel
theorem sX11_mixed_26 {l0 l1 l2 l3 l4 l5 l6 l7 l8 l9 l10 l11 l12 l13 l15 : Option Value} {x : Int64} (k : X w mX11_mixed d Q 28 [l0, l1, l2, l3, l4, l5, l6, l7, l8, l9, l10, l11, l12, l13, some (.long x), l15] (.long x :: st) P) : X w mX11_mixed d Q 26 [l0, l1, l2, l3, l4, l5, l6, l7, l8, l9, l10, l11, l12, l13, some (.long x), l15] st P := X_lload (M := mX11_mixed) (dX11_mixed_26) rfl k
theorem dX11_mixed_28 : decode cX11_mixed 28 = .ok (.lload 12, 2) := by decide +kernel
theorem sX11_mixed_28 {l0 l1 l2 l3 l4 l5 l6 l7 l8 l9 l10 l11 l13 l14 l15 : Option Value} {x : Int64} (k : X w mX11_mixed d Q 30 [l0, l1, l2, l3, l4, l5, l6, l7, l8, l9, l10, l11, some (.long x), l13, l14, l15] (.long x :: st) P) : X w mX11_mixed d Q 28 [l0, l1, l2, l3, l4, l5, l6, l7, l8, l9, l10, l11, some (.long x), l13, l14, l15] st P := X_lload (M := mX11_mixed) (dX11_mixed_28) rfl k
theorem dX11_mixed_30 : decode cX11_mixed 30 = .ok (.lmul, 1) := by decide +kernel
theorem sX11_mixed_30 {x y : Int64} (k : X w mX11_mixed d Q 31 ls (.long (x * y) :: st) P) : X w mX11_mixed d Q 30 ls (.long y :: .long x :: st) P := X_lmul (M := mX11_mixed) (dX11_mixed_30) k
theorem dX11_mixed_31 : decode cX11_mixed 31 = .ok (.lload 10, 2) := by decide +kernel
theorem sX11_mixed_31 {l0 l1 l2 l3 l4 l5 l6 l7 l8 l9 l11 l12 l13 l14 l15 : Option Value} {x : Int64} (k : X w mX11_mixed d Q 33 [l0, l1, l2, l3, l4, l5, l6, l7, l8, l9, some (.long x), l11, l12, l13, l14, l15] (.long x :: st) P) : X w mX11_mixed d Q 31 [l0, l1, l2, l3, l4, l5, l6, l7, l8, l9, some (.long x), l11, l12, l13, l14, l15] st P := X_lload (M := mX11_mixed) (dX11_mixed_31) rfl k
theorem dX11_mixed_33 : decode cX11_mixed 33 = .ok (.lcmp, 1) := by decide +kernel
theorem sX11_mixed_33 {x y : Int64} (k : X w mX11_mixed d Q 34 ls (.int (lg_cmp x y) :: st) P) : X w mX11_mixed d Q 33 ls (.long y :: .long x :: st) P := X_lcmp (M := mX11_mixed) (dX11_mixed_33) k
theorem dX11_mixed_34 : decode cX11_mixed 34 = .ok (.ifCond .le 10, 3) := by decide +kernel
theorem sX11_mixed_34 {x : Int32} (kt : x ≤ 0 → X w mX11_mixed d Q 44 ls st P) (kf : ¬ x ≤ 0 → X w mX11_mixed d Q 37 ls st P) : X w mX11_mixed d Q 34 ls (.int x :: st) P := X_if_le (M := mX11_mixed) (dX11_mixed_34) (by decide) kt kf
theorem dX11_mixed_37 : decode cX11_mixed 37 = .ok (.lload 14, 2) := by decide +kernel
theorem sX11_mixed_37 {l0 l1 l2 l3 l4 l5 l6 l7 l8 l9 l10 l11 l12 l13 l15 : Option Value} {x : Int64} (k : X w mX11_mixed d Q 39 [l0, l1, l2, l3, l4, l5, l6, l7, l8, l9, l10, l11, l12, l13, some (.long x), l15] (.long x :: st) P) : X w mX11_mixed d Q 37 [l0, l1, l2, l3, l4, l5, l6, l7, l8, l9, l10, l11, l12, l13, some (.long x), l15] st P := X_lload (M := mX11_mixed) (dX11_mixed_37) rfl k
theorem dX11_mixed_39 : decode cX11_mixed 39 = .ok (.lconst 1, 1) := by decide +kernel
theorem sX11_mixed_39 (k : X w mX11_mixed d Q 40 ls (.long (1 : Int64) :: st) P) : X w mX11_mixed d Q 39 ls st P := X_lconst (M := mX11_mixed) (dX11_mixed_39) (by decide) k
theorem dX11_mixed_40 : decode cX11_mixed 40 = .ok (.lsub, 1) := by decide +kernel
theorem sX11_mixed_40 {x y : Int64} (k : X w mX11_mixed d Q 41 ls (.long (x - y) :: st) P) : X w mX11_mixed d Q 40 ls (.long y :: .long x :: st) P := X_lsub (M := mX11_mixed) (dX11_mixed_40) k
theorem dX11_mixed_41 : decode cX11_mixed 41 = .ok (.goto 5, 3) := by decide +kernel
theorem sX11_mixed_41 (k : X w mX11_mixed d Q 46 ls st P) : X w mX11_mixed d Q 41 ls st P := X_goto (M := mX11_mixed) (dX11_mixed_41) (by decide) k
theorem dX11_mixed_44 : decode cX11_mixed 44 = .ok (.lload 14, 2) := by decide +kernel
theorem sX11_mixed_44 {l0 l1 l2 l3 l4 l5 l6 l7 l8 l9 l10 l11 l12 l13 l15 : Option Value} {x : Int64} (k : X w mX11_mixed d Q 46 [l0, l1, l2, l3, l4, l5, l6, l7, l8, l9, l10, l11, l12, l13, some (.long x), l15] (.long x :: st) P) : X w mX11_mixed d Q 44 [l0, l1, l2, l3, l4, l5, l6, l7, l8, l9, l10, l11, l12, l13, some (.long x), l15] st P := X_lload (M := mX11_mixed) (dX11_mixed_44) rfl k
theorem dX11_mixed_46 : decode cX11_mixed 46 = .ok (.ladd, 1) := by decide +kernel
theorem sX11_mixed_46 {x y : Int64} (k : X w mX11_mixed d Q 47 ls (.long (x + y) :: st) P) : X w mX11_mixed d Q 46 ls (.long y :: .long x :: st) P := X_ladd (M := mX11_mixed) (dX11_mixed_46) k
theorem dX11_mixed_47 : decode cX11_mixed 47 = .ok (.lreturn, 1) := by decide +kernel
theorem sX11_mixed_47 {v : Int64} (hq : Q (.returned (some (.long v))) P) : X w mX11_mixed d Q 47 ls [.long v] P := X_lret (M := mX11_mixed) (dX11_mixed_47) rfl hq
theorem dX11_byLoad_0 : decode cX11_byLoad 0 = .ok (.aload_n 0, 1) := by decide +kernel
theorem sX11_byLoad_0 {l1 l2 l3 l4 l5 l6 l7 : Option Value} {x : Nat} (k : X w mX11_byLoad d Q 1 [some (.ref x), l1, l2, l3, l4, l5, l6, l7] (.ref x :: st) P) : X w mX11_byLoad d Q 0 [some (.ref x), l1, l2, l3, l4, l5, l6, l7] st P := X_aload_n (M := mX11_byLoad) (dX11_byLoad_0) rfl rfl k
theorem dX11_byLoad_1 : decode cX11_byLoad 1 = .ok (.getfield 23, 3) := by decide +kernel
theorem sX11_byLoad_1 {a : Nat} {fs : List Value} {v : Nat} (hP : P.1 a = some (xO 9 fs)) (hv : fs[7]? = some (.ref v)) (k : X w mX11_byLoad d Q 4 ls (.ref v :: st) P) : X w mX11_byLoad d Q 1 ls (.ref a :: st) P := X_get (M := mX11_byLoad) (j := 7) (T := TX11) (dX11_byLoad_1) rfl (by decide) x_in11 xw_408 hP hv k
theorem dX11_byLoad_4 : decode cX11_byLoad 4 = .ok (.iload_n 1, 1) := by decide +kernel
theorem sX11_byLoad_4 {l0 l2 l3 l4 l5 l6 l7 : Option Value} {x : Int32} (k : X w mX11_byLoad d Q 5 [l0, some (.int x), l2, l3, l4, l5, l6, l7] (.int x :: st) P) : X w mX11_byLoad d Q 4 [l0, some (.int x), l2, l3, l4, l5, l6, l7] st P := X_iload_n (M := mX11_byLoad) (dX11_byLoad_4) rfl rfl k
theorem dX11_byLoad_5 : decode cX11_byLoad 5 = .ok (.iaload, 1) := by decide +kernel
theorem sX11_byLoad_5 {a n : Nat} {f : Nat → Int32} {i : Int32} (hP : P.1 a = some (xA 0 n f)) (hi : vp_in i n) (k : X w mX11_byLoad d Q 6 ls (.int (f i.toNatClampNeg) :: st) P) : X w mX11_byLoad d Q 5 ls (.int i :: .ref a :: st) P := X_iald (M := mX11_byLoad) (dX11_byLoad_5) hP hi k
theorem dX11_byLoad_6 : decode cX11_byLoad 6 = .ok (.istore 4, 2) := by decide +kernel
theorem sX11_byLoad_6 {l0 l1 l2 l3 l4 l5 l6 l7 : Option Value} {x : Int32} (hn : xnl l3 = true) (k : X w mX11_byLoad d Q 8 [l0, l1, l2, l3, some (.int x), l5, l6, l7] st P) : X w mX11_byLoad d Q 6 [l0, l1, l2, l3, l4, l5, l6, l7] (.int x :: st) P := X_istore (M := mX11_byLoad) (dX11_byLoad_6) (by decide) rfl (xnl_p (ls := [l0, l1, l2, l3, l4, l5, l6, l7]) (j := 3) rfl hn) k
theorem dX11_byLoad_8 : decode cX11_byLoad 8 = .ok (.aload_n 0, 1) := by decide +kernel
theorem sX11_byLoad_8 {l1 l2 l3 l4 l5 l6 l7 : Option Value} {x : Nat} (k : X w mX11_byLoad d Q 9 [some (.ref x), l1, l2, l3, l4, l5, l6, l7] (.ref x :: st) P) : X w mX11_byLoad d Q 8 [some (.ref x), l1, l2, l3, l4, l5, l6, l7] st P := X_aload_n (M := mX11_byLoad) (dX11_byLoad_8) rfl rfl k
theorem dX11_byLoad_9 : decode cX11_byLoad 9 = .ok (.getfield 29, 3) := by decide +kernel
theorem sX11_byLoad_9 {a : Nat} {fs : List Value} {v : Nat} (hP : P.1 a = some (xO 9 fs)) (hv : fs[9]? = some (.ref v)) (k : X w mX11_byLoad d Q 12 ls (.ref v :: st) P) : X w mX11_byLoad d Q 9 ls (.ref a :: st) P := X_get (M := mX11_byLoad) (j := 9) (T := TX11) (dX11_byLoad_9) rfl (by decide) x_in11 xw_410 hP hv k
theorem dX11_byLoad_12 : decode cX11_byLoad 12 = .ok (.iconst 4, 1) := by decide +kernel
theorem sX11_byLoad_12 (k : X w mX11_byLoad d Q 13 ls (.int (4 : Int32) :: st) P) : X w mX11_byLoad d Q 12 ls st P := X_iconst (M := mX11_byLoad) (dX11_byLoad_12) (by decide) k
theorem dX11_byLoad_13 : decode cX11_byLoad 13 = .ok (.iload_n 1, 1) := by decide +kernel
theorem sX11_byLoad_13 {l0 l2 l3 l4 l5 l6 l7 : Option Value} {x : Int32} (k : X w mX11_byLoad d Q 14 [l0, some (.int x), l2, l3, l4, l5, l6, l7] (.int x :: st) P) : X w mX11_byLoad d Q 13 [l0, some (.int x), l2, l3, l4, l5, l6, l7] st P := X_iload_n (M := mX11_byLoad) (dX11_byLoad_13) rfl rfl k
theorem dX11_byLoad_14 : decode cX11_byLoad 14 = .ok (.imul, 1) := by decide +kernel
theorem sX11_byLoad_14 {x y : Int32} (k : X w mX11_byLoad d Q 15 ls (.int (x * y) :: st) P) : X w mX11_byLoad d Q 14 ls (.int y :: .int x :: st) P := X_imul (M := mX11_byLoad) (dX11_byLoad_14) k
theorem dX11_byLoad_15 : decode cX11_byLoad 15 = .ok (.iload 4, 2) := by decide +kernel
theorem sX11_byLoad_15 {l0 l1 l2 l3 l5 l6 l7 : Option Value} {x : Int32} (k : X w mX11_byLoad d Q 17 [l0, l1, l2, l3, some (.int x), l5, l6, l7] (.int x :: st) P) : X w mX11_byLoad d Q 15 [l0, l1, l2, l3, some (.int x), l5, l6, l7] st P := X_iload (M := mX11_byLoad) (dX11_byLoad_15) rfl k
theorem dX11_byLoad_17 : decode cX11_byLoad 17 = .ok (.iload_n 3, 1) := by decide +kernel
theorem sX11_byLoad_17 {l0 l1 l2 l4 l5 l6 l7 : Option Value} {x : Int32} (k : X w mX11_byLoad d Q 18 [l0, l1, l2, some (.int x), l4, l5, l6, l7] (.int x :: st) P) : X w mX11_byLoad d Q 17 [l0, l1, l2, some (.int x), l4, l5, l6, l7] st P := X_iload_n (M := mX11_byLoad) (dX11_byLoad_17) rfl rfl k
theorem dX11_byLoad_18 : decode cX11_byLoad 18 = .ok (.invokestatic 248, 3) := by decide +kernel
theorem sX11_byLoad_18_g {a0 : Nat} {a1 : Int32} {a2 : Int32} {a3 : Int32} {Qc : Outcome → xH → Prop} (hst : (st.map fun v => v.category).sum ≤ 8) (hC : xC w d mX11_brought [.ref a0, .int a1, .int a2, .int a3] P Qc) (kr : ∀ v P1, Qc (.returned v) P1 → X w mX11_byLoad (d + 1) Q 21 ls (v.toList ++ st) P1) (kt : ∀ q P1, Qc (.threw q) P1 → Xt w mX11_byLoad (d + 1) Q 18 ls st P1 q) : X w mX11_byLoad (d + 1) Q 18 ls (.int a3 :: .int a2 :: .int a1 :: .ref a0 :: st) P := X_callS (M := mX11_byLoad) (MC := mX11_brought) (As := [.ref a0, .int a1, .int a2, .int a3]) (dX11_byLoad_18) calX11_brought xw_539 xw_540 rfl hC hst kr kt
theorem sX11_byLoad_18 {a0 : Nat} {a1 : Int32} {a2 : Int32} {a3 : Int32} {r : Int32} {P1 : xH} (hst : (st.map fun v => v.category).sum ≤ 8) (hC : xC w d mX11_brought [.ref a0, .int a1, .int a2, .int a3] P (xRet (some (.int r)) P1)) (k : X w mX11_byLoad (d + 1) Q 21 ls (.int r :: st) P1) : X w mX11_byLoad (d + 1) Q 18 ls (.int a3 :: .int a2 :: .int a1 :: .ref a0 :: st) P := X_callS (M := mX11_byLoad) (MC := mX11_brought) (As := [.ref a0, .int a1, .int a2, .int a3]) (dX11_byLoad_18) calX11_brought xw_539 xw_540 rfl hC hst (fun v P2 h => by obtain ⟨h1, rfl⟩ := h; cases h1; exact k) (fun q P2 h => by cases h.1)
theorem sX11_byLoad_18_r {a0 : Nat} {a1 : Int32} {a2 : Int32} {a3 : Int32} {r : Int32} {Rp : xH → Prop} (hst : (st.map fun v => v.category).sum ≤ 8) (hC : xC w d mX11_brought [.ref a0, .int a1, .int a2, .int a3] P (xRl (some (.int r)) Rp)) (k : ∀ P1, Rp P1 → X w mX11_byLoad (d + 1) Q 21 ls (.int r :: st) P1) : X w mX11_byLoad (d + 1) Q 18 ls (.int a3 :: .int a2 :: .int a1 :: .ref a0 :: st) P := X_callS (M := mX11_byLoad) (MC := mX11_brought) (As := [.ref a0, .int a1, .int a2, .int a3]) (dX11_byLoad_18) calX11_brought xw_539 xw_540 rfl hC hst (fun v P2 h => by obtain ⟨h1, hR⟩ := h; cases h1; exact k P2 hR) (fun q P2 h => by cases h.1)
theorem sX11_byLoad_18_t {a0 : Nat} {a1 : Int32} {a2 : Int32} {a3 : Int32} {q : Nat} {P1 : xH} (hst : (st.map fun v => v.category).sum ≤ 8) (hC : xC w d mX11_brought [.ref a0, .int a1, .int a2, .int a3] P (xThr q P1)) (hq : Q (.threw q) P1) : X w mX11_byLoad (d + 1) Q 18 ls (.int a3 :: .int a2 :: .int a1 :: .ref a0 :: st) P := X_callS (M := mX11_byLoad) (MC := mX11_brought) (As := [.ref a0, .int a1, .int a2, .int a3]) (dX11_byLoad_18) calX11_brought xw_539 xw_540 rfl hC hst (fun v P2 h => by cases h.1) (fun q2 P2 h => by obtain ⟨h1, rfl⟩ := h; cases h1; exact Xt_out rfl hq)
theorem dX11_byLoad_21 : decode cX11_byLoad 21 = .ok (.istore 5, 2) := by decide +kernel
theorem sX11_byLoad_21 {l0 l1 l2 l3 l4 l5 l6 l7 : Option Value} {x : Int32} (hn : xnl l4 = true) (k : X w mX11_byLoad d Q 23 [l0, l1, l2, l3, l4, some (.int x), l6, l7] st P) : X w mX11_byLoad d Q 21 [l0, l1, l2, l3, l4, l5, l6, l7] (.int x :: st) P := X_istore (M := mX11_byLoad) (dX11_byLoad_21) (by decide) rfl (xnl_p (ls := [l0, l1, l2, l3, l4, l5, l6, l7]) (j := 4) rfl hn) k
theorem dX11_byLoad_23 : decode cX11_byLoad 23 = .ok (.bipush 16, 2) := by decide +kernel
theorem sX11_byLoad_23 (k : X w mX11_byLoad d Q 25 ls (.int (16 : Int32) :: st) P) : X w mX11_byLoad d Q 23 ls st P := X_bipush (M := mX11_byLoad) (dX11_byLoad_23) (by decide) k
theorem dX11_byLoad_25 : decode cX11_byLoad 25 = .ok (.iload_n 1, 1) := by decide +kernel
theorem sX11_byLoad_25 {l0 l2 l3 l4 l5 l6 l7 : Option Value} {x : Int32} (k : X w mX11_byLoad d Q 26 [l0, some (.int x), l2, l3, l4, l5, l6, l7] (.int x :: st) P) : X w mX11_byLoad d Q 25 [l0, some (.int x), l2, l3, l4, l5, l6, l7] st P := X_iload_n (M := mX11_byLoad) (dX11_byLoad_25) rfl rfl k
theorem dX11_byLoad_26 : decode cX11_byLoad 26 = .ok (.imul, 1) := by decide +kernel
theorem sX11_byLoad_26 {x y : Int32} (k : X w mX11_byLoad d Q 27 ls (.int (x * y) :: st) P) : X w mX11_byLoad d Q 26 ls (.int y :: .int x :: st) P := X_imul (M := mX11_byLoad) (dX11_byLoad_26) k
theorem dX11_byLoad_27 : decode cX11_byLoad 27 = .ok (.iload 4, 2) := by decide +kernel
theorem sX11_byLoad_27 {l0 l1 l2 l3 l5 l6 l7 : Option Value} {x : Int32} (k : X w mX11_byLoad d Q 29 [l0, l1, l2, l3, some (.int x), l5, l6, l7] (.int x :: st) P) : X w mX11_byLoad d Q 27 [l0, l1, l2, l3, some (.int x), l5, l6, l7] st P := X_iload (M := mX11_byLoad) (dX11_byLoad_27) rfl k
theorem dX11_byLoad_29 : decode cX11_byLoad 29 = .ok (.iload_n 2, 1) := by decide +kernel
theorem sX11_byLoad_29 {l0 l1 l3 l4 l5 l6 l7 : Option Value} {x : Int32} (k : X w mX11_byLoad d Q 30 [l0, l1, some (.int x), l3, l4, l5, l6, l7] (.int x :: st) P) : X w mX11_byLoad d Q 29 [l0, l1, some (.int x), l3, l4, l5, l6, l7] st P := X_iload_n (M := mX11_byLoad) (dX11_byLoad_29) rfl rfl k
theorem dX11_byLoad_30 : decode cX11_byLoad 30 = .ok (.imul, 1) := by decide +kernel
theorem sX11_byLoad_30 {x y : Int32} (k : X w mX11_byLoad d Q 31 ls (.int (x * y) :: st) P) : X w mX11_byLoad d Q 30 ls (.int y :: .int x :: st) P := X_imul (M := mX11_byLoad) (dX11_byLoad_30) k
theorem dX11_byLoad_31 : decode cX11_byLoad 31 = .ok (.iadd, 1) := by decide +kernel
theorem sX11_byLoad_31 {x y : Int32} (k : X w mX11_byLoad d Q 32 ls (.int (x + y) :: st) P) : X w mX11_byLoad d Q 31 ls (.int y :: .int x :: st) P := X_iadd (M := mX11_byLoad) (dX11_byLoad_31) k
theorem dX11_byLoad_32 : decode cX11_byLoad 32 = .ok (.istore 6, 2) := by decide +kernel
theorem sX11_byLoad_32 {l0 l1 l2 l3 l4 l5 l6 l7 : Option Value} {x : Int32} (hn : xnl l5 = true) (k : X w mX11_byLoad d Q 34 [l0, l1, l2, l3, l4, l5, some (.int x), l7] st P) : X w mX11_byLoad d Q 32 [l0, l1, l2, l3, l4, l5, l6, l7] (.int x :: st) P := X_istore (M := mX11_byLoad) (dX11_byLoad_32) (by decide) rfl (xnl_p (ls := [l0, l1, l2, l3, l4, l5, l6, l7]) (j := 5) rfl hn) k
theorem dX11_byLoad_34 : decode cX11_byLoad 34 = .ok (.iload 4, 2) := by decide +kernel
theorem sX11_byLoad_34 {l0 l1 l2 l3 l5 l6 l7 : Option Value} {x : Int32} (k : X w mX11_byLoad d Q 36 [l0, l1, l2, l3, some (.int x), l5, l6, l7] (.int x :: st) P) : X w mX11_byLoad d Q 34 [l0, l1, l2, l3, some (.int x), l5, l6, l7] st P := X_iload (M := mX11_byLoad) (dX11_byLoad_34) rfl k
theorem dX11_byLoad_36 : decode cX11_byLoad 36 = .ok (.iconst 1, 1) := by decide +kernel
theorem sX11_byLoad_36 (k : X w mX11_byLoad d Q 37 ls (.int (1 : Int32) :: st) P) : X w mX11_byLoad d Q 36 ls st P := X_iconst (M := mX11_byLoad) (dX11_byLoad_36) (by decide) k
theorem dX11_byLoad_37 : decode cX11_byLoad 37 = .ok (.if_icmp .ne 12, 3) := by decide +kernel
theorem sX11_byLoad_37 {x y : Int32} (kt : ¬ x = y → X w mX11_byLoad d Q 49 ls st P) (kf : x = y → X w mX11_byLoad d Q 40 ls st P) : X w mX11_byLoad d Q 37 ls (.int y :: .int x :: st) P := X_icmp_ne (M := mX11_byLoad) (dX11_byLoad_37) (by decide) kt kf
theorem dX11_byLoad_40 : decode cX11_byLoad 40 = .ok (.aload_n 0, 1) := by decide +kernel
theorem sX11_byLoad_40 {l1 l2 l3 l4 l5 l6 l7 : Option Value} {x : Nat} (k : X w mX11_byLoad d Q 41 [some (.ref x), l1, l2, l3, l4, l5, l6, l7] (.ref x :: st) P) : X w mX11_byLoad d Q 40 [some (.ref x), l1, l2, l3, l4, l5, l6, l7] st P := X_aload_n (M := mX11_byLoad) (dX11_byLoad_40) rfl rfl k
theorem dX11_byLoad_41 : decode cX11_byLoad 41 = .ok (.getfield 32, 3) := by decide +kernel
theorem sX11_byLoad_41 {a : Nat} {fs : List Value} {v : Nat} (hP : P.1 a = some (xO 9 fs)) (hv : fs[10]? = some (.ref v)) (k : X w mX11_byLoad d Q 44 ls (.ref v :: st) P) : X w mX11_byLoad d Q 41 ls (.ref a :: st) P := X_get (M := mX11_byLoad) (j := 10) (T := TX11) (dX11_byLoad_41) rfl (by decide) x_in11 xw_411 hP hv k
theorem dX11_byLoad_44 : decode cX11_byLoad 44 = .ok (.iload 6, 2) := by decide +kernel
theorem sX11_byLoad_44 {l0 l1 l2 l3 l4 l5 l7 : Option Value} {x : Int32} (k : X w mX11_byLoad d Q 46 [l0, l1, l2, l3, l4, l5, some (.int x), l7] (.int x :: st) P) : X w mX11_byLoad d Q 44 [l0, l1, l2, l3, l4, l5, some (.int x), l7] st P := X_iload (M := mX11_byLoad) (dX11_byLoad_44) rfl k
theorem dX11_byLoad_46 : decode cX11_byLoad 46 = .ok (.iaload, 1) := by decide +kernel
theorem sX11_byLoad_46 {a n : Nat} {f : Nat → Int32} {i : Int32} (hP : P.1 a = some (xA 0 n f)) (hi : vp_in i n) (k : X w mX11_byLoad d Q 47 ls (.int (f i.toNatClampNeg) :: st) P) : X w mX11_byLoad d Q 46 ls (.int i :: .ref a :: st) P := X_iald (M := mX11_byLoad) (dX11_byLoad_46) hP hi k
theorem dX11_byLoad_47 : decode cX11_byLoad 47 = .ok (.i2l, 1) := by decide +kernel
theorem sX11_byLoad_47 {x : Int32} (k : X w mX11_byLoad d Q 48 ls (.long x.toInt64 :: st) P) : X w mX11_byLoad d Q 47 ls (.int x :: st) P := X_i2l (M := mX11_byLoad) (dX11_byLoad_47) k
theorem dX11_byLoad_48 : decode cX11_byLoad 48 = .ok (.lreturn, 1) := by decide +kernel
theorem sX11_byLoad_48 {v : Int64} (hq : Q (.returned (some (.long v))) P) : X w mX11_byLoad d Q 48 ls [.long v] P := X_lret (M := mX11_byLoad) (dX11_byLoad_48) rfl hq
theorem dX11_byLoad_49 : decode cX11_byLoad 49 = .ok (.aload_n 0, 1) := by decide +kernel
theorem sX11_byLoad_49 {l1 l2 l3 l4 l5 l6 l7 : Option Value} {x : Nat} (k : X w mX11_byLoad d Q 50 [some (.ref x), l1, l2, l3, l4, l5, l6, l7] (.ref x :: st) P) : X w mX11_byLoad d Q 49 [some (.ref x), l1, l2, l3, l4, l5, l6, l7] st P := X_aload_n (M := mX11_byLoad) (dX11_byLoad_49) rfl rfl k
theorem dX11_byLoad_50 : decode cX11_byLoad 50 = .ok (.getfield 29, 3) := by decide +kernel
theorem sX11_byLoad_50 {a : Nat} {fs : List Value} {v : Nat} (hP : P.1 a = some (xO 9 fs)) (hv : fs[9]? = some (.ref v)) (k : X w mX11_byLoad d Q 53 ls (.ref v :: st) P) : X w mX11_byLoad d Q 50 ls (.ref a :: st) P := X_get (M := mX11_byLoad) (j := 9) (T := TX11) (dX11_byLoad_50) rfl (by decide) x_in11 xw_410 hP hv k
theorem dX11_byLoad_53 : decode cX11_byLoad 53 = .ok (.iconst 4, 1) := by decide +kernel
theorem sX11_byLoad_53 (k : X w mX11_byLoad d Q 54 ls (.int (4 : Int32) :: st) P) : X w mX11_byLoad d Q 53 ls st P := X_iconst (M := mX11_byLoad) (dX11_byLoad_53) (by decide) k
theorem dX11_byLoad_54 : decode cX11_byLoad 54 = .ok (.iload_n 1, 1) := by decide +kernel
theorem sX11_byLoad_54 {l0 l2 l3 l4 l5 l6 l7 : Option Value} {x : Int32} (k : X w mX11_byLoad d Q 55 [l0, some (.int x), l2, l3, l4, l5, l6, l7] (.int x :: st) P) : X w mX11_byLoad d Q 54 [l0, some (.int x), l2, l3, l4, l5, l6, l7] st P := X_iload_n (M := mX11_byLoad) (dX11_byLoad_54) rfl rfl k
theorem dX11_byLoad_55 : decode cX11_byLoad 55 = .ok (.imul, 1) := by decide +kernel
theorem sX11_byLoad_55 {x y : Int32} (k : X w mX11_byLoad d Q 56 ls (.int (x * y) :: st) P) : X w mX11_byLoad d Q 55 ls (.int y :: .int x :: st) P := X_imul (M := mX11_byLoad) (dX11_byLoad_55) k
theorem dX11_byLoad_56 : decode cX11_byLoad 56 = .ok (.iload 4, 2) := by decide +kernel
theorem sX11_byLoad_56 {l0 l1 l2 l3 l5 l6 l7 : Option Value} {x : Int32} (k : X w mX11_byLoad d Q 58 [l0, l1, l2, l3, some (.int x), l5, l6, l7] (.int x :: st) P) : X w mX11_byLoad d Q 56 [l0, l1, l2, l3, some (.int x), l5, l6, l7] st P := X_iload (M := mX11_byLoad) (dX11_byLoad_56) rfl k
theorem dX11_byLoad_58 : decode cX11_byLoad 58 = .ok (.iload 5, 2) := by decide +kernel
theorem sX11_byLoad_58 {l0 l1 l2 l3 l4 l6 l7 : Option Value} {x : Int32} (k : X w mX11_byLoad d Q 60 [l0, l1, l2, l3, l4, some (.int x), l6, l7] (.int x :: st) P) : X w mX11_byLoad d Q 58 [l0, l1, l2, l3, l4, some (.int x), l6, l7] st P := X_iload (M := mX11_byLoad) (dX11_byLoad_58) rfl k
theorem dX11_byLoad_60 : decode cX11_byLoad 60 = .ok (.invokestatic 252, 3) := by decide +kernel
theorem sX11_byLoad_60_g {a0 : Nat} {a1 : Int32} {a2 : Int32} {a3 : Int32} {Qc : Outcome → xH → Prop} (hst : (st.map fun v => v.category).sum ≤ 8) (hC : xC w d mX11_spanOf [.ref a0, .int a1, .int a2, .int a3] P Qc) (kr : ∀ v P1, Qc (.returned v) P1 → X w mX11_byLoad (d + 1) Q 63 ls (v.toList ++ st) P1) (kt : ∀ q P1, Qc (.threw q) P1 → Xt w mX11_byLoad (d + 1) Q 60 ls st P1 q) : X w mX11_byLoad (d + 1) Q 60 ls (.int a3 :: .int a2 :: .int a1 :: .ref a0 :: st) P := X_callS (M := mX11_byLoad) (MC := mX11_spanOf) (As := [.ref a0, .int a1, .int a2, .int a3]) (dX11_byLoad_60) calX11_spanOf xw_541 xw_542 rfl hC hst kr kt
theorem sX11_byLoad_60 {a0 : Nat} {a1 : Int32} {a2 : Int32} {a3 : Int32} {r : Int32} {P1 : xH} (hst : (st.map fun v => v.category).sum ≤ 8) (hC : xC w d mX11_spanOf [.ref a0, .int a1, .int a2, .int a3] P (xRet (some (.int r)) P1)) (k : X w mX11_byLoad (d + 1) Q 63 ls (.int r :: st) P1) : X w mX11_byLoad (d + 1) Q 60 ls (.int a3 :: .int a2 :: .int a1 :: .ref a0 :: st) P := X_callS (M := mX11_byLoad) (MC := mX11_spanOf) (As := [.ref a0, .int a1, .int a2, .int a3]) (dX11_byLoad_60) calX11_spanOf xw_541 xw_542 rfl hC hst (fun v P2 h => by obtain ⟨h1, rfl⟩ := h; cases h1; exact k) (fun q P2 h => by cases h.1)
theorem sX11_byLoad_60_r {a0 : Nat} {a1 : Int32} {a2 : Int32} {a3 : Int32} {r : Int32} {Rp : xH → Prop} (hst : (st.map fun v => v.category).sum ≤ 8) (hC : xC w d mX11_spanOf [.ref a0, .int a1, .int a2, .int a3] P (xRl (some (.int r)) Rp)) (k : ∀ P1, Rp P1 → X w mX11_byLoad (d + 1) Q 63 ls (.int r :: st) P1) : X w mX11_byLoad (d + 1) Q 60 ls (.int a3 :: .int a2 :: .int a1 :: .ref a0 :: st) P := X_callS (M := mX11_byLoad) (MC := mX11_spanOf) (As := [.ref a0, .int a1, .int a2, .int a3]) (dX11_byLoad_60) calX11_spanOf xw_541 xw_542 rfl hC hst (fun v P2 h => by obtain ⟨h1, hR⟩ := h; cases h1; exact k P2 hR) (fun q P2 h => by cases h.1)
theorem sX11_byLoad_60_t {a0 : Nat} {a1 : Int32} {a2 : Int32} {a3 : Int32} {q : Nat} {P1 : xH} (hst : (st.map fun v => v.category).sum ≤ 8) (hC : xC w d mX11_spanOf [.ref a0, .int a1, .int a2, .int a3] P (xThr q P1)) (hq : Q (.threw q) P1) : X w mX11_byLoad (d + 1) Q 60 ls (.int a3 :: .int a2 :: .int a1 :: .ref a0 :: st) P := X_callS (M := mX11_byLoad) (MC := mX11_spanOf) (As := [.ref a0, .int a1, .int a2, .int a3]) (dX11_byLoad_60) calX11_spanOf xw_541 xw_542 rfl hC hst (fun v P2 h => by cases h.1) (fun q2 P2 h => by obtain ⟨h1, rfl⟩ := h; cases h1; exact Xt_out rfl hq)
theorem dX11_byLoad_63 : decode cX11_byLoad 63 = .ok (.istore 7, 2) := by decide +kernel
theorem sX11_byLoad_63 {l0 l1 l2 l3 l4 l5 l6 l7 : Option Value} {x : Int32} (hn : xnl l6 = true) (k : X w mX11_byLoad d Q 65 [l0, l1, l2, l3, l4, l5, l6, some (.int x)] st P) : X w mX11_byLoad d Q 63 [l0, l1, l2, l3, l4, l5, l6, l7] (.int x :: st) P := X_istore (M := mX11_byLoad) (dX11_byLoad_63) (by decide) rfl (xnl_p (ls := [l0, l1, l2, l3, l4, l5, l6, l7]) (j := 6) rfl hn) k
theorem dX11_byLoad_65 : decode cX11_byLoad 65 = .ok (.aload_n 0, 1) := by decide +kernel
theorem sX11_byLoad_65 {l1 l2 l3 l4 l5 l6 l7 : Option Value} {x : Nat} (k : X w mX11_byLoad d Q 66 [some (.ref x), l1, l2, l3, l4, l5, l6, l7] (.ref x :: st) P) : X w mX11_byLoad d Q 65 [some (.ref x), l1, l2, l3, l4, l5, l6, l7] st P := X_aload_n (M := mX11_byLoad) (dX11_byLoad_65) rfl rfl k
theorem dX11_byLoad_66 : decode cX11_byLoad 66 = .ok (.getfield 32, 3) := by decide +kernel
theorem sX11_byLoad_66 {a : Nat} {fs : List Value} {v : Nat} (hP : P.1 a = some (xO 9 fs)) (hv : fs[10]? = some (.ref v)) (k : X w mX11_byLoad d Q 69 ls (.ref v :: st) P) : X w mX11_byLoad d Q 66 ls (.ref a :: st) P := X_get (M := mX11_byLoad) (j := 10) (T := TX11) (dX11_byLoad_66) rfl (by decide) x_in11 xw_411 hP hv k
theorem dX11_byLoad_69 : decode cX11_byLoad 69 = .ok (.iload 6, 2) := by decide +kernel
theorem sX11_byLoad_69 {l0 l1 l2 l3 l4 l5 l7 : Option Value} {x : Int32} (k : X w mX11_byLoad d Q 71 [l0, l1, l2, l3, l4, l5, some (.int x), l7] (.int x :: st) P) : X w mX11_byLoad d Q 69 [l0, l1, l2, l3, l4, l5, some (.int x), l7] st P := X_iload (M := mX11_byLoad) (dX11_byLoad_69) rfl k
theorem dX11_byLoad_71 : decode cX11_byLoad 71 = .ok (.iload 7, 2) := by decide +kernel
theorem sX11_byLoad_71 {l0 l1 l2 l3 l4 l5 l6 : Option Value} {x : Int32} (k : X w mX11_byLoad d Q 73 [l0, l1, l2, l3, l4, l5, l6, some (.int x)] (.int x :: st) P) : X w mX11_byLoad d Q 71 [l0, l1, l2, l3, l4, l5, l6, some (.int x)] st P := X_iload (M := mX11_byLoad) (dX11_byLoad_71) rfl k
theorem dX11_byLoad_73 : decode cX11_byLoad 73 = .ok (.iadd, 1) := by decide +kernel
theorem sX11_byLoad_73 {x y : Int32} (k : X w mX11_byLoad d Q 74 ls (.int (x + y) :: st) P) : X w mX11_byLoad d Q 73 ls (.int y :: .int x :: st) P := X_iadd (M := mX11_byLoad) (dX11_byLoad_73) k
theorem dX11_byLoad_74 : decode cX11_byLoad 74 = .ok (.iaload, 1) := by decide +kernel
theorem sX11_byLoad_74 {a n : Nat} {f : Nat → Int32} {i : Int32} (hP : P.1 a = some (xA 0 n f)) (hi : vp_in i n) (k : X w mX11_byLoad d Q 75 ls (.int (f i.toNatClampNeg) :: st) P) : X w mX11_byLoad d Q 74 ls (.int i :: .ref a :: st) P := X_iald (M := mX11_byLoad) (dX11_byLoad_74) hP hi k
theorem dX11_byLoad_75 : decode cX11_byLoad 75 = .ok (.i2l, 1) := by decide +kernel
theorem sX11_byLoad_75 {x : Int32} (k : X w mX11_byLoad d Q 76 ls (.long x.toInt64 :: st) P) : X w mX11_byLoad d Q 75 ls (.int x :: st) P := X_i2l (M := mX11_byLoad) (dX11_byLoad_75) k
theorem dX11_byLoad_76 : decode cX11_byLoad 76 = .ok (.aload_n 0, 1) := by decide +kernel
theorem sX11_byLoad_76 {l1 l2 l3 l4 l5 l6 l7 : Option Value} {x : Nat} (k : X w mX11_byLoad d Q 77 [some (.ref x), l1, l2, l3, l4, l5, l6, l7] (.ref x :: st) P) : X w mX11_byLoad d Q 76 [some (.ref x), l1, l2, l3, l4, l5, l6, l7] st P := X_aload_n (M := mX11_byLoad) (dX11_byLoad_76) rfl rfl k
theorem dX11_byLoad_77 : decode cX11_byLoad 77 = .ok (.getfield 32, 3) := by decide +kernel
theorem sX11_byLoad_77 {a : Nat} {fs : List Value} {v : Nat} (hP : P.1 a = some (xO 9 fs)) (hv : fs[10]? = some (.ref v)) (k : X w mX11_byLoad d Q 80 ls (.ref v :: st) P) : X w mX11_byLoad d Q 77 ls (.ref a :: st) P := X_get (M := mX11_byLoad) (j := 10) (T := TX11) (dX11_byLoad_77) rfl (by decide) x_in11 xw_411 hP hv k
theorem dX11_byLoad_80 : decode cX11_byLoad 80 = .ok (.iload 6, 2) := by decide +kernel
theorem sX11_byLoad_80 {l0 l1 l2 l3 l4 l5 l7 : Option Value} {x : Int32} (k : X w mX11_byLoad d Q 82 [l0, l1, l2, l3, l4, l5, some (.int x), l7] (.int x :: st) P) : X w mX11_byLoad d Q 80 [l0, l1, l2, l3, l4, l5, some (.int x), l7] st P := X_iload (M := mX11_byLoad) (dX11_byLoad_80) rfl k
theorem dX11_byLoad_82 : decode cX11_byLoad 82 = .ok (.iload 7, 2) := by decide +kernel
theorem sX11_byLoad_82 {l0 l1 l2 l3 l4 l5 l6 : Option Value} {x : Int32} (k : X w mX11_byLoad d Q 84 [l0, l1, l2, l3, l4, l5, l6, some (.int x)] (.int x :: st) P) : X w mX11_byLoad d Q 82 [l0, l1, l2, l3, l4, l5, l6, some (.int x)] st P := X_iload (M := mX11_byLoad) (dX11_byLoad_82) rfl k
theorem dX11_byLoad_84 : decode cX11_byLoad 84 = .ok (.iadd, 1) := by decide +kernel
theorem sX11_byLoad_84 {x y : Int32} (k : X w mX11_byLoad d Q 85 ls (.int (x + y) :: st) P) : X w mX11_byLoad d Q 84 ls (.int y :: .int x :: st) P := X_iadd (M := mX11_byLoad) (dX11_byLoad_84) k
theorem dX11_byLoad_85 : decode cX11_byLoad 85 = .ok (.iconst 1, 1) := by decide +kernel
theorem sX11_byLoad_85 (k : X w mX11_byLoad d Q 86 ls (.int (1 : Int32) :: st) P) : X w mX11_byLoad d Q 85 ls st P := X_iconst (M := mX11_byLoad) (dX11_byLoad_85) (by decide) k
theorem dX11_byLoad_86 : decode cX11_byLoad 86 = .ok (.iadd, 1) := by decide +kernel
theorem sX11_byLoad_86 {x y : Int32} (k : X w mX11_byLoad d Q 87 ls (.int (x + y) :: st) P) : X w mX11_byLoad d Q 86 ls (.int y :: .int x :: st) P := X_iadd (M := mX11_byLoad) (dX11_byLoad_86) k
theorem dX11_byLoad_87 : decode cX11_byLoad 87 = .ok (.iaload, 1) := by decide +kernel
theorem sX11_byLoad_87 {a n : Nat} {f : Nat → Int32} {i : Int32} (hP : P.1 a = some (xA 0 n f)) (hi : vp_in i n) (k : X w mX11_byLoad d Q 88 ls (.int (f i.toNatClampNeg) :: st) P) : X w mX11_byLoad d Q 87 ls (.int i :: .ref a :: st) P := X_iald (M := mX11_byLoad) (dX11_byLoad_87) hP hi k
theorem dX11_byLoad_88 : decode cX11_byLoad 88 = .ok (.i2l, 1) := by decide +kernel
theorem sX11_byLoad_88 {x : Int32} (k : X w mX11_byLoad d Q 89 ls (.long x.toInt64 :: st) P) : X w mX11_byLoad d Q 88 ls (.int x :: st) P := X_i2l (M := mX11_byLoad) (dX11_byLoad_88) k
theorem dX11_byLoad_89 : decode cX11_byLoad 89 = .ok (.aload_n 0, 1) := by decide +kernel
theorem sX11_byLoad_89 {l1 l2 l3 l4 l5 l6 l7 : Option Value} {x : Nat} (k : X w mX11_byLoad d Q 90 [some (.ref x), l1, l2, l3, l4, l5, l6, l7] (.ref x :: st) P) : X w mX11_byLoad d Q 89 [some (.ref x), l1, l2, l3, l4, l5, l6, l7] st P := X_aload_n (M := mX11_byLoad) (dX11_byLoad_89) rfl rfl k
theorem dX11_byLoad_90 : decode cX11_byLoad 90 = .ok (.getfield 29, 3) := by decide +kernel
theorem sX11_byLoad_90 {a : Nat} {fs : List Value} {v : Nat} (hP : P.1 a = some (xO 9 fs)) (hv : fs[9]? = some (.ref v)) (k : X w mX11_byLoad d Q 93 ls (.ref v :: st) P) : X w mX11_byLoad d Q 90 ls (.ref a :: st) P := X_get (M := mX11_byLoad) (j := 9) (T := TX11) (dX11_byLoad_90) rfl (by decide) x_in11 xw_410 hP hv k
theorem dX11_byLoad_93 : decode cX11_byLoad 93 = .ok (.iconst 4, 1) := by decide +kernel
theorem sX11_byLoad_93 (k : X w mX11_byLoad d Q 94 ls (.int (4 : Int32) :: st) P) : X w mX11_byLoad d Q 93 ls st P := X_iconst (M := mX11_byLoad) (dX11_byLoad_93) (by decide) k
theorem dX11_byLoad_94 : decode cX11_byLoad 94 = .ok (.iload_n 1, 1) := by decide +kernel
theorem sX11_byLoad_94 {l0 l2 l3 l4 l5 l6 l7 : Option Value} {x : Int32} (k : X w mX11_byLoad d Q 95 [l0, some (.int x), l2, l3, l4, l5, l6, l7] (.int x :: st) P) : X w mX11_byLoad d Q 94 [l0, some (.int x), l2, l3, l4, l5, l6, l7] st P := X_iload_n (M := mX11_byLoad) (dX11_byLoad_94) rfl rfl k
theorem dX11_byLoad_95 : decode cX11_byLoad 95 = .ok (.imul, 1) := by decide +kernel
theorem sX11_byLoad_95 {x y : Int32} (k : X w mX11_byLoad d Q 96 ls (.int (x * y) :: st) P) : X w mX11_byLoad d Q 95 ls (.int y :: .int x :: st) P := X_imul (M := mX11_byLoad) (dX11_byLoad_95) k
theorem dX11_byLoad_96 : decode cX11_byLoad 96 = .ok (.iload 7, 2) := by decide +kernel
theorem sX11_byLoad_96 {l0 l1 l2 l3 l4 l5 l6 : Option Value} {x : Int32} (k : X w mX11_byLoad d Q 98 [l0, l1, l2, l3, l4, l5, l6, some (.int x)] (.int x :: st) P) : X w mX11_byLoad d Q 96 [l0, l1, l2, l3, l4, l5, l6, some (.int x)] st P := X_iload (M := mX11_byLoad) (dX11_byLoad_96) rfl k
theorem dX11_byLoad_98 : decode cX11_byLoad 98 = .ok (.iadd, 1) := by decide +kernel
theorem sX11_byLoad_98 {x y : Int32} (k : X w mX11_byLoad d Q 99 ls (.int (x + y) :: st) P) : X w mX11_byLoad d Q 98 ls (.int y :: .int x :: st) P := X_iadd (M := mX11_byLoad) (dX11_byLoad_98) k
theorem dX11_byLoad_99 : decode cX11_byLoad 99 = .ok (.iaload, 1) := by decide +kernel
theorem sX11_byLoad_99 {a n : Nat} {f : Nat → Int32} {i : Int32} (hP : P.1 a = some (xA 0 n f)) (hi : vp_in i n) (k : X w mX11_byLoad d Q 100 ls (.int (f i.toNatClampNeg) :: st) P) : X w mX11_byLoad d Q 99 ls (.int i :: .ref a :: st) P := X_iald (M := mX11_byLoad) (dX11_byLoad_99) hP hi k
theorem dX11_byLoad_100 : decode cX11_byLoad 100 = .ok (.i2l, 1) := by decide +kernel
theorem sX11_byLoad_100 {x : Int32} (k : X w mX11_byLoad d Q 101 ls (.long x.toInt64 :: st) P) : X w mX11_byLoad d Q 100 ls (.int x :: st) P := X_i2l (M := mX11_byLoad) (dX11_byLoad_100) k
theorem dX11_byLoad_101 : decode cX11_byLoad 101 = .ok (.aload_n 0, 1) := by decide +kernel
theorem sX11_byLoad_101 {l1 l2 l3 l4 l5 l6 l7 : Option Value} {x : Nat} (k : X w mX11_byLoad d Q 102 [some (.ref x), l1, l2, l3, l4, l5, l6, l7] (.ref x :: st) P) : X w mX11_byLoad d Q 101 [some (.ref x), l1, l2, l3, l4, l5, l6, l7] st P := X_aload_n (M := mX11_byLoad) (dX11_byLoad_101) rfl rfl k
theorem dX11_byLoad_102 : decode cX11_byLoad 102 = .ok (.getfield 29, 3) := by decide +kernel
theorem sX11_byLoad_102 {a : Nat} {fs : List Value} {v : Nat} (hP : P.1 a = some (xO 9 fs)) (hv : fs[9]? = some (.ref v)) (k : X w mX11_byLoad d Q 105 ls (.ref v :: st) P) : X w mX11_byLoad d Q 102 ls (.ref a :: st) P := X_get (M := mX11_byLoad) (j := 9) (T := TX11) (dX11_byLoad_102) rfl (by decide) x_in11 xw_410 hP hv k
theorem dX11_byLoad_105 : decode cX11_byLoad 105 = .ok (.iconst 4, 1) := by decide +kernel
theorem sX11_byLoad_105 (k : X w mX11_byLoad d Q 106 ls (.int (4 : Int32) :: st) P) : X w mX11_byLoad d Q 105 ls st P := X_iconst (M := mX11_byLoad) (dX11_byLoad_105) (by decide) k
theorem dX11_byLoad_106 : decode cX11_byLoad 106 = .ok (.iload_n 1, 1) := by decide +kernel
theorem sX11_byLoad_106 {l0 l2 l3 l4 l5 l6 l7 : Option Value} {x : Int32} (k : X w mX11_byLoad d Q 107 [l0, some (.int x), l2, l3, l4, l5, l6, l7] (.int x :: st) P) : X w mX11_byLoad d Q 106 [l0, some (.int x), l2, l3, l4, l5, l6, l7] st P := X_iload_n (M := mX11_byLoad) (dX11_byLoad_106) rfl rfl k
theorem dX11_byLoad_107 : decode cX11_byLoad 107 = .ok (.imul, 1) := by decide +kernel
theorem sX11_byLoad_107 {x y : Int32} (k : X w mX11_byLoad d Q 108 ls (.int (x * y) :: st) P) : X w mX11_byLoad d Q 107 ls (.int y :: .int x :: st) P := X_imul (M := mX11_byLoad) (dX11_byLoad_107) k
theorem dX11_byLoad_108 : decode cX11_byLoad 108 = .ok (.iload 7, 2) := by decide +kernel
theorem sX11_byLoad_108 {l0 l1 l2 l3 l4 l5 l6 : Option Value} {x : Int32} (k : X w mX11_byLoad d Q 110 [l0, l1, l2, l3, l4, l5, l6, some (.int x)] (.int x :: st) P) : X w mX11_byLoad d Q 108 [l0, l1, l2, l3, l4, l5, l6, some (.int x)] st P := X_iload (M := mX11_byLoad) (dX11_byLoad_108) rfl k
theorem dX11_byLoad_110 : decode cX11_byLoad 110 = .ok (.iadd, 1) := by decide +kernel
theorem sX11_byLoad_110 {x y : Int32} (k : X w mX11_byLoad d Q 111 ls (.int (x + y) :: st) P) : X w mX11_byLoad d Q 110 ls (.int y :: .int x :: st) P := X_iadd (M := mX11_byLoad) (dX11_byLoad_110) k
theorem dX11_byLoad_111 : decode cX11_byLoad 111 = .ok (.iconst 1, 1) := by decide +kernel
theorem sX11_byLoad_111 (k : X w mX11_byLoad d Q 112 ls (.int (1 : Int32) :: st) P) : X w mX11_byLoad d Q 111 ls st P := X_iconst (M := mX11_byLoad) (dX11_byLoad_111) (by decide) k
theorem dX11_byLoad_112 : decode cX11_byLoad 112 = .ok (.iadd, 1) := by decide +kernel
theorem sX11_byLoad_112 {x y : Int32} (k : X w mX11_byLoad d Q 113 ls (.int (x + y) :: st) P) : X w mX11_byLoad d Q 112 ls (.int y :: .int x :: st) P := X_iadd (M := mX11_byLoad) (dX11_byLoad_112) k
theorem dX11_byLoad_113 : decode cX11_byLoad 113 = .ok (.iaload, 1) := by decide +kernel
theorem sX11_byLoad_113 {a n : Nat} {f : Nat → Int32} {i : Int32} (hP : P.1 a = some (xA 0 n f)) (hi : vp_in i n) (k : X w mX11_byLoad d Q 114 ls (.int (f i.toNatClampNeg) :: st) P) : X w mX11_byLoad d Q 113 ls (.int i :: .ref a :: st) P := X_iald (M := mX11_byLoad) (dX11_byLoad_113) hP hi k
theorem dX11_byLoad_114 : decode cX11_byLoad 114 = .ok (.i2l, 1) := by decide +kernel
theorem sX11_byLoad_114 {x : Int32} (k : X w mX11_byLoad d Q 115 ls (.long x.toInt64 :: st) P) : X w mX11_byLoad d Q 114 ls (.int x :: st) P := X_i2l (M := mX11_byLoad) (dX11_byLoad_114) k
theorem dX11_byLoad_115 : decode cX11_byLoad 115 = .ok (.iload 5, 2) := by decide +kernel
theorem sX11_byLoad_115 {l0 l1 l2 l3 l4 l6 l7 : Option Value} {x : Int32} (k : X w mX11_byLoad d Q 117 [l0, l1, l2, l3, l4, some (.int x), l6, l7] (.int x :: st) P) : X w mX11_byLoad d Q 115 [l0, l1, l2, l3, l4, some (.int x), l6, l7] st P := X_iload (M := mX11_byLoad) (dX11_byLoad_115) rfl k
theorem dX11_byLoad_117 : decode cX11_byLoad 117 = .ok (.i2l, 1) := by decide +kernel
theorem sX11_byLoad_117 {x : Int32} (k : X w mX11_byLoad d Q 118 ls (.long x.toInt64 :: st) P) : X w mX11_byLoad d Q 117 ls (.int x :: st) P := X_i2l (M := mX11_byLoad) (dX11_byLoad_117) k
theorem dX11_byLoad_118 : decode cX11_byLoad 118 = .ok (.invokestatic 255, 3) := by decide +kernel
theorem sX11_byLoad_118_g {a0 : Int64} {a1 : Int64} {a2 : Int64} {a3 : Int64} {a4 : Int64} {Qc : Outcome → xH → Prop} (hst : (st.map fun v => v.category).sum ≤ 8) (hC : xC w d mX11_mixed [.long a0, .long a1, .long a2, .long a3, .long a4] P Qc) (kr : ∀ v P1, Qc (.returned v) P1 → X w mX11_byLoad (d + 1) Q 121 ls (v.toList ++ st) P1) (kt : ∀ q P1, Qc (.threw q) P1 → Xt w mX11_byLoad (d + 1) Q 118 ls st P1 q) : X w mX11_byLoad (d + 1) Q 118 ls (.long a4 :: .long a3 :: .long a2 :: .long a1 :: .long a0 :: st) P := X_callS (M := mX11_byLoad) (MC := mX11_mixed) (As := [.long a0, .long a1, .long a2, .long a3, .long a4]) (dX11_byLoad_118) calX11_mixed xw_543 xw_544 rfl hC hst kr kt
theorem sX11_byLoad_118 {a0 : Int64} {a1 : Int64} {a2 : Int64} {a3 : Int64} {a4 : Int64} {r : Int64} {P1 : xH} (hst : (st.map fun v => v.category).sum ≤ 8) (hC : xC w d mX11_mixed [.long a0, .long a1, .long a2, .long a3, .long a4] P (xRet (some (.long r)) P1)) (k : X w mX11_byLoad (d + 1) Q 121 ls (.long r :: st) P1) : X w mX11_byLoad (d + 1) Q 118 ls (.long a4 :: .long a3 :: .long a2 :: .long a1 :: .long a0 :: st) P := X_callS (M := mX11_byLoad) (MC := mX11_mixed) (As := [.long a0, .long a1, .long a2, .long a3, .long a4]) (dX11_byLoad_118) calX11_mixed xw_543 xw_544 rfl hC hst (fun v P2 h => by obtain ⟨h1, rfl⟩ := h; cases h1; exact k) (fun q P2 h => by cases h.1)
theorem sX11_byLoad_118_r {a0 : Int64} {a1 : Int64} {a2 : Int64} {a3 : Int64} {a4 : Int64} {r : Int64} {Rp : xH → Prop} (hst : (st.map fun v => v.category).sum ≤ 8) (hC : xC w d mX11_mixed [.long a0, .long a1, .long a2, .long a3, .long a4] P (xRl (some (.long r)) Rp)) (k : ∀ P1, Rp P1 → X w mX11_byLoad (d + 1) Q 121 ls (.long r :: st) P1) : X w mX11_byLoad (d + 1) Q 118 ls (.long a4 :: .long a3 :: .long a2 :: .long a1 :: .long a0 :: st) P := X_callS (M := mX11_byLoad) (MC := mX11_mixed) (As := [.long a0, .long a1, .long a2, .long a3, .long a4]) (dX11_byLoad_118) calX11_mixed xw_543 xw_544 rfl hC hst (fun v P2 h => by obtain ⟨h1, hR⟩ := h; cases h1; exact k P2 hR) (fun q P2 h => by cases h.1)
theorem sX11_byLoad_118_t {a0 : Int64} {a1 : Int64} {a2 : Int64} {a3 : Int64} {a4 : Int64} {q : Nat} {P1 : xH} (hst : (st.map fun v => v.category).sum ≤ 8) (hC : xC w d mX11_mixed [.long a0, .long a1, .long a2, .long a3, .long a4] P (xThr q P1)) (hq : Q (.threw q) P1) : X w mX11_byLoad (d + 1) Q 118 ls (.long a4 :: .long a3 :: .long a2 :: .long a1 :: .long a0 :: st) P := X_callS (M := mX11_byLoad) (MC := mX11_mixed) (As := [.long a0, .long a1, .long a2, .long a3, .long a4]) (dX11_byLoad_118) calX11_mixed xw_543 xw_544 rfl hC hst (fun v P2 h => by cases h.1) (fun q2 P2 h => by obtain ⟨h1, rfl⟩ := h; cases h1; exact Xt_out rfl hq)
theorem dX11_byLoad_121 : decode cX11_byLoad 121 = .ok (.lreturn, 1) := by decide +kernel
theorem sX11_byLoad_121 {v : Int64} (hq : Q (.returned (some (.long v))) P) : X w mX11_byLoad d Q 121 ls [.long v] P := X_lret (M := mX11_byLoad) (dX11_byLoad_121) rfl hq
theorem dX11_delay_0 : decode cX11_delay 0 = .ok (.aload_n 0, 1) := by decide +kernel
theorem sX11_delay_0 {l1 l2 l3 l4 l5 l6 l7 l8 l9 : Option Value} {x : Nat} (k : X w mX11_delay d Q 1 [some (.ref x), l1, l2, l3, l4, l5, l6, l7, l8, l9] (.ref x :: st) P) : X w mX11_delay d Q 0 [some (.ref x), l1, l2, l3, l4, l5, l6, l7, l8, l9] st P := X_aload_n (M := mX11_delay) (dX11_delay_0) rfl rfl k
theorem dX11_delay_1 : decode cX11_delay 1 = .ok (.aload_n 0, 1) := by decide +kernel
theorem sX11_delay_1 {l1 l2 l3 l4 l5 l6 l7 l8 l9 : Option Value} {x : Nat} (k : X w mX11_delay d Q 2 [some (.ref x), l1, l2, l3, l4, l5, l6, l7, l8, l9] (.ref x :: st) P) : X w mX11_delay d Q 1 [some (.ref x), l1, l2, l3, l4, l5, l6, l7, l8, l9] st P := X_aload_n (M := mX11_delay) (dX11_delay_1) rfl rfl k
theorem dX11_delay_2 : decode cX11_delay 2 = .ok (.iload_n 1, 1) := by decide +kernel
theorem sX11_delay_2 {l0 l2 l3 l4 l5 l6 l7 l8 l9 : Option Value} {x : Int32} (k : X w mX11_delay d Q 3 [l0, some (.int x), l2, l3, l4, l5, l6, l7, l8, l9] (.int x :: st) P) : X w mX11_delay d Q 2 [l0, some (.int x), l2, l3, l4, l5, l6, l7, l8, l9] st P := X_iload_n (M := mX11_delay) (dX11_delay_2) rfl rfl k
theorem dX11_delay_3 : decode cX11_delay 3 = .ok (.iload_n 2, 1) := by decide +kernel
theorem sX11_delay_3 {l0 l1 l3 l4 l5 l6 l7 l8 l9 : Option Value} {x : Int32} (k : X w mX11_delay d Q 4 [l0, l1, some (.int x), l3, l4, l5, l6, l7, l8, l9] (.int x :: st) P) : X w mX11_delay d Q 3 [l0, l1, some (.int x), l3, l4, l5, l6, l7, l8, l9] st P := X_iload_n (M := mX11_delay) (dX11_delay_3) rfl rfl k
theorem dX11_delay_4 : decode cX11_delay 4 = .ok (.invokevirtual 245, 3) := by decide +kernel
theorem sX11_delay_4_g {b : Nat} {fs : List Value} {a0 : Int32} {a1 : Int32} {Qc : Outcome → xH → Prop} (hst : (st.map fun v => v.category).sum ≤ 8) (hP : P.1 b = some (xO 9 fs)) (hC : xC w d mX11_isArc [.ref b, .int a0, .int a1] P Qc) (kr : ∀ v P1, Qc (.returned v) P1 → X w mX11_delay (d + 1) Q 7 ls (v.toList ++ st) P1) (kt : ∀ q P1, Qc (.threw q) P1 → Xt w mX11_delay (d + 1) Q 4 ls st P1 q) : X w mX11_delay (d + 1) Q 4 ls (.int a1 :: .int a0 :: .ref b :: st) P := X_callV (M := mX11_delay) (MC := mX11_isArc) (As := [.int a0, .int a1]) (T := TX11) (dX11_delay_4) calX11_isArc xw_536 xw_537 xw_538 rfl rfl hP hC hst kr kt
theorem sX11_delay_4 {b : Nat} {fs : List Value} {a0 : Int32} {a1 : Int32} {r : Int32} {P1 : xH} (hst : (st.map fun v => v.category).sum ≤ 8) (hP : P.1 b = some (xO 9 fs)) (hC : xC w d mX11_isArc [.ref b, .int a0, .int a1] P (xRet (some (.int r)) P1)) (k : X w mX11_delay (d + 1) Q 7 ls (.int r :: st) P1) : X w mX11_delay (d + 1) Q 4 ls (.int a1 :: .int a0 :: .ref b :: st) P := X_callV (M := mX11_delay) (MC := mX11_isArc) (As := [.int a0, .int a1]) (T := TX11) (dX11_delay_4) calX11_isArc xw_536 xw_537 xw_538 rfl rfl hP hC hst (fun v P2 h => by obtain ⟨h1, rfl⟩ := h; cases h1; exact k) (fun q P2 h => by cases h.1)
theorem sX11_delay_4_r {b : Nat} {fs : List Value} {a0 : Int32} {a1 : Int32} {r : Int32} {Rp : xH → Prop} (hst : (st.map fun v => v.category).sum ≤ 8) (hP : P.1 b = some (xO 9 fs)) (hC : xC w d mX11_isArc [.ref b, .int a0, .int a1] P (xRl (some (.int r)) Rp)) (k : ∀ P1, Rp P1 → X w mX11_delay (d + 1) Q 7 ls (.int r :: st) P1) : X w mX11_delay (d + 1) Q 4 ls (.int a1 :: .int a0 :: .ref b :: st) P := X_callV (M := mX11_delay) (MC := mX11_isArc) (As := [.int a0, .int a1]) (T := TX11) (dX11_delay_4) calX11_isArc xw_536 xw_537 xw_538 rfl rfl hP hC hst (fun v P2 h => by obtain ⟨h1, hR⟩ := h; cases h1; exact k P2 hR) (fun q P2 h => by cases h.1)
theorem sX11_delay_4_t {b : Nat} {fs : List Value} {a0 : Int32} {a1 : Int32} {q : Nat} {P1 : xH} (hst : (st.map fun v => v.category).sum ≤ 8) (hP : P.1 b = some (xO 9 fs)) (hC : xC w d mX11_isArc [.ref b, .int a0, .int a1] P (xThr q P1)) (hq : Q (.threw q) P1) : X w mX11_delay (d + 1) Q 4 ls (.int a1 :: .int a0 :: .ref b :: st) P := X_callV (M := mX11_delay) (MC := mX11_isArc) (As := [.int a0, .int a1]) (T := TX11) (dX11_delay_4) calX11_isArc xw_536 xw_537 xw_538 rfl rfl hP hC hst (fun v P2 h => by cases h.1) (fun q2 P2 h => by obtain ⟨h1, rfl⟩ := h; cases h1; exact Xt_out rfl hq)
theorem dX11_delay_7 : decode cX11_delay 7 = .ok (.ifCond .ne 7, 3) := by decide +kernel
theorem sX11_delay_7 {x : Int32} (kt : ¬ x = 0 → X w mX11_delay d Q 14 ls st P) (kf : x = 0 → X w mX11_delay d Q 10 ls st P) : X w mX11_delay d Q 7 ls (.int x :: st) P := X_if_ne (M := mX11_delay) (dX11_delay_7) (by decide) kt kf
theorem dX11_delay_10 : decode cX11_delay 10 = .ok (.iconst 1, 1) := by decide +kernel
theorem sX11_delay_10 (k : X w mX11_delay d Q 11 ls (.int (1 : Int32) :: st) P) : X w mX11_delay d Q 10 ls st P := X_iconst (M := mX11_delay) (dX11_delay_10) (by decide) k
theorem dX11_delay_11 : decode cX11_delay 11 = .ok (.goto 32, 3) := by decide +kernel
theorem sX11_delay_11 (k : X w mX11_delay d Q 43 ls st P) : X w mX11_delay d Q 11 ls st P := X_goto (M := mX11_delay) (dX11_delay_11) (by decide) k
theorem dX11_delay_14 : decode cX11_delay 14 = .ok (.iload_n 3, 1) := by decide +kernel
theorem sX11_delay_14 {l0 l1 l2 l4 l5 l6 l7 l8 l9 : Option Value} {x : Int32} (k : X w mX11_delay d Q 15 [l0, l1, l2, some (.int x), l4, l5, l6, l7, l8, l9] (.int x :: st) P) : X w mX11_delay d Q 14 [l0, l1, l2, some (.int x), l4, l5, l6, l7, l8, l9] st P := X_iload_n (M := mX11_delay) (dX11_delay_14) rfl rfl k
theorem dX11_delay_15 : decode cX11_delay 15 = .ok (.ifCond .lt 23, 3) := by decide +kernel
theorem sX11_delay_15 {x : Int32} (kt : x < 0 → X w mX11_delay d Q 38 ls st P) (kf : ¬ x < 0 → X w mX11_delay d Q 18 ls st P) : X w mX11_delay d Q 15 ls (.int x :: st) P := X_if_lt (M := mX11_delay) (dX11_delay_15) (by decide) kt kf
theorem dX11_delay_18 : decode cX11_delay 18 = .ok (.iload_n 3, 1) := by decide +kernel
theorem sX11_delay_18 {l0 l1 l2 l4 l5 l6 l7 l8 l9 : Option Value} {x : Int32} (k : X w mX11_delay d Q 19 [l0, l1, l2, some (.int x), l4, l5, l6, l7, l8, l9] (.int x :: st) P) : X w mX11_delay d Q 18 [l0, l1, l2, some (.int x), l4, l5, l6, l7, l8, l9] st P := X_iload_n (M := mX11_delay) (dX11_delay_18) rfl rfl k
theorem dX11_delay_19 : decode cX11_delay 19 = .ok (.ldc_w 259, 3) := by decide +kernel
theorem sX11_delay_19 (k : X w mX11_delay d Q 22 ls (.int (1000000 : Int32) :: st) P) : X w mX11_delay d Q 19 ls st P := X_ldcwI (M := mX11_delay) (dX11_delay_19) xw_545 k
theorem dX11_delay_22 : decode cX11_delay 22 = .ok (.if_icmp .gt 16, 3) := by decide +kernel
theorem sX11_delay_22 {x y : Int32} (kt : y < x → X w mX11_delay d Q 38 ls st P) (kf : ¬ y < x → X w mX11_delay d Q 25 ls st P) : X w mX11_delay d Q 22 ls (.int y :: .int x :: st) P := X_icmp_gt (M := mX11_delay) (dX11_delay_22) (by decide) kt kf
theorem dX11_delay_25 : decode cX11_delay 25 = .ok (.iload 4, 2) := by decide +kernel
theorem sX11_delay_25 {l0 l1 l2 l3 l5 l6 l7 l8 l9 : Option Value} {x : Int32} (k : X w mX11_delay d Q 27 [l0, l1, l2, l3, some (.int x), l5, l6, l7, l8, l9] (.int x :: st) P) : X w mX11_delay d Q 25 [l0, l1, l2, l3, some (.int x), l5, l6, l7, l8, l9] st P := X_iload (M := mX11_delay) (dX11_delay_25) rfl k
theorem dX11_delay_27 : decode cX11_delay 27 = .ok (.ifCond .lt 11, 3) := by decide +kernel
theorem sX11_delay_27 {x : Int32} (kt : x < 0 → X w mX11_delay d Q 38 ls st P) (kf : ¬ x < 0 → X w mX11_delay d Q 30 ls st P) : X w mX11_delay d Q 27 ls (.int x :: st) P := X_if_lt (M := mX11_delay) (dX11_delay_27) (by decide) kt kf
theorem dX11_delay_30 : decode cX11_delay 30 = .ok (.iload 4, 2) := by decide +kernel
theorem sX11_delay_30 {l0 l1 l2 l3 l5 l6 l7 l8 l9 : Option Value} {x : Int32} (k : X w mX11_delay d Q 32 [l0, l1, l2, l3, some (.int x), l5, l6, l7, l8, l9] (.int x :: st) P) : X w mX11_delay d Q 30 [l0, l1, l2, l3, some (.int x), l5, l6, l7, l8, l9] st P := X_iload (M := mX11_delay) (dX11_delay_30) rfl k
theorem dX11_delay_32 : decode cX11_delay 32 = .ok (.ldc_w 259, 3) := by decide +kernel
theorem sX11_delay_32 (k : X w mX11_delay d Q 35 ls (.int (1000000 : Int32) :: st) P) : X w mX11_delay d Q 32 ls st P := X_ldcwI (M := mX11_delay) (dX11_delay_32) xw_545 k
theorem dX11_delay_35 : decode cX11_delay 35 = .ok (.if_icmp .le 7, 3) := by decide +kernel
theorem sX11_delay_35 {x y : Int32} (kt : x ≤ y → X w mX11_delay d Q 42 ls st P) (kf : ¬ x ≤ y → X w mX11_delay d Q 38 ls st P) : X w mX11_delay d Q 35 ls (.int y :: .int x :: st) P := X_icmp_le (M := mX11_delay) (dX11_delay_35) (by decide) kt kf
theorem dX11_delay_38 : decode cX11_delay 38 = .ok (.iconst 2, 1) := by decide +kernel
theorem sX11_delay_38 (k : X w mX11_delay d Q 39 ls (.int (2 : Int32) :: st) P) : X w mX11_delay d Q 38 ls st P := X_iconst (M := mX11_delay) (dX11_delay_38) (by decide) k
theorem dX11_delay_39 : decode cX11_delay 39 = .ok (.goto 4, 3) := by decide +kernel
theorem sX11_delay_39 (k : X w mX11_delay d Q 43 ls st P) : X w mX11_delay d Q 39 ls st P := X_goto (M := mX11_delay) (dX11_delay_39) (by decide) k
theorem dX11_delay_42 : decode cX11_delay 42 = .ok (.iconst 0, 1) := by decide +kernel
theorem sX11_delay_42 (k : X w mX11_delay d Q 43 ls (.int (0 : Int32) :: st) P) : X w mX11_delay d Q 42 ls st P := X_iconst (M := mX11_delay) (dX11_delay_42) (by decide) k
theorem dX11_delay_43 : decode cX11_delay 43 = .ok (.putfield 84, 3) := by decide +kernel
theorem sX11_delay_43 {a : Nat} {fs : List Value} {v : Int32} (hP : P.1 a = some (xO 9 fs)) (hl : 0 < fs.length) (k : X w mX11_delay d Q 46 ls st (xs P a (xO 9 (fs.set 0 (.int v))))) : X w mX11_delay d Q 43 ls (.int v :: .ref a :: st) P := X_put (M := mX11_delay) (j := 0) (T := TX11) (dX11_delay_43) rfl (by decide) x_c11 xw_428 rfl hP rfl rfl hl k
theorem dX11_delay_46 : decode cX11_delay 46 = .ok (.aload_n 0, 1) := by decide +kernel
theorem sX11_delay_46 {l1 l2 l3 l4 l5 l6 l7 l8 l9 : Option Value} {x : Nat} (k : X w mX11_delay d Q 47 [some (.ref x), l1, l2, l3, l4, l5, l6, l7, l8, l9] (.ref x :: st) P) : X w mX11_delay d Q 46 [some (.ref x), l1, l2, l3, l4, l5, l6, l7, l8, l9] st P := X_aload_n (M := mX11_delay) (dX11_delay_46) rfl rfl k
theorem dX11_delay_47 : decode cX11_delay 47 = .ok (.getfield 84, 3) := by decide +kernel
theorem sX11_delay_47 {a : Nat} {fs : List Value} {v : Int32} (hP : P.1 a = some (xO 9 fs)) (hv : fs[0]? = some (.int v)) (k : X w mX11_delay d Q 50 ls (.int v :: st) P) : X w mX11_delay d Q 47 ls (.ref a :: st) P := X_get (M := mX11_delay) (j := 0) (T := TX11) (dX11_delay_47) rfl (by decide) x_in11 xw_428 hP hv k
theorem dX11_delay_50 : decode cX11_delay 50 = .ok (.ifCond .le 5, 3) := by decide +kernel
theorem sX11_delay_50 {x : Int32} (kt : x ≤ 0 → X w mX11_delay d Q 55 ls st P) (kf : ¬ x ≤ 0 → X w mX11_delay d Q 53 ls st P) : X w mX11_delay d Q 50 ls (.int x :: st) P := X_if_le (M := mX11_delay) (dX11_delay_50) (by decide) kt kf
theorem dX11_delay_53 : decode cX11_delay 53 = .ok (.iconst 0, 1) := by decide +kernel
theorem sX11_delay_53 (k : X w mX11_delay d Q 54 ls (.int (0 : Int32) :: st) P) : X w mX11_delay d Q 53 ls st P := X_iconst (M := mX11_delay) (dX11_delay_53) (by decide) k
theorem dX11_delay_54 : decode cX11_delay 54 = .ok (.ireturn, 1) := by decide +kernel
theorem sX11_delay_54 {v : Int32} (hq : Q (.returned (some (.int v))) P) : X w mX11_delay d Q 54 ls [.int v] P := X_iret (M := mX11_delay) (dX11_delay_54) rfl hq
theorem dX11_delay_55 : decode cX11_delay 55 = .ok (.bipush 12, 2) := by decide +kernel
theorem sX11_delay_55 (k : X w mX11_delay d Q 57 ls (.int (12 : Int32) :: st) P) : X w mX11_delay d Q 55 ls st P := X_bipush (M := mX11_delay) (dX11_delay_55) (by decide) k
theorem dX11_delay_57 : decode cX11_delay 57 = .ok (.aload_n 0, 1) := by decide +kernel
theorem sX11_delay_57 {l1 l2 l3 l4 l5 l6 l7 l8 l9 : Option Value} {x : Nat} (k : X w mX11_delay d Q 58 [some (.ref x), l1, l2, l3, l4, l5, l6, l7, l8, l9] (.ref x :: st) P) : X w mX11_delay d Q 57 [some (.ref x), l1, l2, l3, l4, l5, l6, l7, l8, l9] st P := X_aload_n (M := mX11_delay) (dX11_delay_57) rfl rfl k
theorem dX11_delay_58 : decode cX11_delay 58 = .ok (.getfield 226, 3) := by decide +kernel
theorem sX11_delay_58 {a : Nat} {fs : List Value} {v : Int32} (hP : P.1 a = some (xO 9 fs)) (hv : fs[3]? = some (.int v)) (k : X w mX11_delay d Q 61 ls (.int v :: st) P) : X w mX11_delay d Q 58 ls (.ref a :: st) P := X_get (M := mX11_delay) (j := 3) (T := TX11) (dX11_delay_58) rfl (by decide) x_in11 xw_521 hP hv k
theorem dX11_delay_61 : decode cX11_delay 61 = .ok (.imul, 1) := by decide +kernel
theorem sX11_delay_61 {x y : Int32} (k : X w mX11_delay d Q 62 ls (.int (x * y) :: st) P) : X w mX11_delay d Q 61 ls (.int y :: .int x :: st) P := X_imul (M := mX11_delay) (dX11_delay_61) k
theorem dX11_delay_62 : decode cX11_delay 62 = .ok (.aload_n 0, 1) := by decide +kernel
theorem sX11_delay_62 {l1 l2 l3 l4 l5 l6 l7 l8 l9 : Option Value} {x : Nat} (k : X w mX11_delay d Q 63 [some (.ref x), l1, l2, l3, l4, l5, l6, l7, l8, l9] (.ref x :: st) P) : X w mX11_delay d Q 62 [some (.ref x), l1, l2, l3, l4, l5, l6, l7, l8, l9] st P := X_aload_n (M := mX11_delay) (dX11_delay_62) rfl rfl k
theorem dX11_delay_63 : decode cX11_delay 63 = .ok (.getfield 66, 3) := by decide +kernel
theorem sX11_delay_63 {a : Nat} {fs : List Value} {v : Nat} (hP : P.1 a = some (xO 9 fs)) (hv : fs[21]? = some (.ref v)) (k : X w mX11_delay d Q 66 ls (.ref v :: st) P) : X w mX11_delay d Q 63 ls (.ref a :: st) P := X_get (M := mX11_delay) (j := 21) (T := TX11) (dX11_delay_63) rfl (by decide) x_in11 xw_422 hP hv k
theorem dX11_delay_66 : decode cX11_delay 66 = .ok (.iconst 5, 1) := by decide +kernel
theorem sX11_delay_66 (k : X w mX11_delay d Q 67 ls (.int (5 : Int32) :: st) P) : X w mX11_delay d Q 66 ls st P := X_iconst (M := mX11_delay) (dX11_delay_66) (by decide) k
theorem dX11_delay_67 : decode cX11_delay 67 = .ok (.bipush 10, 2) := by decide +kernel
theorem sX11_delay_67 (k : X w mX11_delay d Q 69 ls (.int (10 : Int32) :: st) P) : X w mX11_delay d Q 67 ls st P := X_bipush (M := mX11_delay) (dX11_delay_67) (by decide) k
theorem dX11_delay_69 : decode cX11_delay 69 = .ok (.bipush 12, 2) := by decide +kernel
theorem sX11_delay_69 (k : X w mX11_delay d Q 71 ls (.int (12 : Int32) :: st) P) : X w mX11_delay d Q 69 ls st P := X_bipush (M := mX11_delay) (dX11_delay_69) (by decide) k
theorem dX11_delay_71 : decode cX11_delay 71 = .ok (.aload_n 0, 1) := by decide +kernel
theorem sX11_delay_71 {l1 l2 l3 l4 l5 l6 l7 l8 l9 : Option Value} {x : Nat} (k : X w mX11_delay d Q 72 [some (.ref x), l1, l2, l3, l4, l5, l6, l7, l8, l9] (.ref x :: st) P) : X w mX11_delay d Q 71 [some (.ref x), l1, l2, l3, l4, l5, l6, l7, l8, l9] st P := X_aload_n (M := mX11_delay) (dX11_delay_71) rfl rfl k
theorem dX11_delay_72 : decode cX11_delay 72 = .ok (.getfield 226, 3) := by decide +kernel
theorem sX11_delay_72 {a : Nat} {fs : List Value} {v : Int32} (hP : P.1 a = some (xO 9 fs)) (hv : fs[3]? = some (.int v)) (k : X w mX11_delay d Q 75 ls (.int v :: st) P) : X w mX11_delay d Q 72 ls (.ref a :: st) P := X_get (M := mX11_delay) (j := 3) (T := TX11) (dX11_delay_72) rfl (by decide) x_in11 xw_521 hP hv k
theorem dX11_delay_75 : decode cX11_delay 75 = .ok (.imul, 1) := by decide +kernel
theorem sX11_delay_75 {x y : Int32} (k : X w mX11_delay d Q 76 ls (.int (x * y) :: st) P) : X w mX11_delay d Q 75 ls (.int y :: .int x :: st) P := X_imul (M := mX11_delay) (dX11_delay_75) k
theorem dX11_delay_76 : decode cX11_delay 76 = .ok (.iload_n 1, 1) := by decide +kernel
theorem sX11_delay_76 {l0 l2 l3 l4 l5 l6 l7 l8 l9 : Option Value} {x : Int32} (k : X w mX11_delay d Q 77 [l0, some (.int x), l2, l3, l4, l5, l6, l7, l8, l9] (.int x :: st) P) : X w mX11_delay d Q 76 [l0, some (.int x), l2, l3, l4, l5, l6, l7, l8, l9] st P := X_iload_n (M := mX11_delay) (dX11_delay_76) rfl rfl k
theorem dX11_delay_77 : decode cX11_delay 77 = .ok (.iadd, 1) := by decide +kernel
theorem sX11_delay_77 {x y : Int32} (k : X w mX11_delay d Q 78 ls (.int (x + y) :: st) P) : X w mX11_delay d Q 77 ls (.int y :: .int x :: st) P := X_iadd (M := mX11_delay) (dX11_delay_77) k
theorem dX11_delay_78 : decode cX11_delay 78 = .ok (.imul, 1) := by decide +kernel
theorem sX11_delay_78 {x y : Int32} (k : X w mX11_delay d Q 79 ls (.int (x * y) :: st) P) : X w mX11_delay d Q 78 ls (.int y :: .int x :: st) P := X_imul (M := mX11_delay) (dX11_delay_78) k
theorem dX11_delay_79 : decode cX11_delay 79 = .ok (.iload_n 2, 1) := by decide +kernel
theorem sX11_delay_79 {l0 l1 l3 l4 l5 l6 l7 l8 l9 : Option Value} {x : Int32} (k : X w mX11_delay d Q 80 [l0, l1, some (.int x), l3, l4, l5, l6, l7, l8, l9] (.int x :: st) P) : X w mX11_delay d Q 79 [l0, l1, some (.int x), l3, l4, l5, l6, l7, l8, l9] st P := X_iload_n (M := mX11_delay) (dX11_delay_79) rfl rfl k
theorem dX11_delay_80 : decode cX11_delay 80 = .ok (.iadd, 1) := by decide +kernel
theorem sX11_delay_80 {x y : Int32} (k : X w mX11_delay d Q 81 ls (.int (x + y) :: st) P) : X w mX11_delay d Q 80 ls (.int y :: .int x :: st) P := X_iadd (M := mX11_delay) (dX11_delay_80) k
theorem dX11_delay_81 : decode cX11_delay 81 = .ok (.imul, 1) := by decide +kernel
theorem sX11_delay_81 {x y : Int32} (k : X w mX11_delay d Q 82 ls (.int (x * y) :: st) P) : X w mX11_delay d Q 81 ls (.int y :: .int x :: st) P := X_imul (M := mX11_delay) (dX11_delay_81) k
theorem dX11_delay_82 : decode cX11_delay 82 = .ok (.iload 5, 2) := by decide +kernel
theorem sX11_delay_82 {l0 l1 l2 l3 l4 l6 l7 l8 l9 : Option Value} {x : Int32} (k : X w mX11_delay d Q 84 [l0, l1, l2, l3, l4, some (.int x), l6, l7, l8, l9] (.int x :: st) P) : X w mX11_delay d Q 82 [l0, l1, l2, l3, l4, some (.int x), l6, l7, l8, l9] st P := X_iload (M := mX11_delay) (dX11_delay_82) rfl k
theorem dX11_delay_84 : decode cX11_delay 84 = .ok (.ifCond .eq 7, 3) := by decide +kernel
theorem sX11_delay_84 {x : Int32} (kt : x = 0 → X w mX11_delay d Q 91 ls st P) (kf : ¬ x = 0 → X w mX11_delay d Q 87 ls st P) : X w mX11_delay d Q 84 ls (.int x :: st) P := X_if_eq (M := mX11_delay) (dX11_delay_84) (by decide) kt kf
theorem dX11_delay_87 : decode cX11_delay 87 = .ok (.iconst 3, 1) := by decide +kernel
theorem sX11_delay_87 (k : X w mX11_delay d Q 88 ls (.int (3 : Int32) :: st) P) : X w mX11_delay d Q 87 ls st P := X_iconst (M := mX11_delay) (dX11_delay_87) (by decide) k
theorem dX11_delay_88 : decode cX11_delay 88 = .ok (.goto 4, 3) := by decide +kernel
theorem sX11_delay_88 (k : X w mX11_delay d Q 92 ls st P) : X w mX11_delay d Q 88 ls st P := X_goto (M := mX11_delay) (dX11_delay_88) (by decide) k
theorem dX11_delay_91 : decode cX11_delay 91 = .ok (.iconst 4, 1) := by decide +kernel
theorem sX11_delay_91 (k : X w mX11_delay d Q 92 ls (.int (4 : Int32) :: st) P) : X w mX11_delay d Q 91 ls st P := X_iconst (M := mX11_delay) (dX11_delay_91) (by decide) k
theorem dX11_delay_92 : decode cX11_delay 92 = .ok (.iadd, 1) := by decide +kernel
theorem sX11_delay_92 {x y : Int32} (k : X w mX11_delay d Q 93 ls (.int (x + y) :: st) P) : X w mX11_delay d Q 92 ls (.int y :: .int x :: st) P := X_iadd (M := mX11_delay) (dX11_delay_92) k
theorem dX11_delay_93 : decode cX11_delay 93 = .ok (.iaload, 1) := by decide +kernel
theorem sX11_delay_93 {a n : Nat} {f : Nat → Int32} {i : Int32} (hP : P.1 a = some (xA 0 n f)) (hi : vp_in i n) (k : X w mX11_delay d Q 94 ls (.int (f i.toNatClampNeg) :: st) P) : X w mX11_delay d Q 93 ls (.int i :: .ref a :: st) P := X_iald (M := mX11_delay) (dX11_delay_93) hP hi k
theorem dX11_delay_94 : decode cX11_delay 94 = .ok (.iadd, 1) := by decide +kernel
theorem sX11_delay_94 {x y : Int32} (k : X w mX11_delay d Q 95 ls (.int (x + y) :: st) P) : X w mX11_delay d Q 94 ls (.int y :: .int x :: st) P := X_iadd (M := mX11_delay) (dX11_delay_94) k
theorem dX11_delay_95 : decode cX11_delay 95 = .ok (.istore 6, 2) := by decide +kernel
theorem sX11_delay_95 {l0 l1 l2 l3 l4 l5 l6 l7 l8 l9 : Option Value} {x : Int32} (hn : xnl l5 = true) (k : X w mX11_delay d Q 97 [l0, l1, l2, l3, l4, l5, some (.int x), l7, l8, l9] st P) : X w mX11_delay d Q 95 [l0, l1, l2, l3, l4, l5, l6, l7, l8, l9] (.int x :: st) P := X_istore (M := mX11_delay) (dX11_delay_95) (by decide) rfl (xnl_p (ls := [l0, l1, l2, l3, l4, l5, l6, l7, l8, l9]) (j := 5) rfl hn) k
theorem dX11_delay_97 : decode cX11_delay 97 = .ok (.aload_n 0, 1) := by decide +kernel
theorem sX11_delay_97 {l1 l2 l3 l4 l5 l6 l7 l8 l9 : Option Value} {x : Nat} (k : X w mX11_delay d Q 98 [some (.ref x), l1, l2, l3, l4, l5, l6, l7, l8, l9] (.ref x :: st) P) : X w mX11_delay d Q 97 [some (.ref x), l1, l2, l3, l4, l5, l6, l7, l8, l9] st P := X_aload_n (M := mX11_delay) (dX11_delay_97) rfl rfl k
theorem dX11_delay_98 : decode cX11_delay 98 = .ok (.getfield 20, 3) := by decide +kernel
theorem sX11_delay_98 {a : Nat} {fs : List Value} {v : Nat} (hP : P.1 a = some (xO 9 fs)) (hv : fs[6]? = some (.ref v)) (k : X w mX11_delay d Q 101 ls (.ref v :: st) P) : X w mX11_delay d Q 98 ls (.ref a :: st) P := X_get (M := mX11_delay) (j := 6) (T := TX11) (dX11_delay_98) rfl (by decide) x_in11 xw_407 hP hv k
theorem dX11_delay_101 : decode cX11_delay 101 = .ok (.iload 6, 2) := by decide +kernel
theorem sX11_delay_101 {l0 l1 l2 l3 l4 l5 l7 l8 l9 : Option Value} {x : Int32} (k : X w mX11_delay d Q 103 [l0, l1, l2, l3, l4, l5, some (.int x), l7, l8, l9] (.int x :: st) P) : X w mX11_delay d Q 101 [l0, l1, l2, l3, l4, l5, some (.int x), l7, l8, l9] st P := X_iload (M := mX11_delay) (dX11_delay_101) rfl k
theorem dX11_delay_103 : decode cX11_delay 103 = .ok (.iaload, 1) := by decide +kernel
theorem sX11_delay_103 {a n : Nat} {f : Nat → Int32} {i : Int32} (hP : P.1 a = some (xA 0 n f)) (hi : vp_in i n) (k : X w mX11_delay d Q 104 ls (.int (f i.toNatClampNeg) :: st) P) : X w mX11_delay d Q 103 ls (.int i :: .ref a :: st) P := X_iald (M := mX11_delay) (dX11_delay_103) hP hi k
theorem dX11_delay_104 : decode cX11_delay 104 = .ok (.istore 7, 2) := by decide +kernel
theorem sX11_delay_104 {l0 l1 l2 l3 l4 l5 l6 l7 l8 l9 : Option Value} {x : Int32} (hn : xnl l6 = true) (k : X w mX11_delay d Q 106 [l0, l1, l2, l3, l4, l5, l6, some (.int x), l8, l9] st P) : X w mX11_delay d Q 104 [l0, l1, l2, l3, l4, l5, l6, l7, l8, l9] (.int x :: st) P := X_istore (M := mX11_delay) (dX11_delay_104) (by decide) rfl (xnl_p (ls := [l0, l1, l2, l3, l4, l5, l6, l7, l8, l9]) (j := 6) rfl hn) k
theorem dX11_delay_106 : decode cX11_delay 106 = .ok (.iload 7, 2) := by decide +kernel
theorem sX11_delay_106 {l0 l1 l2 l3 l4 l5 l6 l8 l9 : Option Value} {x : Int32} (k : X w mX11_delay d Q 108 [l0, l1, l2, l3, l4, l5, l6, some (.int x), l8, l9] (.int x :: st) P) : X w mX11_delay d Q 106 [l0, l1, l2, l3, l4, l5, l6, some (.int x), l8, l9] st P := X_iload (M := mX11_delay) (dX11_delay_106) rfl k
theorem dX11_delay_108 : decode cX11_delay 108 = .ok (.iconst 1, 1) := by decide +kernel
theorem sX11_delay_108 (k : X w mX11_delay d Q 109 ls (.int (1 : Int32) :: st) P) : X w mX11_delay d Q 108 ls st P := X_iconst (M := mX11_delay) (dX11_delay_108) (by decide) k
theorem dX11_delay_109 : decode cX11_delay 109 = .ok (.if_icmp .ne 14, 3) := by decide +kernel
theorem sX11_delay_109 {x y : Int32} (kt : ¬ x = y → X w mX11_delay d Q 123 ls st P) (kf : x = y → X w mX11_delay d Q 112 ls st P) : X w mX11_delay d Q 109 ls (.int y :: .int x :: st) P := X_icmp_ne (M := mX11_delay) (dX11_delay_109) (by decide) kt kf
theorem dX11_delay_112 : decode cX11_delay 112 = .ok (.aload_n 0, 1) := by decide +kernel
theorem sX11_delay_112 {l1 l2 l3 l4 l5 l6 l7 l8 l9 : Option Value} {x : Nat} (k : X w mX11_delay d Q 113 [some (.ref x), l1, l2, l3, l4, l5, l6, l7, l8, l9] (.ref x :: st) P) : X w mX11_delay d Q 112 [some (.ref x), l1, l2, l3, l4, l5, l6, l7, l8, l9] st P := X_aload_n (M := mX11_delay) (dX11_delay_112) rfl rfl k
theorem dX11_delay_113 : decode cX11_delay 113 = .ok (.iload 6, 2) := by decide +kernel
theorem sX11_delay_113 {l0 l1 l2 l3 l4 l5 l7 l8 l9 : Option Value} {x : Int32} (k : X w mX11_delay d Q 115 [l0, l1, l2, l3, l4, l5, some (.int x), l7, l8, l9] (.int x :: st) P) : X w mX11_delay d Q 113 [l0, l1, l2, l3, l4, l5, some (.int x), l7, l8, l9] st P := X_iload (M := mX11_delay) (dX11_delay_113) rfl k
theorem dX11_delay_115 : decode cX11_delay 115 = .ok (.iconst 0, 1) := by decide +kernel
theorem sX11_delay_115 (k : X w mX11_delay d Q 116 ls (.int (0 : Int32) :: st) P) : X w mX11_delay d Q 115 ls st P := X_iconst (M := mX11_delay) (dX11_delay_115) (by decide) k
theorem dX11_delay_116 : decode cX11_delay 116 = .ok (.iload 4, 2) := by decide +kernel
theorem sX11_delay_116 {l0 l1 l2 l3 l5 l6 l7 l8 l9 : Option Value} {x : Int32} (k : X w mX11_delay d Q 118 [l0, l1, l2, l3, some (.int x), l5, l6, l7, l8, l9] (.int x :: st) P) : X w mX11_delay d Q 116 [l0, l1, l2, l3, some (.int x), l5, l6, l7, l8, l9] st P := X_iload (M := mX11_delay) (dX11_delay_116) rfl k
theorem dX11_delay_118 : decode cX11_delay 118 = .ok (.invokevirtual 260, 3) := by decide +kernel
theorem sX11_delay_118_g {b : Nat} {fs : List Value} {a0 : Int32} {a1 : Int32} {a2 : Int32} {Qc : Outcome → xH → Prop} (hst : (st.map fun v => v.category).sum ≤ 8) (hP : P.1 b = some (xO 9 fs)) (hC : xC w d mX11_byLoad [.ref b, .int a0, .int a1, .int a2] P Qc) (kr : ∀ v P1, Qc (.returned v) P1 → X w mX11_delay (d + 1) Q 121 ls (v.toList ++ st) P1) (kt : ∀ q P1, Qc (.threw q) P1 → Xt w mX11_delay (d + 1) Q 118 ls st P1 q) : X w mX11_delay (d + 1) Q 118 ls (.int a2 :: .int a1 :: .int a0 :: .ref b :: st) P := X_callV (M := mX11_delay) (MC := mX11_byLoad) (As := [.int a0, .int a1, .int a2]) (T := TX11) (dX11_delay_118) calX11_byLoad xw_546 xw_547 xw_548 rfl rfl hP hC hst kr kt
theorem sX11_delay_118 {b : Nat} {fs : List Value} {a0 : Int32} {a1 : Int32} {a2 : Int32} {r : Int64} {P1 : xH} (hst : (st.map fun v => v.category).sum ≤ 8) (hP : P.1 b = some (xO 9 fs)) (hC : xC w d mX11_byLoad [.ref b, .int a0, .int a1, .int a2] P (xRet (some (.long r)) P1)) (k : X w mX11_delay (d + 1) Q 121 ls (.long r :: st) P1) : X w mX11_delay (d + 1) Q 118 ls (.int a2 :: .int a1 :: .int a0 :: .ref b :: st) P := X_callV (M := mX11_delay) (MC := mX11_byLoad) (As := [.int a0, .int a1, .int a2]) (T := TX11) (dX11_delay_118) calX11_byLoad xw_546 xw_547 xw_548 rfl rfl hP hC hst (fun v P2 h => by obtain ⟨h1, rfl⟩ := h; cases h1; exact k) (fun q P2 h => by cases h.1)
theorem sX11_delay_118_r {b : Nat} {fs : List Value} {a0 : Int32} {a1 : Int32} {a2 : Int32} {r : Int64} {Rp : xH → Prop} (hst : (st.map fun v => v.category).sum ≤ 8) (hP : P.1 b = some (xO 9 fs)) (hC : xC w d mX11_byLoad [.ref b, .int a0, .int a1, .int a2] P (xRl (some (.long r)) Rp)) (k : ∀ P1, Rp P1 → X w mX11_delay (d + 1) Q 121 ls (.long r :: st) P1) : X w mX11_delay (d + 1) Q 118 ls (.int a2 :: .int a1 :: .int a0 :: .ref b :: st) P := X_callV (M := mX11_delay) (MC := mX11_byLoad) (As := [.int a0, .int a1, .int a2]) (T := TX11) (dX11_delay_118) calX11_byLoad xw_546 xw_547 xw_548 rfl rfl hP hC hst (fun v P2 h => by obtain ⟨h1, hR⟩ := h; cases h1; exact k P2 hR) (fun q P2 h => by cases h.1)
theorem sX11_delay_118_t {b : Nat} {fs : List Value} {a0 : Int32} {a1 : Int32} {a2 : Int32} {q : Nat} {P1 : xH} (hst : (st.map fun v => v.category).sum ≤ 8) (hP : P.1 b = some (xO 9 fs)) (hC : xC w d mX11_byLoad [.ref b, .int a0, .int a1, .int a2] P (xThr q P1)) (hq : Q (.threw q) P1) : X w mX11_delay (d + 1) Q 118 ls (.int a2 :: .int a1 :: .int a0 :: .ref b :: st) P := X_callV (M := mX11_delay) (MC := mX11_byLoad) (As := [.int a0, .int a1, .int a2]) (T := TX11) (dX11_delay_118) calX11_byLoad xw_546 xw_547 xw_548 rfl rfl hP hC hst (fun v P2 h => by cases h.1) (fun q2 P2 h => by obtain ⟨h1, rfl⟩ := h; cases h1; exact Xt_out rfl hq)
theorem dX11_delay_121 : decode cX11_delay 121 = .ok (.l2i, 1) := by decide +kernel
theorem sX11_delay_121 {x : Int64} (k : X w mX11_delay d Q 122 ls (.int x.toInt32 :: st) P) : X w mX11_delay d Q 121 ls (.long x :: st) P := X_l2i (M := mX11_delay) (dX11_delay_121) k
theorem dX11_delay_122 : decode cX11_delay 122 = .ok (.ireturn, 1) := by decide +kernel
theorem sX11_delay_122 {v : Int32} (hq : Q (.returned (some (.int v))) P) : X w mX11_delay d Q 122 ls [.int v] P := X_iret (M := mX11_delay) (dX11_delay_122) rfl hq
theorem dX11_delay_123 : decode cX11_delay 123 = .ok (.aload_n 0, 1) := by decide +kernel
theorem sX11_delay_123 {l1 l2 l3 l4 l5 l6 l7 l8 l9 : Option Value} {x : Nat} (k : X w mX11_delay d Q 124 [some (.ref x), l1, l2, l3, l4, l5, l6, l7, l8, l9] (.ref x :: st) P) : X w mX11_delay d Q 123 [some (.ref x), l1, l2, l3, l4, l5, l6, l7, l8, l9] st P := X_aload_n (M := mX11_delay) (dX11_delay_123) rfl rfl k
theorem dX11_delay_124 : decode cX11_delay 124 = .ok (.getfield 26, 3) := by decide +kernel
theorem sX11_delay_124 {a : Nat} {fs : List Value} {v : Nat} (hP : P.1 a = some (xO 9 fs)) (hv : fs[8]? = some (.ref v)) (k : X w mX11_delay d Q 127 ls (.ref v :: st) P) : X w mX11_delay d Q 124 ls (.ref a :: st) P := X_get (M := mX11_delay) (j := 8) (T := TX11) (dX11_delay_124) rfl (by decide) x_in11 xw_409 hP hv k
theorem dX11_delay_127 : decode cX11_delay 127 = .ok (.iconst 4, 1) := by decide +kernel
theorem sX11_delay_127 (k : X w mX11_delay d Q 128 ls (.int (4 : Int32) :: st) P) : X w mX11_delay d Q 127 ls st P := X_iconst (M := mX11_delay) (dX11_delay_127) (by decide) k
theorem dX11_delay_128 : decode cX11_delay 128 = .ok (.iload 6, 2) := by decide +kernel
theorem sX11_delay_128 {l0 l1 l2 l3 l4 l5 l7 l8 l9 : Option Value} {x : Int32} (k : X w mX11_delay d Q 130 [l0, l1, l2, l3, l4, l5, some (.int x), l7, l8, l9] (.int x :: st) P) : X w mX11_delay d Q 128 [l0, l1, l2, l3, l4, l5, some (.int x), l7, l8, l9] st P := X_iload (M := mX11_delay) (dX11_delay_128) rfl k
theorem dX11_delay_130 : decode cX11_delay 130 = .ok (.imul, 1) := by decide +kernel
theorem sX11_delay_130 {x y : Int32} (k : X w mX11_delay d Q 131 ls (.int (x * y) :: st) P) : X w mX11_delay d Q 130 ls (.int y :: .int x :: st) P := X_imul (M := mX11_delay) (dX11_delay_130) k
theorem dX11_delay_131 : decode cX11_delay 131 = .ok (.iload 7, 2) := by decide +kernel
theorem sX11_delay_131 {l0 l1 l2 l3 l4 l5 l6 l8 l9 : Option Value} {x : Int32} (k : X w mX11_delay d Q 133 [l0, l1, l2, l3, l4, l5, l6, some (.int x), l8, l9] (.int x :: st) P) : X w mX11_delay d Q 131 [l0, l1, l2, l3, l4, l5, l6, some (.int x), l8, l9] st P := X_iload (M := mX11_delay) (dX11_delay_131) rfl k
theorem dX11_delay_133 : decode cX11_delay 133 = .ok (.iload_n 3, 1) := by decide +kernel
theorem sX11_delay_133 {l0 l1 l2 l4 l5 l6 l7 l8 l9 : Option Value} {x : Int32} (k : X w mX11_delay d Q 134 [l0, l1, l2, some (.int x), l4, l5, l6, l7, l8, l9] (.int x :: st) P) : X w mX11_delay d Q 133 [l0, l1, l2, some (.int x), l4, l5, l6, l7, l8, l9] st P := X_iload_n (M := mX11_delay) (dX11_delay_133) rfl rfl k
theorem dX11_delay_134 : decode cX11_delay 134 = .ok (.invokestatic 248, 3) := by decide +kernel
theorem sX11_delay_134_g {a0 : Nat} {a1 : Int32} {a2 : Int32} {a3 : Int32} {Qc : Outcome → xH → Prop} (hst : (st.map fun v => v.category).sum ≤ 8) (hC : xC w d mX11_brought [.ref a0, .int a1, .int a2, .int a3] P Qc) (kr : ∀ v P1, Qc (.returned v) P1 → X w mX11_delay (d + 1) Q 137 ls (v.toList ++ st) P1) (kt : ∀ q P1, Qc (.threw q) P1 → Xt w mX11_delay (d + 1) Q 134 ls st P1 q) : X w mX11_delay (d + 1) Q 134 ls (.int a3 :: .int a2 :: .int a1 :: .ref a0 :: st) P := X_callS (M := mX11_delay) (MC := mX11_brought) (As := [.ref a0, .int a1, .int a2, .int a3]) (dX11_delay_134) calX11_brought xw_539 xw_540 rfl hC hst kr kt
theorem sX11_delay_134 {a0 : Nat} {a1 : Int32} {a2 : Int32} {a3 : Int32} {r : Int32} {P1 : xH} (hst : (st.map fun v => v.category).sum ≤ 8) (hC : xC w d mX11_brought [.ref a0, .int a1, .int a2, .int a3] P (xRet (some (.int r)) P1)) (k : X w mX11_delay (d + 1) Q 137 ls (.int r :: st) P1) : X w mX11_delay (d + 1) Q 134 ls (.int a3 :: .int a2 :: .int a1 :: .ref a0 :: st) P := X_callS (M := mX11_delay) (MC := mX11_brought) (As := [.ref a0, .int a1, .int a2, .int a3]) (dX11_delay_134) calX11_brought xw_539 xw_540 rfl hC hst (fun v P2 h => by obtain ⟨h1, rfl⟩ := h; cases h1; exact k) (fun q P2 h => by cases h.1)
theorem sX11_delay_134_r {a0 : Nat} {a1 : Int32} {a2 : Int32} {a3 : Int32} {r : Int32} {Rp : xH → Prop} (hst : (st.map fun v => v.category).sum ≤ 8) (hC : xC w d mX11_brought [.ref a0, .int a1, .int a2, .int a3] P (xRl (some (.int r)) Rp)) (k : ∀ P1, Rp P1 → X w mX11_delay (d + 1) Q 137 ls (.int r :: st) P1) : X w mX11_delay (d + 1) Q 134 ls (.int a3 :: .int a2 :: .int a1 :: .ref a0 :: st) P := X_callS (M := mX11_delay) (MC := mX11_brought) (As := [.ref a0, .int a1, .int a2, .int a3]) (dX11_delay_134) calX11_brought xw_539 xw_540 rfl hC hst (fun v P2 h => by obtain ⟨h1, hR⟩ := h; cases h1; exact k P2 hR) (fun q P2 h => by cases h.1)
theorem sX11_delay_134_t {a0 : Nat} {a1 : Int32} {a2 : Int32} {a3 : Int32} {q : Nat} {P1 : xH} (hst : (st.map fun v => v.category).sum ≤ 8) (hC : xC w d mX11_brought [.ref a0, .int a1, .int a2, .int a3] P (xThr q P1)) (hq : Q (.threw q) P1) : X w mX11_delay (d + 1) Q 134 ls (.int a3 :: .int a2 :: .int a1 :: .ref a0 :: st) P := X_callS (M := mX11_delay) (MC := mX11_brought) (As := [.ref a0, .int a1, .int a2, .int a3]) (dX11_delay_134) calX11_brought xw_539 xw_540 rfl hC hst (fun v P2 h => by cases h.1) (fun q2 P2 h => by obtain ⟨h1, rfl⟩ := h; cases h1; exact Xt_out rfl hq)
theorem dX11_delay_137 : decode cX11_delay 137 = .ok (.istore 8, 2) := by decide +kernel
theorem sX11_delay_137 {l0 l1 l2 l3 l4 l5 l6 l7 l8 l9 : Option Value} {x : Int32} (hn : xnl l7 = true) (k : X w mX11_delay d Q 139 [l0, l1, l2, l3, l4, l5, l6, l7, some (.int x), l9] st P) : X w mX11_delay d Q 137 [l0, l1, l2, l3, l4, l5, l6, l7, l8, l9] (.int x :: st) P := X_istore (M := mX11_delay) (dX11_delay_137) (by decide) rfl (xnl_p (ls := [l0, l1, l2, l3, l4, l5, l6, l7, l8, l9]) (j := 7) rfl hn) k
theorem dX11_delay_139 : decode cX11_delay 139 = .ok (.aload_n 0, 1) := by decide +kernel
theorem sX11_delay_139 {l1 l2 l3 l4 l5 l6 l7 l8 l9 : Option Value} {x : Nat} (k : X w mX11_delay d Q 140 [some (.ref x), l1, l2, l3, l4, l5, l6, l7, l8, l9] (.ref x :: st) P) : X w mX11_delay d Q 139 [some (.ref x), l1, l2, l3, l4, l5, l6, l7, l8, l9] st P := X_aload_n (M := mX11_delay) (dX11_delay_139) rfl rfl k
theorem dX11_delay_140 : decode cX11_delay 140 = .ok (.getfield 26, 3) := by decide +kernel
theorem sX11_delay_140 {a : Nat} {fs : List Value} {v : Nat} (hP : P.1 a = some (xO 9 fs)) (hv : fs[8]? = some (.ref v)) (k : X w mX11_delay d Q 143 ls (.ref v :: st) P) : X w mX11_delay d Q 140 ls (.ref a :: st) P := X_get (M := mX11_delay) (j := 8) (T := TX11) (dX11_delay_140) rfl (by decide) x_in11 xw_409 hP hv k
theorem dX11_delay_143 : decode cX11_delay 143 = .ok (.iconst 4, 1) := by decide +kernel
theorem sX11_delay_143 (k : X w mX11_delay d Q 144 ls (.int (4 : Int32) :: st) P) : X w mX11_delay d Q 143 ls st P := X_iconst (M := mX11_delay) (dX11_delay_143) (by decide) k
theorem dX11_delay_144 : decode cX11_delay 144 = .ok (.iload 6, 2) := by decide +kernel
theorem sX11_delay_144 {l0 l1 l2 l3 l4 l5 l7 l8 l9 : Option Value} {x : Int32} (k : X w mX11_delay d Q 146 [l0, l1, l2, l3, l4, l5, some (.int x), l7, l8, l9] (.int x :: st) P) : X w mX11_delay d Q 144 [l0, l1, l2, l3, l4, l5, some (.int x), l7, l8, l9] st P := X_iload (M := mX11_delay) (dX11_delay_144) rfl k
theorem dX11_delay_146 : decode cX11_delay 146 = .ok (.imul, 1) := by decide +kernel
theorem sX11_delay_146 {x y : Int32} (k : X w mX11_delay d Q 147 ls (.int (x * y) :: st) P) : X w mX11_delay d Q 146 ls (.int y :: .int x :: st) P := X_imul (M := mX11_delay) (dX11_delay_146) k
theorem dX11_delay_147 : decode cX11_delay 147 = .ok (.iload 7, 2) := by decide +kernel
theorem sX11_delay_147 {l0 l1 l2 l3 l4 l5 l6 l8 l9 : Option Value} {x : Int32} (k : X w mX11_delay d Q 149 [l0, l1, l2, l3, l4, l5, l6, some (.int x), l8, l9] (.int x :: st) P) : X w mX11_delay d Q 147 [l0, l1, l2, l3, l4, l5, l6, some (.int x), l8, l9] st P := X_iload (M := mX11_delay) (dX11_delay_147) rfl k
theorem dX11_delay_149 : decode cX11_delay 149 = .ok (.iload 8, 2) := by decide +kernel
theorem sX11_delay_149 {l0 l1 l2 l3 l4 l5 l6 l7 l9 : Option Value} {x : Int32} (k : X w mX11_delay d Q 151 [l0, l1, l2, l3, l4, l5, l6, l7, some (.int x), l9] (.int x :: st) P) : X w mX11_delay d Q 149 [l0, l1, l2, l3, l4, l5, l6, l7, some (.int x), l9] st P := X_iload (M := mX11_delay) (dX11_delay_149) rfl k
theorem dX11_delay_151 : decode cX11_delay 151 = .ok (.invokestatic 252, 3) := by decide +kernel
theorem sX11_delay_151_g {a0 : Nat} {a1 : Int32} {a2 : Int32} {a3 : Int32} {Qc : Outcome → xH → Prop} (hst : (st.map fun v => v.category).sum ≤ 8) (hC : xC w d mX11_spanOf [.ref a0, .int a1, .int a2, .int a3] P Qc) (kr : ∀ v P1, Qc (.returned v) P1 → X w mX11_delay (d + 1) Q 154 ls (v.toList ++ st) P1) (kt : ∀ q P1, Qc (.threw q) P1 → Xt w mX11_delay (d + 1) Q 151 ls st P1 q) : X w mX11_delay (d + 1) Q 151 ls (.int a3 :: .int a2 :: .int a1 :: .ref a0 :: st) P := X_callS (M := mX11_delay) (MC := mX11_spanOf) (As := [.ref a0, .int a1, .int a2, .int a3]) (dX11_delay_151) calX11_spanOf xw_541 xw_542 rfl hC hst kr kt
theorem sX11_delay_151 {a0 : Nat} {a1 : Int32} {a2 : Int32} {a3 : Int32} {r : Int32} {P1 : xH} (hst : (st.map fun v => v.category).sum ≤ 8) (hC : xC w d mX11_spanOf [.ref a0, .int a1, .int a2, .int a3] P (xRet (some (.int r)) P1)) (k : X w mX11_delay (d + 1) Q 154 ls (.int r :: st) P1) : X w mX11_delay (d + 1) Q 151 ls (.int a3 :: .int a2 :: .int a1 :: .ref a0 :: st) P := X_callS (M := mX11_delay) (MC := mX11_spanOf) (As := [.ref a0, .int a1, .int a2, .int a3]) (dX11_delay_151) calX11_spanOf xw_541 xw_542 rfl hC hst (fun v P2 h => by obtain ⟨h1, rfl⟩ := h; cases h1; exact k) (fun q P2 h => by cases h.1)
theorem sX11_delay_151_r {a0 : Nat} {a1 : Int32} {a2 : Int32} {a3 : Int32} {r : Int32} {Rp : xH → Prop} (hst : (st.map fun v => v.category).sum ≤ 8) (hC : xC w d mX11_spanOf [.ref a0, .int a1, .int a2, .int a3] P (xRl (some (.int r)) Rp)) (k : ∀ P1, Rp P1 → X w mX11_delay (d + 1) Q 154 ls (.int r :: st) P1) : X w mX11_delay (d + 1) Q 151 ls (.int a3 :: .int a2 :: .int a1 :: .ref a0 :: st) P := X_callS (M := mX11_delay) (MC := mX11_spanOf) (As := [.ref a0, .int a1, .int a2, .int a3]) (dX11_delay_151) calX11_spanOf xw_541 xw_542 rfl hC hst (fun v P2 h => by obtain ⟨h1, hR⟩ := h; cases h1; exact k P2 hR) (fun q P2 h => by cases h.1)
theorem sX11_delay_151_t {a0 : Nat} {a1 : Int32} {a2 : Int32} {a3 : Int32} {q : Nat} {P1 : xH} (hst : (st.map fun v => v.category).sum ≤ 8) (hC : xC w d mX11_spanOf [.ref a0, .int a1, .int a2, .int a3] P (xThr q P1)) (hq : Q (.threw q) P1) : X w mX11_delay (d + 1) Q 151 ls (.int a3 :: .int a2 :: .int a1 :: .ref a0 :: st) P := X_callS (M := mX11_delay) (MC := mX11_spanOf) (As := [.ref a0, .int a1, .int a2, .int a3]) (dX11_delay_151) calX11_spanOf xw_541 xw_542 rfl hC hst (fun v P2 h => by cases h.1) (fun q2 P2 h => by obtain ⟨h1, rfl⟩ := h; cases h1; exact Xt_out rfl hq)
theorem dX11_delay_154 : decode cX11_delay 154 = .ok (.istore 9, 2) := by decide +kernel
theorem sX11_delay_154 {l0 l1 l2 l3 l4 l5 l6 l7 l8 l9 : Option Value} {x : Int32} (hn : xnl l8 = true) (k : X w mX11_delay d Q 156 [l0, l1, l2, l3, l4, l5, l6, l7, l8, some (.int x)] st P) : X w mX11_delay d Q 154 [l0, l1, l2, l3, l4, l5, l6, l7, l8, l9] (.int x :: st) P := X_istore (M := mX11_delay) (dX11_delay_154) (by decide) rfl (xnl_p (ls := [l0, l1, l2, l3, l4, l5, l6, l7, l8, l9]) (j := 8) rfl hn) k
theorem dX11_delay_156 : decode cX11_delay 156 = .ok (.aload_n 0, 1) := by decide +kernel
theorem sX11_delay_156 {l1 l2 l3 l4 l5 l6 l7 l8 l9 : Option Value} {x : Nat} (k : X w mX11_delay d Q 157 [some (.ref x), l1, l2, l3, l4, l5, l6, l7, l8, l9] (.ref x :: st) P) : X w mX11_delay d Q 156 [some (.ref x), l1, l2, l3, l4, l5, l6, l7, l8, l9] st P := X_aload_n (M := mX11_delay) (dX11_delay_156) rfl rfl k
theorem dX11_delay_157 : decode cX11_delay 157 = .ok (.iload 6, 2) := by decide +kernel
theorem sX11_delay_157 {l0 l1 l2 l3 l4 l5 l7 l8 l9 : Option Value} {x : Int32} (k : X w mX11_delay d Q 159 [l0, l1, l2, l3, l4, l5, some (.int x), l7, l8, l9] (.int x :: st) P) : X w mX11_delay d Q 157 [l0, l1, l2, l3, l4, l5, some (.int x), l7, l8, l9] st P := X_iload (M := mX11_delay) (dX11_delay_157) rfl k
theorem dX11_delay_159 : decode cX11_delay 159 = .ok (.iload 9, 2) := by decide +kernel
theorem sX11_delay_159 {l0 l1 l2 l3 l4 l5 l6 l7 l8 : Option Value} {x : Int32} (k : X w mX11_delay d Q 161 [l0, l1, l2, l3, l4, l5, l6, l7, l8, some (.int x)] (.int x :: st) P) : X w mX11_delay d Q 159 [l0, l1, l2, l3, l4, l5, l6, l7, l8, some (.int x)] st P := X_iload (M := mX11_delay) (dX11_delay_159) rfl k
theorem dX11_delay_161 : decode cX11_delay 161 = .ok (.iload 4, 2) := by decide +kernel
theorem sX11_delay_161 {l0 l1 l2 l3 l5 l6 l7 l8 l9 : Option Value} {x : Int32} (k : X w mX11_delay d Q 163 [l0, l1, l2, l3, some (.int x), l5, l6, l7, l8, l9] (.int x :: st) P) : X w mX11_delay d Q 161 [l0, l1, l2, l3, some (.int x), l5, l6, l7, l8, l9] st P := X_iload (M := mX11_delay) (dX11_delay_161) rfl k
theorem dX11_delay_163 : decode cX11_delay 163 = .ok (.invokevirtual 260, 3) := by decide +kernel
theorem sX11_delay_163_g {b : Nat} {fs : List Value} {a0 : Int32} {a1 : Int32} {a2 : Int32} {Qc : Outcome → xH → Prop} (hst : (st.map fun v => v.category).sum ≤ 8) (hP : P.1 b = some (xO 9 fs)) (hC : xC w d mX11_byLoad [.ref b, .int a0, .int a1, .int a2] P Qc) (kr : ∀ v P1, Qc (.returned v) P1 → X w mX11_delay (d + 1) Q 166 ls (v.toList ++ st) P1) (kt : ∀ q P1, Qc (.threw q) P1 → Xt w mX11_delay (d + 1) Q 163 ls st P1 q) : X w mX11_delay (d + 1) Q 163 ls (.int a2 :: .int a1 :: .int a0 :: .ref b :: st) P := X_callV (M := mX11_delay) (MC := mX11_byLoad) (As := [.int a0, .int a1, .int a2]) (T := TX11) (dX11_delay_163) calX11_byLoad xw_546 xw_547 xw_548 rfl rfl hP hC hst kr kt
theorem sX11_delay_163 {b : Nat} {fs : List Value} {a0 : Int32} {a1 : Int32} {a2 : Int32} {r : Int64} {P1 : xH} (hst : (st.map fun v => v.category).sum ≤ 8) (hP : P.1 b = some (xO 9 fs)) (hC : xC w d mX11_byLoad [.ref b, .int a0, .int a1, .int a2] P (xRet (some (.long r)) P1)) (k : X w mX11_delay (d + 1) Q 166 ls (.long r :: st) P1) : X w mX11_delay (d + 1) Q 163 ls (.int a2 :: .int a1 :: .int a0 :: .ref b :: st) P := X_callV (M := mX11_delay) (MC := mX11_byLoad) (As := [.int a0, .int a1, .int a2]) (T := TX11) (dX11_delay_163) calX11_byLoad xw_546 xw_547 xw_548 rfl rfl hP hC hst (fun v P2 h => by obtain ⟨h1, rfl⟩ := h; cases h1; exact k) (fun q P2 h => by cases h.1)
theorem sX11_delay_163_r {b : Nat} {fs : List Value} {a0 : Int32} {a1 : Int32} {a2 : Int32} {r : Int64} {Rp : xH → Prop} (hst : (st.map fun v => v.category).sum ≤ 8) (hP : P.1 b = some (xO 9 fs)) (hC : xC w d mX11_byLoad [.ref b, .int a0, .int a1, .int a2] P (xRl (some (.long r)) Rp)) (k : ∀ P1, Rp P1 → X w mX11_delay (d + 1) Q 166 ls (.long r :: st) P1) : X w mX11_delay (d + 1) Q 163 ls (.int a2 :: .int a1 :: .int a0 :: .ref b :: st) P := X_callV (M := mX11_delay) (MC := mX11_byLoad) (As := [.int a0, .int a1, .int a2]) (T := TX11) (dX11_delay_163) calX11_byLoad xw_546 xw_547 xw_548 rfl rfl hP hC hst (fun v P2 h => by obtain ⟨h1, hR⟩ := h; cases h1; exact k P2 hR) (fun q P2 h => by cases h.1)
theorem sX11_delay_163_t {b : Nat} {fs : List Value} {a0 : Int32} {a1 : Int32} {a2 : Int32} {q : Nat} {P1 : xH} (hst : (st.map fun v => v.category).sum ≤ 8) (hP : P.1 b = some (xO 9 fs)) (hC : xC w d mX11_byLoad [.ref b, .int a0, .int a1, .int a2] P (xThr q P1)) (hq : Q (.threw q) P1) : X w mX11_delay (d + 1) Q 163 ls (.int a2 :: .int a1 :: .int a0 :: .ref b :: st) P := X_callV (M := mX11_delay) (MC := mX11_byLoad) (As := [.int a0, .int a1, .int a2]) (T := TX11) (dX11_delay_163) calX11_byLoad xw_546 xw_547 xw_548 rfl rfl hP hC hst (fun v P2 h => by cases h.1) (fun q2 P2 h => by obtain ⟨h1, rfl⟩ := h; cases h1; exact Xt_out rfl hq)
theorem dX11_delay_166 : decode cX11_delay 166 = .ok (.aload_n 0, 1) := by decide +kernel
theorem sX11_delay_166 {l1 l2 l3 l4 l5 l6 l7 l8 l9 : Option Value} {x : Nat} (k : X w mX11_delay d Q 167 [some (.ref x), l1, l2, l3, l4, l5, l6, l7, l8, l9] (.ref x :: st) P) : X w mX11_delay d Q 166 [some (.ref x), l1, l2, l3, l4, l5, l6, l7, l8, l9] st P := X_aload_n (M := mX11_delay) (dX11_delay_166) rfl rfl k
theorem dX11_delay_167 : decode cX11_delay 167 = .ok (.iload 6, 2) := by decide +kernel
theorem sX11_delay_167 {l0 l1 l2 l3 l4 l5 l7 l8 l9 : Option Value} {x : Int32} (k : X w mX11_delay d Q 169 [l0, l1, l2, l3, l4, l5, some (.int x), l7, l8, l9] (.int x :: st) P) : X w mX11_delay d Q 167 [l0, l1, l2, l3, l4, l5, some (.int x), l7, l8, l9] st P := X_iload (M := mX11_delay) (dX11_delay_167) rfl k
theorem dX11_delay_169 : decode cX11_delay 169 = .ok (.iload 9, 2) := by decide +kernel
theorem sX11_delay_169 {l0 l1 l2 l3 l4 l5 l6 l7 l8 : Option Value} {x : Int32} (k : X w mX11_delay d Q 171 [l0, l1, l2, l3, l4, l5, l6, l7, l8, some (.int x)] (.int x :: st) P) : X w mX11_delay d Q 169 [l0, l1, l2, l3, l4, l5, l6, l7, l8, some (.int x)] st P := X_iload (M := mX11_delay) (dX11_delay_169) rfl k
theorem dX11_delay_171 : decode cX11_delay 171 = .ok (.iconst 1, 1) := by decide +kernel
theorem sX11_delay_171 (k : X w mX11_delay d Q 172 ls (.int (1 : Int32) :: st) P) : X w mX11_delay d Q 171 ls st P := X_iconst (M := mX11_delay) (dX11_delay_171) (by decide) k
theorem dX11_delay_172 : decode cX11_delay 172 = .ok (.iadd, 1) := by decide +kernel
theorem sX11_delay_172 {x y : Int32} (k : X w mX11_delay d Q 173 ls (.int (x + y) :: st) P) : X w mX11_delay d Q 172 ls (.int y :: .int x :: st) P := X_iadd (M := mX11_delay) (dX11_delay_172) k
theorem dX11_delay_173 : decode cX11_delay 173 = .ok (.iload 4, 2) := by decide +kernel
theorem sX11_delay_173 {l0 l1 l2 l3 l5 l6 l7 l8 l9 : Option Value} {x : Int32} (k : X w mX11_delay d Q 175 [l0, l1, l2, l3, some (.int x), l5, l6, l7, l8, l9] (.int x :: st) P) : X w mX11_delay d Q 173 [l0, l1, l2, l3, some (.int x), l5, l6, l7, l8, l9] st P := X_iload (M := mX11_delay) (dX11_delay_173) rfl k
theorem dX11_delay_175 : decode cX11_delay 175 = .ok (.invokevirtual 260, 3) := by decide +kernel
theorem sX11_delay_175_g {b : Nat} {fs : List Value} {a0 : Int32} {a1 : Int32} {a2 : Int32} {Qc : Outcome → xH → Prop} (hst : (st.map fun v => v.category).sum ≤ 8) (hP : P.1 b = some (xO 9 fs)) (hC : xC w d mX11_byLoad [.ref b, .int a0, .int a1, .int a2] P Qc) (kr : ∀ v P1, Qc (.returned v) P1 → X w mX11_delay (d + 1) Q 178 ls (v.toList ++ st) P1) (kt : ∀ q P1, Qc (.threw q) P1 → Xt w mX11_delay (d + 1) Q 175 ls st P1 q) : X w mX11_delay (d + 1) Q 175 ls (.int a2 :: .int a1 :: .int a0 :: .ref b :: st) P := X_callV (M := mX11_delay) (MC := mX11_byLoad) (As := [.int a0, .int a1, .int a2]) (T := TX11) (dX11_delay_175) calX11_byLoad xw_546 xw_547 xw_548 rfl rfl hP hC hst kr kt
theorem sX11_delay_175 {b : Nat} {fs : List Value} {a0 : Int32} {a1 : Int32} {a2 : Int32} {r : Int64} {P1 : xH} (hst : (st.map fun v => v.category).sum ≤ 8) (hP : P.1 b = some (xO 9 fs)) (hC : xC w d mX11_byLoad [.ref b, .int a0, .int a1, .int a2] P (xRet (some (.long r)) P1)) (k : X w mX11_delay (d + 1) Q 178 ls (.long r :: st) P1) : X w mX11_delay (d + 1) Q 175 ls (.int a2 :: .int a1 :: .int a0 :: .ref b :: st) P := X_callV (M := mX11_delay) (MC := mX11_byLoad) (As := [.int a0, .int a1, .int a2]) (T := TX11) (dX11_delay_175) calX11_byLoad xw_546 xw_547 xw_548 rfl rfl hP hC hst (fun v P2 h => by obtain ⟨h1, rfl⟩ := h; cases h1; exact k) (fun q P2 h => by cases h.1)
theorem sX11_delay_175_r {b : Nat} {fs : List Value} {a0 : Int32} {a1 : Int32} {a2 : Int32} {r : Int64} {Rp : xH → Prop} (hst : (st.map fun v => v.category).sum ≤ 8) (hP : P.1 b = some (xO 9 fs)) (hC : xC w d mX11_byLoad [.ref b, .int a0, .int a1, .int a2] P (xRl (some (.long r)) Rp)) (k : ∀ P1, Rp P1 → X w mX11_delay (d + 1) Q 178 ls (.long r :: st) P1) : X w mX11_delay (d + 1) Q 175 ls (.int a2 :: .int a1 :: .int a0 :: .ref b :: st) P := X_callV (M := mX11_delay) (MC := mX11_byLoad) (As := [.int a0, .int a1, .int a2]) (T := TX11) (dX11_delay_175) calX11_byLoad xw_546 xw_547 xw_548 rfl rfl hP hC hst (fun v P2 h => by obtain ⟨h1, hR⟩ := h; cases h1; exact k P2 hR) (fun q P2 h => by cases h.1)
theorem sX11_delay_175_t {b : Nat} {fs : List Value} {a0 : Int32} {a1 : Int32} {a2 : Int32} {q : Nat} {P1 : xH} (hst : (st.map fun v => v.category).sum ≤ 8) (hP : P.1 b = some (xO 9 fs)) (hC : xC w d mX11_byLoad [.ref b, .int a0, .int a1, .int a2] P (xThr q P1)) (hq : Q (.threw q) P1) : X w mX11_delay (d + 1) Q 175 ls (.int a2 :: .int a1 :: .int a0 :: .ref b :: st) P := X_callV (M := mX11_delay) (MC := mX11_byLoad) (As := [.int a0, .int a1, .int a2]) (T := TX11) (dX11_delay_175) calX11_byLoad xw_546 xw_547 xw_548 rfl rfl hP hC hst (fun v P2 h => by cases h.1) (fun q2 P2 h => by obtain ⟨h1, rfl⟩ := h; cases h1; exact Xt_out rfl hq)
theorem dX11_delay_178 : decode cX11_delay 178 = .ok (.aload_n 0, 1) := by decide +kernel
theorem sX11_delay_178 {l1 l2 l3 l4 l5 l6 l7 l8 l9 : Option Value} {x : Nat} (k : X w mX11_delay d Q 179 [some (.ref x), l1, l2, l3, l4, l5, l6, l7, l8, l9] (.ref x :: st) P) : X w mX11_delay d Q 178 [some (.ref x), l1, l2, l3, l4, l5, l6, l7, l8, l9] st P := X_aload_n (M := mX11_delay) (dX11_delay_178) rfl rfl k
theorem dX11_delay_179 : decode cX11_delay 179 = .ok (.getfield 26, 3) := by decide +kernel
theorem sX11_delay_179 {a : Nat} {fs : List Value} {v : Nat} (hP : P.1 a = some (xO 9 fs)) (hv : fs[8]? = some (.ref v)) (k : X w mX11_delay d Q 182 ls (.ref v :: st) P) : X w mX11_delay d Q 179 ls (.ref a :: st) P := X_get (M := mX11_delay) (j := 8) (T := TX11) (dX11_delay_179) rfl (by decide) x_in11 xw_409 hP hv k
theorem dX11_delay_182 : decode cX11_delay 182 = .ok (.iconst 4, 1) := by decide +kernel
theorem sX11_delay_182 (k : X w mX11_delay d Q 183 ls (.int (4 : Int32) :: st) P) : X w mX11_delay d Q 182 ls st P := X_iconst (M := mX11_delay) (dX11_delay_182) (by decide) k
theorem dX11_delay_183 : decode cX11_delay 183 = .ok (.iload 6, 2) := by decide +kernel
theorem sX11_delay_183 {l0 l1 l2 l3 l4 l5 l7 l8 l9 : Option Value} {x : Int32} (k : X w mX11_delay d Q 185 [l0, l1, l2, l3, l4, l5, some (.int x), l7, l8, l9] (.int x :: st) P) : X w mX11_delay d Q 183 [l0, l1, l2, l3, l4, l5, some (.int x), l7, l8, l9] st P := X_iload (M := mX11_delay) (dX11_delay_183) rfl k
theorem dX11_delay_185 : decode cX11_delay 185 = .ok (.imul, 1) := by decide +kernel
theorem sX11_delay_185 {x y : Int32} (k : X w mX11_delay d Q 186 ls (.int (x * y) :: st) P) : X w mX11_delay d Q 185 ls (.int y :: .int x :: st) P := X_imul (M := mX11_delay) (dX11_delay_185) k
theorem dX11_delay_186 : decode cX11_delay 186 = .ok (.iload 9, 2) := by decide +kernel
theorem sX11_delay_186 {l0 l1 l2 l3 l4 l5 l6 l7 l8 : Option Value} {x : Int32} (k : X w mX11_delay d Q 188 [l0, l1, l2, l3, l4, l5, l6, l7, l8, some (.int x)] (.int x :: st) P) : X w mX11_delay d Q 186 [l0, l1, l2, l3, l4, l5, l6, l7, l8, some (.int x)] st P := X_iload (M := mX11_delay) (dX11_delay_186) rfl k
theorem dX11_delay_188 : decode cX11_delay 188 = .ok (.iadd, 1) := by decide +kernel
theorem sX11_delay_188 {x y : Int32} (k : X w mX11_delay d Q 189 ls (.int (x + y) :: st) P) : X w mX11_delay d Q 188 ls (.int y :: .int x :: st) P := X_iadd (M := mX11_delay) (dX11_delay_188) k
theorem dX11_delay_189 : decode cX11_delay 189 = .ok (.iaload, 1) := by decide +kernel
theorem sX11_delay_189 {a n : Nat} {f : Nat → Int32} {i : Int32} (hP : P.1 a = some (xA 0 n f)) (hi : vp_in i n) (k : X w mX11_delay d Q 190 ls (.int (f i.toNatClampNeg) :: st) P) : X w mX11_delay d Q 189 ls (.int i :: .ref a :: st) P := X_iald (M := mX11_delay) (dX11_delay_189) hP hi k
theorem dX11_delay_190 : decode cX11_delay 190 = .ok (.i2l, 1) := by decide +kernel
theorem sX11_delay_190 {x : Int32} (k : X w mX11_delay d Q 191 ls (.long x.toInt64 :: st) P) : X w mX11_delay d Q 190 ls (.int x :: st) P := X_i2l (M := mX11_delay) (dX11_delay_190) k
theorem dX11_delay_191 : decode cX11_delay 191 = .ok (.aload_n 0, 1) := by decide +kernel
theorem sX11_delay_191 {l1 l2 l3 l4 l5 l6 l7 l8 l9 : Option Value} {x : Nat} (k : X w mX11_delay d Q 192 [some (.ref x), l1, l2, l3, l4, l5, l6, l7, l8, l9] (.ref x :: st) P) : X w mX11_delay d Q 191 [some (.ref x), l1, l2, l3, l4, l5, l6, l7, l8, l9] st P := X_aload_n (M := mX11_delay) (dX11_delay_191) rfl rfl k
theorem dX11_delay_192 : decode cX11_delay 192 = .ok (.getfield 26, 3) := by decide +kernel
theorem sX11_delay_192 {a : Nat} {fs : List Value} {v : Nat} (hP : P.1 a = some (xO 9 fs)) (hv : fs[8]? = some (.ref v)) (k : X w mX11_delay d Q 195 ls (.ref v :: st) P) : X w mX11_delay d Q 192 ls (.ref a :: st) P := X_get (M := mX11_delay) (j := 8) (T := TX11) (dX11_delay_192) rfl (by decide) x_in11 xw_409 hP hv k
theorem dX11_delay_195 : decode cX11_delay 195 = .ok (.iconst 4, 1) := by decide +kernel
theorem sX11_delay_195 (k : X w mX11_delay d Q 196 ls (.int (4 : Int32) :: st) P) : X w mX11_delay d Q 195 ls st P := X_iconst (M := mX11_delay) (dX11_delay_195) (by decide) k
theorem dX11_delay_196 : decode cX11_delay 196 = .ok (.iload 6, 2) := by decide +kernel
theorem sX11_delay_196 {l0 l1 l2 l3 l4 l5 l7 l8 l9 : Option Value} {x : Int32} (k : X w mX11_delay d Q 198 [l0, l1, l2, l3, l4, l5, some (.int x), l7, l8, l9] (.int x :: st) P) : X w mX11_delay d Q 196 [l0, l1, l2, l3, l4, l5, some (.int x), l7, l8, l9] st P := X_iload (M := mX11_delay) (dX11_delay_196) rfl k
theorem dX11_delay_198 : decode cX11_delay 198 = .ok (.imul, 1) := by decide +kernel
theorem sX11_delay_198 {x y : Int32} (k : X w mX11_delay d Q 199 ls (.int (x * y) :: st) P) : X w mX11_delay d Q 198 ls (.int y :: .int x :: st) P := X_imul (M := mX11_delay) (dX11_delay_198) k
theorem dX11_delay_199 : decode cX11_delay 199 = .ok (.iload 9, 2) := by decide +kernel
theorem sX11_delay_199 {l0 l1 l2 l3 l4 l5 l6 l7 l8 : Option Value} {x : Int32} (k : X w mX11_delay d Q 201 [l0, l1, l2, l3, l4, l5, l6, l7, l8, some (.int x)] (.int x :: st) P) : X w mX11_delay d Q 199 [l0, l1, l2, l3, l4, l5, l6, l7, l8, some (.int x)] st P := X_iload (M := mX11_delay) (dX11_delay_199) rfl k
theorem dX11_delay_201 : decode cX11_delay 201 = .ok (.iadd, 1) := by decide +kernel
theorem sX11_delay_201 {x y : Int32} (k : X w mX11_delay d Q 202 ls (.int (x + y) :: st) P) : X w mX11_delay d Q 201 ls (.int y :: .int x :: st) P := X_iadd (M := mX11_delay) (dX11_delay_201) k
theorem dX11_delay_202 : decode cX11_delay 202 = .ok (.iconst 1, 1) := by decide +kernel
theorem sX11_delay_202 (k : X w mX11_delay d Q 203 ls (.int (1 : Int32) :: st) P) : X w mX11_delay d Q 202 ls st P := X_iconst (M := mX11_delay) (dX11_delay_202) (by decide) k
theorem dX11_delay_203 : decode cX11_delay 203 = .ok (.iadd, 1) := by decide +kernel
theorem sX11_delay_203 {x y : Int32} (k : X w mX11_delay d Q 204 ls (.int (x + y) :: st) P) : X w mX11_delay d Q 203 ls (.int y :: .int x :: st) P := X_iadd (M := mX11_delay) (dX11_delay_203) k
theorem dX11_delay_204 : decode cX11_delay 204 = .ok (.iaload, 1) := by decide +kernel
theorem sX11_delay_204 {a n : Nat} {f : Nat → Int32} {i : Int32} (hP : P.1 a = some (xA 0 n f)) (hi : vp_in i n) (k : X w mX11_delay d Q 205 ls (.int (f i.toNatClampNeg) :: st) P) : X w mX11_delay d Q 204 ls (.int i :: .ref a :: st) P := X_iald (M := mX11_delay) (dX11_delay_204) hP hi k
theorem dX11_delay_205 : decode cX11_delay 205 = .ok (.i2l, 1) := by decide +kernel
theorem sX11_delay_205 {x : Int32} (k : X w mX11_delay d Q 206 ls (.long x.toInt64 :: st) P) : X w mX11_delay d Q 205 ls (.int x :: st) P := X_i2l (M := mX11_delay) (dX11_delay_205) k
theorem dX11_delay_206 : decode cX11_delay 206 = .ok (.iload 8, 2) := by decide +kernel
theorem sX11_delay_206 {l0 l1 l2 l3 l4 l5 l6 l7 l9 : Option Value} {x : Int32} (k : X w mX11_delay d Q 208 [l0, l1, l2, l3, l4, l5, l6, l7, some (.int x), l9] (.int x :: st) P) : X w mX11_delay d Q 206 [l0, l1, l2, l3, l4, l5, l6, l7, some (.int x), l9] st P := X_iload (M := mX11_delay) (dX11_delay_206) rfl k
theorem dX11_delay_208 : decode cX11_delay 208 = .ok (.i2l, 1) := by decide +kernel
theorem sX11_delay_208 {x : Int32} (k : X w mX11_delay d Q 209 ls (.long x.toInt64 :: st) P) : X w mX11_delay d Q 208 ls (.int x :: st) P := X_i2l (M := mX11_delay) (dX11_delay_208) k
theorem dX11_delay_209 : decode cX11_delay 209 = .ok (.invokestatic 255, 3) := by decide +kernel
theorem sX11_delay_209_g {a0 : Int64} {a1 : Int64} {a2 : Int64} {a3 : Int64} {a4 : Int64} {Qc : Outcome → xH → Prop} (hst : (st.map fun v => v.category).sum ≤ 8) (hC : xC w d mX11_mixed [.long a0, .long a1, .long a2, .long a3, .long a4] P Qc) (kr : ∀ v P1, Qc (.returned v) P1 → X w mX11_delay (d + 1) Q 212 ls (v.toList ++ st) P1) (kt : ∀ q P1, Qc (.threw q) P1 → Xt w mX11_delay (d + 1) Q 209 ls st P1 q) : X w mX11_delay (d + 1) Q 209 ls (.long a4 :: .long a3 :: .long a2 :: .long a1 :: .long a0 :: st) P := X_callS (M := mX11_delay) (MC := mX11_mixed) (As := [.long a0, .long a1, .long a2, .long a3, .long a4]) (dX11_delay_209) calX11_mixed xw_543 xw_544 rfl hC hst kr kt
theorem sX11_delay_209 {a0 : Int64} {a1 : Int64} {a2 : Int64} {a3 : Int64} {a4 : Int64} {r : Int64} {P1 : xH} (hst : (st.map fun v => v.category).sum ≤ 8) (hC : xC w d mX11_mixed [.long a0, .long a1, .long a2, .long a3, .long a4] P (xRet (some (.long r)) P1)) (k : X w mX11_delay (d + 1) Q 212 ls (.long r :: st) P1) : X w mX11_delay (d + 1) Q 209 ls (.long a4 :: .long a3 :: .long a2 :: .long a1 :: .long a0 :: st) P := X_callS (M := mX11_delay) (MC := mX11_mixed) (As := [.long a0, .long a1, .long a2, .long a3, .long a4]) (dX11_delay_209) calX11_mixed xw_543 xw_544 rfl hC hst (fun v P2 h => by obtain ⟨h1, rfl⟩ := h; cases h1; exact k) (fun q P2 h => by cases h.1)
theorem sX11_delay_209_r {a0 : Int64} {a1 : Int64} {a2 : Int64} {a3 : Int64} {a4 : Int64} {r : Int64} {Rp : xH → Prop} (hst : (st.map fun v => v.category).sum ≤ 8) (hC : xC w d mX11_mixed [.long a0, .long a1, .long a2, .long a3, .long a4] P (xRl (some (.long r)) Rp)) (k : ∀ P1, Rp P1 → X w mX11_delay (d + 1) Q 212 ls (.long r :: st) P1) : X w mX11_delay (d + 1) Q 209 ls (.long a4 :: .long a3 :: .long a2 :: .long a1 :: .long a0 :: st) P := X_callS (M := mX11_delay) (MC := mX11_mixed) (As := [.long a0, .long a1, .long a2, .long a3, .long a4]) (dX11_delay_209) calX11_mixed xw_543 xw_544 rfl hC hst (fun v P2 h => by obtain ⟨h1, hR⟩ := h; cases h1; exact k P2 hR) (fun q P2 h => by cases h.1)
theorem sX11_delay_209_t {a0 : Int64} {a1 : Int64} {a2 : Int64} {a3 : Int64} {a4 : Int64} {q : Nat} {P1 : xH} (hst : (st.map fun v => v.category).sum ≤ 8) (hC : xC w d mX11_mixed [.long a0, .long a1, .long a2, .long a3, .long a4] P (xThr q P1)) (hq : Q (.threw q) P1) : X w mX11_delay (d + 1) Q 209 ls (.long a4 :: .long a3 :: .long a2 :: .long a1 :: .long a0 :: st) P := X_callS (M := mX11_delay) (MC := mX11_mixed) (As := [.long a0, .long a1, .long a2, .long a3, .long a4]) (dX11_delay_209) calX11_mixed xw_543 xw_544 rfl hC hst (fun v P2 h => by cases h.1) (fun q2 P2 h => by obtain ⟨h1, rfl⟩ := h; cases h1; exact Xt_out rfl hq)
theorem dX11_delay_212 : decode cX11_delay 212 = .ok (.l2i, 1) := by decide +kernel
theorem sX11_delay_212 {x : Int64} (k : X w mX11_delay d Q 213 ls (.int x.toInt32 :: st) P) : X w mX11_delay d Q 212 ls (.long x :: st) P := X_l2i (M := mX11_delay) (dX11_delay_212) k
theorem dX11_delay_213 : decode cX11_delay 213 = .ok (.ireturn, 1) := by decide +kernel
theorem sX11_delay_213 {v : Int32} (hq : Q (.returned (some (.int v))) P) : X w mX11_delay d Q 213 ls [.int v] P := X_iret (M := mX11_delay) (dX11_delay_213) rfl hq
theorem dX11_power_0 : decode cX11_power 0 = .ok (.aload_n 0, 1) := by decide +kernel
theorem sX11_power_0 {l1 l2 : Option Value} {x : Nat} (k : X w mX11_power d Q 1 [some (.ref x), l1, l2] (.ref x :: st) P) : X w mX11_power d Q 0 [some (.ref x), l1, l2] st P := X_aload_n (M := mX11_power) (dX11_power_0) rfl rfl k
theorem dX11_power_1 : decode cX11_power 1 = .ok (.aload_n 0, 1) := by decide +kernel
theorem sX11_power_1 {l1 l2 : Option Value} {x : Nat} (k : X w mX11_power d Q 2 [some (.ref x), l1, l2] (.ref x :: st) P) : X w mX11_power d Q 1 [some (.ref x), l1, l2] st P := X_aload_n (M := mX11_power) (dX11_power_1) rfl rfl k
theorem dX11_power_2 : decode cX11_power 2 = .ok (.iload_n 1, 1) := by decide +kernel
theorem sX11_power_2 {l0 l2 : Option Value} {x : Int32} (k : X w mX11_power d Q 3 [l0, some (.int x), l2] (.int x :: st) P) : X w mX11_power d Q 2 [l0, some (.int x), l2] st P := X_iload_n (M := mX11_power) (dX11_power_2) rfl rfl k
theorem dX11_power_3 : decode cX11_power 3 = .ok (.invokevirtual 238, 3) := by decide +kernel
theorem sX11_power_3_g {b : Nat} {fs : List Value} {a0 : Int32} {Qc : Outcome → xH → Prop} (hst : (st.map fun v => v.category).sum ≤ 8) (hP : P.1 b = some (xO 9 fs)) (hC : xC w d mX11_isCell [.ref b, .int a0] P Qc) (kr : ∀ v P1, Qc (.returned v) P1 → X w mX11_power (d + 1) Q 6 ls (v.toList ++ st) P1) (kt : ∀ q P1, Qc (.threw q) P1 → Xt w mX11_power (d + 1) Q 3 ls st P1 q) : X w mX11_power (d + 1) Q 3 ls (.int a0 :: .ref b :: st) P := X_callV (M := mX11_power) (MC := mX11_isCell) (As := [.int a0]) (T := TX11) (dX11_power_3) calX11_isCell xw_530 xw_531 xw_532 rfl rfl hP hC hst kr kt
theorem sX11_power_3 {b : Nat} {fs : List Value} {a0 : Int32} {r : Int32} {P1 : xH} (hst : (st.map fun v => v.category).sum ≤ 8) (hP : P.1 b = some (xO 9 fs)) (hC : xC w d mX11_isCell [.ref b, .int a0] P (xRet (some (.int r)) P1)) (k : X w mX11_power (d + 1) Q 6 ls (.int r :: st) P1) : X w mX11_power (d + 1) Q 3 ls (.int a0 :: .ref b :: st) P := X_callV (M := mX11_power) (MC := mX11_isCell) (As := [.int a0]) (T := TX11) (dX11_power_3) calX11_isCell xw_530 xw_531 xw_532 rfl rfl hP hC hst (fun v P2 h => by obtain ⟨h1, rfl⟩ := h; cases h1; exact k) (fun q P2 h => by cases h.1)
theorem sX11_power_3_r {b : Nat} {fs : List Value} {a0 : Int32} {r : Int32} {Rp : xH → Prop} (hst : (st.map fun v => v.category).sum ≤ 8) (hP : P.1 b = some (xO 9 fs)) (hC : xC w d mX11_isCell [.ref b, .int a0] P (xRl (some (.int r)) Rp)) (k : ∀ P1, Rp P1 → X w mX11_power (d + 1) Q 6 ls (.int r :: st) P1) : X w mX11_power (d + 1) Q 3 ls (.int a0 :: .ref b :: st) P := X_callV (M := mX11_power) (MC := mX11_isCell) (As := [.int a0]) (T := TX11) (dX11_power_3) calX11_isCell xw_530 xw_531 xw_532 rfl rfl hP hC hst (fun v P2 h => by obtain ⟨h1, hR⟩ := h; cases h1; exact k P2 hR) (fun q P2 h => by cases h.1)
theorem sX11_power_3_t {b : Nat} {fs : List Value} {a0 : Int32} {q : Nat} {P1 : xH} (hst : (st.map fun v => v.category).sum ≤ 8) (hP : P.1 b = some (xO 9 fs)) (hC : xC w d mX11_isCell [.ref b, .int a0] P (xThr q P1)) (hq : Q (.threw q) P1) : X w mX11_power (d + 1) Q 3 ls (.int a0 :: .ref b :: st) P := X_callV (M := mX11_power) (MC := mX11_isCell) (As := [.int a0]) (T := TX11) (dX11_power_3) calX11_isCell xw_530 xw_531 xw_532 rfl rfl hP hC hst (fun v P2 h => by cases h.1) (fun q2 P2 h => by obtain ⟨h1, rfl⟩ := h; cases h1; exact Xt_out rfl hq)
theorem dX11_power_6 : decode cX11_power 6 = .ok (.ifCond .eq 27, 3) := by decide +kernel
theorem sX11_power_6 {x : Int32} (kt : x = 0 → X w mX11_power d Q 33 ls st P) (kf : ¬ x = 0 → X w mX11_power d Q 9 ls st P) : X w mX11_power d Q 6 ls (.int x :: st) P := X_if_eq (M := mX11_power) (dX11_power_6) (by decide) kt kf
theorem dX11_power_9 : decode cX11_power 9 = .ok (.iload_n 2, 1) := by decide +kernel
theorem sX11_power_9 {l0 l1 : Option Value} {x : Int32} (k : X w mX11_power d Q 10 [l0, l1, some (.int x)] (.int x :: st) P) : X w mX11_power d Q 9 [l0, l1, some (.int x)] st P := X_iload_n (M := mX11_power) (dX11_power_9) rfl rfl k
theorem dX11_power_10 : decode cX11_power 10 = .ok (.ifCond .lt 23, 3) := by decide +kernel
theorem sX11_power_10 {x : Int32} (kt : x < 0 → X w mX11_power d Q 33 ls st P) (kf : ¬ x < 0 → X w mX11_power d Q 13 ls st P) : X w mX11_power d Q 10 ls (.int x :: st) P := X_if_lt (M := mX11_power) (dX11_power_10) (by decide) kt kf
theorem dX11_power_13 : decode cX11_power 13 = .ok (.iload_n 2, 1) := by decide +kernel
theorem sX11_power_13 {l0 l1 : Option Value} {x : Int32} (k : X w mX11_power d Q 14 [l0, l1, some (.int x)] (.int x :: st) P) : X w mX11_power d Q 13 [l0, l1, some (.int x)] st P := X_iload_n (M := mX11_power) (dX11_power_13) rfl rfl k
theorem dX11_power_14 : decode cX11_power 14 = .ok (.iconst 1, 1) := by decide +kernel
theorem sX11_power_14 (k : X w mX11_power d Q 15 ls (.int (1 : Int32) :: st) P) : X w mX11_power d Q 14 ls st P := X_iconst (M := mX11_power) (dX11_power_14) (by decide) k
theorem dX11_power_15 : decode cX11_power 15 = .ok (.aload_n 0, 1) := by decide +kernel
theorem sX11_power_15 {l1 l2 : Option Value} {x : Nat} (k : X w mX11_power d Q 16 [some (.ref x), l1, l2] (.ref x :: st) P) : X w mX11_power d Q 15 [some (.ref x), l1, l2] st P := X_aload_n (M := mX11_power) (dX11_power_15) rfl rfl k
theorem dX11_power_16 : decode cX11_power 16 = .ok (.getfield 47, 3) := by decide +kernel
theorem sX11_power_16 {a : Nat} {fs : List Value} {v : Nat} (hP : P.1 a = some (xO 9 fs)) (hv : fs[15]? = some (.ref v)) (k : X w mX11_power d Q 19 ls (.ref v :: st) P) : X w mX11_power d Q 16 ls (.ref a :: st) P := X_get (M := mX11_power) (j := 15) (T := TX11) (dX11_power_16) rfl (by decide) x_in11 xw_416 hP hv k
theorem dX11_power_19 : decode cX11_power 19 = .ok (.bipush 12, 2) := by decide +kernel
theorem sX11_power_19 (k : X w mX11_power d Q 21 ls (.int (12 : Int32) :: st) P) : X w mX11_power d Q 19 ls st P := X_bipush (M := mX11_power) (dX11_power_19) (by decide) k
theorem dX11_power_21 : decode cX11_power 21 = .ok (.aload_n 0, 1) := by decide +kernel
theorem sX11_power_21 {l1 l2 : Option Value} {x : Nat} (k : X w mX11_power d Q 22 [some (.ref x), l1, l2] (.ref x :: st) P) : X w mX11_power d Q 21 [some (.ref x), l1, l2] st P := X_aload_n (M := mX11_power) (dX11_power_21) rfl rfl k
theorem dX11_power_22 : decode cX11_power 22 = .ok (.getfield 226, 3) := by decide +kernel
theorem sX11_power_22 {a : Nat} {fs : List Value} {v : Int32} (hP : P.1 a = some (xO 9 fs)) (hv : fs[3]? = some (.int v)) (k : X w mX11_power d Q 25 ls (.int v :: st) P) : X w mX11_power d Q 22 ls (.ref a :: st) P := X_get (M := mX11_power) (j := 3) (T := TX11) (dX11_power_22) rfl (by decide) x_in11 xw_521 hP hv k
theorem dX11_power_25 : decode cX11_power 25 = .ok (.imul, 1) := by decide +kernel
theorem sX11_power_25 {x y : Int32} (k : X w mX11_power d Q 26 ls (.int (x * y) :: st) P) : X w mX11_power d Q 25 ls (.int y :: .int x :: st) P := X_imul (M := mX11_power) (dX11_power_25) k
theorem dX11_power_26 : decode cX11_power 26 = .ok (.iload_n 1, 1) := by decide +kernel
theorem sX11_power_26 {l0 l2 : Option Value} {x : Int32} (k : X w mX11_power d Q 27 [l0, some (.int x), l2] (.int x :: st) P) : X w mX11_power d Q 26 [l0, some (.int x), l2] st P := X_iload_n (M := mX11_power) (dX11_power_26) rfl rfl k
theorem dX11_power_27 : decode cX11_power 27 = .ok (.iadd, 1) := by decide +kernel
theorem sX11_power_27 {x y : Int32} (k : X w mX11_power d Q 28 ls (.int (x + y) :: st) P) : X w mX11_power d Q 27 ls (.int y :: .int x :: st) P := X_iadd (M := mX11_power) (dX11_power_27) k
theorem dX11_power_28 : decode cX11_power 28 = .ok (.iaload, 1) := by decide +kernel
theorem sX11_power_28 {a n : Nat} {f : Nat → Int32} {i : Int32} (hP : P.1 a = some (xA 0 n f)) (hi : vp_in i n) (k : X w mX11_power d Q 29 ls (.int (f i.toNatClampNeg) :: st) P) : X w mX11_power d Q 28 ls (.int i :: .ref a :: st) P := X_iald (M := mX11_power) (dX11_power_28) hP hi k
theorem dX11_power_29 : decode cX11_power 29 = .ok (.ishl, 1) := by decide +kernel
theorem sX11_power_29 {x y : Int32} (k : X w mX11_power d Q 30 ls (.int (x <<< (y &&& 31)) :: st) P) : X w mX11_power d Q 29 ls (.int y :: .int x :: st) P := X_ishl (M := mX11_power) (dX11_power_29) k
theorem dX11_power_30 : decode cX11_power 30 = .ok (.if_icmp .lt 7, 3) := by decide +kernel
theorem sX11_power_30 {x y : Int32} (kt : x < y → X w mX11_power d Q 37 ls st P) (kf : ¬ x < y → X w mX11_power d Q 33 ls st P) : X w mX11_power d Q 30 ls (.int y :: .int x :: st) P := X_icmp_lt (M := mX11_power) (dX11_power_30) (by decide) kt kf
theorem dX11_power_33 : decode cX11_power 33 = .ok (.iconst 1, 1) := by decide +kernel
theorem sX11_power_33 (k : X w mX11_power d Q 34 ls (.int (1 : Int32) :: st) P) : X w mX11_power d Q 33 ls st P := X_iconst (M := mX11_power) (dX11_power_33) (by decide) k
theorem dX11_power_34 : decode cX11_power 34 = .ok (.goto 4, 3) := by decide +kernel
theorem sX11_power_34 (k : X w mX11_power d Q 38 ls st P) : X w mX11_power d Q 34 ls st P := X_goto (M := mX11_power) (dX11_power_34) (by decide) k
theorem dX11_power_37 : decode cX11_power 37 = .ok (.iconst 0, 1) := by decide +kernel
theorem sX11_power_37 (k : X w mX11_power d Q 38 ls (.int (0 : Int32) :: st) P) : X w mX11_power d Q 37 ls st P := X_iconst (M := mX11_power) (dX11_power_37) (by decide) k
theorem dX11_power_38 : decode cX11_power 38 = .ok (.putfield 84, 3) := by decide +kernel
theorem sX11_power_38 {a : Nat} {fs : List Value} {v : Int32} (hP : P.1 a = some (xO 9 fs)) (hl : 0 < fs.length) (k : X w mX11_power d Q 41 ls st (xs P a (xO 9 (fs.set 0 (.int v))))) : X w mX11_power d Q 38 ls (.int v :: .ref a :: st) P := X_put (M := mX11_power) (j := 0) (T := TX11) (dX11_power_38) rfl (by decide) x_c11 xw_428 rfl hP rfl rfl hl k
theorem dX11_power_41 : decode cX11_power 41 = .ok (.aload_n 0, 1) := by decide +kernel
theorem sX11_power_41 {l1 l2 : Option Value} {x : Nat} (k : X w mX11_power d Q 42 [some (.ref x), l1, l2] (.ref x :: st) P) : X w mX11_power d Q 41 [some (.ref x), l1, l2] st P := X_aload_n (M := mX11_power) (dX11_power_41) rfl rfl k
theorem dX11_power_42 : decode cX11_power 42 = .ok (.getfield 84, 3) := by decide +kernel
theorem sX11_power_42 {a : Nat} {fs : List Value} {v : Int32} (hP : P.1 a = some (xO 9 fs)) (hv : fs[0]? = some (.int v)) (k : X w mX11_power d Q 45 ls (.int v :: st) P) : X w mX11_power d Q 42 ls (.ref a :: st) P := X_get (M := mX11_power) (j := 0) (T := TX11) (dX11_power_42) rfl (by decide) x_in11 xw_428 hP hv k
theorem dX11_power_45 : decode cX11_power 45 = .ok (.ifCond .le 7, 3) := by decide +kernel
theorem sX11_power_45 {x : Int32} (kt : x ≤ 0 → X w mX11_power d Q 52 ls st P) (kf : ¬ x ≤ 0 → X w mX11_power d Q 48 ls st P) : X w mX11_power d Q 45 ls (.int x :: st) P := X_if_le (M := mX11_power) (dX11_power_45) (by decide) kt kf
theorem dX11_power_48 : decode cX11_power 48 = .ok (.iconst 0, 1) := by decide +kernel
theorem sX11_power_48 (k : X w mX11_power d Q 49 ls (.int (0 : Int32) :: st) P) : X w mX11_power d Q 48 ls st P := X_iconst (M := mX11_power) (dX11_power_48) (by decide) k
theorem dX11_power_49 : decode cX11_power 49 = .ok (.goto 22, 3) := by decide +kernel
theorem sX11_power_49 (k : X w mX11_power d Q 71 ls st P) : X w mX11_power d Q 49 ls st P := X_goto (M := mX11_power) (dX11_power_49) (by decide) k
theorem dX11_power_52 : decode cX11_power 52 = .ok (.aload_n 0, 1) := by decide +kernel
theorem sX11_power_52 {l1 l2 : Option Value} {x : Nat} (k : X w mX11_power d Q 53 [some (.ref x), l1, l2] (.ref x :: st) P) : X w mX11_power d Q 52 [some (.ref x), l1, l2] st P := X_aload_n (M := mX11_power) (dX11_power_52) rfl rfl k
theorem dX11_power_53 : decode cX11_power 53 = .ok (.getfield 69, 3) := by decide +kernel
theorem sX11_power_53 {a : Nat} {fs : List Value} {v : Nat} (hP : P.1 a = some (xO 9 fs)) (hv : fs[22]? = some (.ref v)) (k : X w mX11_power d Q 56 ls (.ref v :: st) P) : X w mX11_power d Q 53 ls (.ref a :: st) P := X_get (M := mX11_power) (j := 22) (T := TX11) (dX11_power_53) rfl (by decide) x_in11 xw_423 hP hv k
theorem dX11_power_56 : decode cX11_power 56 = .ok (.bipush 64, 2) := by decide +kernel
theorem sX11_power_56 (k : X w mX11_power d Q 58 ls (.int (64 : Int32) :: st) P) : X w mX11_power d Q 56 ls st P := X_bipush (M := mX11_power) (dX11_power_56) (by decide) k
theorem dX11_power_58 : decode cX11_power 58 = .ok (.bipush 12, 2) := by decide +kernel
theorem sX11_power_58 (k : X w mX11_power d Q 60 ls (.int (12 : Int32) :: st) P) : X w mX11_power d Q 58 ls st P := X_bipush (M := mX11_power) (dX11_power_58) (by decide) k
theorem dX11_power_60 : decode cX11_power 60 = .ok (.aload_n 0, 1) := by decide +kernel
theorem sX11_power_60 {l1 l2 : Option Value} {x : Nat} (k : X w mX11_power d Q 61 [some (.ref x), l1, l2] (.ref x :: st) P) : X w mX11_power d Q 60 [some (.ref x), l1, l2] st P := X_aload_n (M := mX11_power) (dX11_power_60) rfl rfl k
theorem dX11_power_61 : decode cX11_power 61 = .ok (.getfield 226, 3) := by decide +kernel
theorem sX11_power_61 {a : Nat} {fs : List Value} {v : Int32} (hP : P.1 a = some (xO 9 fs)) (hv : fs[3]? = some (.int v)) (k : X w mX11_power d Q 64 ls (.int v :: st) P) : X w mX11_power d Q 61 ls (.ref a :: st) P := X_get (M := mX11_power) (j := 3) (T := TX11) (dX11_power_61) rfl (by decide) x_in11 xw_521 hP hv k
theorem dX11_power_64 : decode cX11_power 64 = .ok (.imul, 1) := by decide +kernel
theorem sX11_power_64 {x y : Int32} (k : X w mX11_power d Q 65 ls (.int (x * y) :: st) P) : X w mX11_power d Q 64 ls (.int y :: .int x :: st) P := X_imul (M := mX11_power) (dX11_power_64) k
theorem dX11_power_65 : decode cX11_power 65 = .ok (.iload_n 1, 1) := by decide +kernel
theorem sX11_power_65 {l0 l2 : Option Value} {x : Int32} (k : X w mX11_power d Q 66 [l0, some (.int x), l2] (.int x :: st) P) : X w mX11_power d Q 65 [l0, some (.int x), l2] st P := X_iload_n (M := mX11_power) (dX11_power_65) rfl rfl k
theorem dX11_power_66 : decode cX11_power 66 = .ok (.iadd, 1) := by decide +kernel
theorem sX11_power_66 {x y : Int32} (k : X w mX11_power d Q 67 ls (.int (x + y) :: st) P) : X w mX11_power d Q 66 ls (.int y :: .int x :: st) P := X_iadd (M := mX11_power) (dX11_power_66) k
theorem dX11_power_67 : decode cX11_power 67 = .ok (.imul, 1) := by decide +kernel
theorem sX11_power_67 {x y : Int32} (k : X w mX11_power d Q 68 ls (.int (x * y) :: st) P) : X w mX11_power d Q 67 ls (.int y :: .int x :: st) P := X_imul (M := mX11_power) (dX11_power_67) k
theorem dX11_power_68 : decode cX11_power 68 = .ok (.iload_n 2, 1) := by decide +kernel
theorem sX11_power_68 {l0 l1 : Option Value} {x : Int32} (k : X w mX11_power d Q 69 [l0, l1, some (.int x)] (.int x :: st) P) : X w mX11_power d Q 68 [l0, l1, some (.int x)] st P := X_iload_n (M := mX11_power) (dX11_power_68) rfl rfl k
theorem dX11_power_69 : decode cX11_power 69 = .ok (.iadd, 1) := by decide +kernel
theorem sX11_power_69 {x y : Int32} (k : X w mX11_power d Q 70 ls (.int (x + y) :: st) P) : X w mX11_power d Q 69 ls (.int y :: .int x :: st) P := X_iadd (M := mX11_power) (dX11_power_69) k
theorem dX11_power_70 : decode cX11_power 70 = .ok (.iaload, 1) := by decide +kernel
theorem sX11_power_70 {a n : Nat} {f : Nat → Int32} {i : Int32} (hP : P.1 a = some (xA 0 n f)) (hi : vp_in i n) (k : X w mX11_power d Q 71 ls (.int (f i.toNatClampNeg) :: st) P) : X w mX11_power d Q 70 ls (.int i :: .ref a :: st) P := X_iald (M := mX11_power) (dX11_power_70) hP hi k
theorem dX11_power_71 : decode cX11_power 71 = .ok (.ireturn, 1) := by decide +kernel
theorem sX11_power_71 {v : Int32} (hq : Q (.returned (some (.int v))) P) : X w mX11_power d Q 71 ls [.int v] P := X_iret (M := mX11_power) (dX11_power_71) rfl hq
theorem dX11_fits_0 : decode cX11_fits 0 = .ok (.aload_n 0, 1) := by decide +kernel
theorem sX11_fits_0 {l1 l2 l3 l4 l5 l6 l7 : Option Value} {x : Nat} (k : X w mX11_fits d Q 1 [some (.ref x), l1, l2, l3, l4, l5, l6, l7] (.ref x :: st) P) : X w mX11_fits d Q 0 [some (.ref x), l1, l2, l3, l4, l5, l6, l7] st P := X_aload_n (M := mX11_fits) (dX11_fits_0) rfl rfl k
theorem dX11_fits_1 : decode cX11_fits 1 = .ok (.getfield 47, 3) := by decide +kernel
theorem sX11_fits_1 {a : Nat} {fs : List Value} {v : Nat} (hP : P.1 a = some (xO 9 fs)) (hv : fs[15]? = some (.ref v)) (k : X w mX11_fits d Q 4 ls (.ref v :: st) P) : X w mX11_fits d Q 1 ls (.ref a :: st) P := X_get (M := mX11_fits) (j := 15) (T := TX11) (dX11_fits_1) rfl (by decide) x_in11 xw_416 hP hv k
theorem dX11_fits_4 : decode cX11_fits 4 = .ok (.iload_n 1, 1) := by decide +kernel
theorem sX11_fits_4 {l0 l2 l3 l4 l5 l6 l7 : Option Value} {x : Int32} (k : X w mX11_fits d Q 5 [l0, some (.int x), l2, l3, l4, l5, l6, l7] (.int x :: st) P) : X w mX11_fits d Q 4 [l0, some (.int x), l2, l3, l4, l5, l6, l7] st P := X_iload_n (M := mX11_fits) (dX11_fits_4) rfl rfl k
theorem dX11_fits_5 : decode cX11_fits 5 = .ok (.iaload, 1) := by decide +kernel
theorem sX11_fits_5 {a n : Nat} {f : Nat → Int32} {i : Int32} (hP : P.1 a = some (xA 0 n f)) (hi : vp_in i n) (k : X w mX11_fits d Q 6 ls (.int (f i.toNatClampNeg) :: st) P) : X w mX11_fits d Q 5 ls (.int i :: .ref a :: st) P := X_iald (M := mX11_fits) (dX11_fits_5) hP hi k
theorem dX11_fits_6 : decode cX11_fits 6 = .ok (.istore_n 3, 1) := by decide +kernel
theorem sX11_fits_6 {l0 l1 l2 l3 l4 l5 l6 l7 : Option Value} {x : Int32} (hn : xnl l2 = true) (k : X w mX11_fits d Q 7 [l0, l1, l2, some (.int x), l4, l5, l6, l7] st P) : X w mX11_fits d Q 6 [l0, l1, l2, l3, l4, l5, l6, l7] (.int x :: st) P := X_istore_n (M := mX11_fits) (dX11_fits_6) rfl (by decide) rfl (xnl_p (ls := [l0, l1, l2, l3, l4, l5, l6, l7]) (j := 2) rfl hn) k
theorem dX11_fits_7 : decode cX11_fits 7 = .ok (.iconst 1, 1) := by decide +kernel
theorem sX11_fits_7 (k : X w mX11_fits d Q 8 ls (.int (1 : Int32) :: st) P) : X w mX11_fits d Q 7 ls st P := X_iconst (M := mX11_fits) (dX11_fits_7) (by decide) k
theorem dX11_fits_8 : decode cX11_fits 8 = .ok (.istore 4, 2) := by decide +kernel
theorem sX11_fits_8 {l0 l1 l2 l3 l4 l5 l6 l7 : Option Value} {x : Int32} (hn : xnl l3 = true) (k : X w mX11_fits d Q 10 [l0, l1, l2, l3, some (.int x), l5, l6, l7] st P) : X w mX11_fits d Q 8 [l0, l1, l2, l3, l4, l5, l6, l7] (.int x :: st) P := X_istore (M := mX11_fits) (dX11_fits_8) (by decide) rfl (xnl_p (ls := [l0, l1, l2, l3, l4, l5, l6, l7]) (j := 3) rfl hn) k
theorem dX11_fits_10 : decode cX11_fits 10 = .ok (.iconst 0, 1) := by decide +kernel
theorem sX11_fits_10 (k : X w mX11_fits d Q 11 ls (.int (0 : Int32) :: st) P) : X w mX11_fits d Q 10 ls st P := X_iconst (M := mX11_fits) (dX11_fits_10) (by decide) k
theorem dX11_fits_11 : decode cX11_fits 11 = .ok (.istore 5, 2) := by decide +kernel
theorem sX11_fits_11 {l0 l1 l2 l3 l4 l5 l6 l7 : Option Value} {x : Int32} (hn : xnl l4 = true) (k : X w mX11_fits d Q 13 [l0, l1, l2, l3, l4, some (.int x), l6, l7] st P) : X w mX11_fits d Q 11 [l0, l1, l2, l3, l4, l5, l6, l7] (.int x :: st) P := X_istore (M := mX11_fits) (dX11_fits_11) (by decide) rfl (xnl_p (ls := [l0, l1, l2, l3, l4, l5, l6, l7]) (j := 4) rfl hn) k
theorem dX11_fits_13 : decode cX11_fits 13 = .ok (.iload 5, 2) := by decide +kernel
theorem sX11_fits_13 {l0 l1 l2 l3 l4 l6 l7 : Option Value} {x : Int32} (k : X w mX11_fits d Q 15 [l0, l1, l2, l3, l4, some (.int x), l6, l7] (.int x :: st) P) : X w mX11_fits d Q 13 [l0, l1, l2, l3, l4, some (.int x), l6, l7] st P := X_iload (M := mX11_fits) (dX11_fits_13) rfl k
theorem dX11_fits_15 : decode cX11_fits 15 = .ok (.iconst 1, 1) := by decide +kernel
theorem sX11_fits_15 (k : X w mX11_fits d Q 16 ls (.int (1 : Int32) :: st) P) : X w mX11_fits d Q 15 ls st P := X_iconst (M := mX11_fits) (dX11_fits_15) (by decide) k
theorem dX11_fits_16 : decode cX11_fits 16 = .ok (.iload_n 3, 1) := by decide +kernel
theorem sX11_fits_16 {l0 l1 l2 l4 l5 l6 l7 : Option Value} {x : Int32} (k : X w mX11_fits d Q 17 [l0, l1, l2, some (.int x), l4, l5, l6, l7] (.int x :: st) P) : X w mX11_fits d Q 16 [l0, l1, l2, some (.int x), l4, l5, l6, l7] st P := X_iload_n (M := mX11_fits) (dX11_fits_16) rfl rfl k
theorem dX11_fits_17 : decode cX11_fits 17 = .ok (.ishl, 1) := by decide +kernel
theorem sX11_fits_17 {x y : Int32} (k : X w mX11_fits d Q 18 ls (.int (x <<< (y &&& 31)) :: st) P) : X w mX11_fits d Q 17 ls (.int y :: .int x :: st) P := X_ishl (M := mX11_fits) (dX11_fits_17) k
theorem dX11_fits_18 : decode cX11_fits 18 = .ok (.if_icmp .ge 89, 3) := by decide +kernel
theorem sX11_fits_18 {x y : Int32} (kt : y ≤ x → X w mX11_fits d Q 107 ls st P) (kf : ¬ y ≤ x → X w mX11_fits d Q 21 ls st P) : X w mX11_fits d Q 18 ls (.int y :: .int x :: st) P := X_icmp_ge (M := mX11_fits) (dX11_fits_18) (by decide) kt kf
theorem dX11_fits_21 : decode cX11_fits 21 = .ok (.iload 4, 2) := by decide +kernel
theorem sX11_fits_21 {l0 l1 l2 l3 l5 l6 l7 : Option Value} {x : Int32} (k : X w mX11_fits d Q 23 [l0, l1, l2, l3, some (.int x), l5, l6, l7] (.int x :: st) P) : X w mX11_fits d Q 21 [l0, l1, l2, l3, some (.int x), l5, l6, l7] st P := X_iload (M := mX11_fits) (dX11_fits_21) rfl k
theorem dX11_fits_23 : decode cX11_fits 23 = .ok (.ifCond .eq 84, 3) := by decide +kernel
theorem sX11_fits_23 {x : Int32} (kt : x = 0 → X w mX11_fits d Q 107 ls st P) (kf : ¬ x = 0 → X w mX11_fits d Q 26 ls st P) : X w mX11_fits d Q 23 ls (.int x :: st) P := X_if_eq (M := mX11_fits) (dX11_fits_23) (by decide) kt kf
theorem dX11_fits_26 : decode cX11_fits 26 = .ok (.iconst 0, 1) := by decide +kernel
theorem sX11_fits_26 (k : X w mX11_fits d Q 27 ls (.int (0 : Int32) :: st) P) : X w mX11_fits d Q 26 ls st P := X_iconst (M := mX11_fits) (dX11_fits_26) (by decide) k
theorem dX11_fits_27 : decode cX11_fits 27 = .ok (.istore 6, 2) := by decide +kernel
theorem sX11_fits_27 {l0 l1 l2 l3 l4 l5 l6 l7 : Option Value} {x : Int32} (hn : xnl l5 = true) (k : X w mX11_fits d Q 29 [l0, l1, l2, l3, l4, l5, some (.int x), l7] st P) : X w mX11_fits d Q 27 [l0, l1, l2, l3, l4, l5, l6, l7] (.int x :: st) P := X_istore (M := mX11_fits) (dX11_fits_27) (by decide) rfl (xnl_p (ls := [l0, l1, l2, l3, l4, l5, l6, l7]) (j := 5) rfl hn) k
theorem dX11_fits_29 : decode cX11_fits 29 = .ok (.iconst 0, 1) := by decide +kernel
theorem sX11_fits_29 (k : X w mX11_fits d Q 30 ls (.int (0 : Int32) :: st) P) : X w mX11_fits d Q 29 ls st P := X_iconst (M := mX11_fits) (dX11_fits_29) (by decide) k
theorem dX11_fits_30 : decode cX11_fits 30 = .ok (.istore 7, 2) := by decide +kernel
theorem sX11_fits_30 {l0 l1 l2 l3 l4 l5 l6 l7 : Option Value} {x : Int32} (hn : xnl l6 = true) (k : X w mX11_fits d Q 32 [l0, l1, l2, l3, l4, l5, l6, some (.int x)] st P) : X w mX11_fits d Q 30 [l0, l1, l2, l3, l4, l5, l6, l7] (.int x :: st) P := X_istore (M := mX11_fits) (dX11_fits_30) (by decide) rfl (xnl_p (ls := [l0, l1, l2, l3, l4, l5, l6, l7]) (j := 6) rfl hn) k
theorem dX11_fits_32 : decode cX11_fits 32 = .ok (.iload 7, 2) := by decide +kernel
theorem sX11_fits_32 {l0 l1 l2 l3 l4 l5 l6 : Option Value} {x : Int32} (k : X w mX11_fits d Q 34 [l0, l1, l2, l3, l4, l5, l6, some (.int x)] (.int x :: st) P) : X w mX11_fits d Q 32 [l0, l1, l2, l3, l4, l5, l6, some (.int x)] st P := X_iload (M := mX11_fits) (dX11_fits_32) rfl k
theorem dX11_fits_34 : decode cX11_fits 34 = .ok (.iload_n 3, 1) := by decide +kernel
theorem sX11_fits_34 {l0 l1 l2 l4 l5 l6 l7 : Option Value} {x : Int32} (k : X w mX11_fits d Q 35 [l0, l1, l2, some (.int x), l4, l5, l6, l7] (.int x :: st) P) : X w mX11_fits d Q 34 [l0, l1, l2, some (.int x), l4, l5, l6, l7] st P := X_iload_n (M := mX11_fits) (dX11_fits_34) rfl rfl k
theorem dX11_fits_35 : decode cX11_fits 35 = .ok (.if_icmp .ge 29, 3) := by decide +kernel
theorem sX11_fits_35 {x y : Int32} (kt : y ≤ x → X w mX11_fits d Q 64 ls st P) (kf : ¬ y ≤ x → X w mX11_fits d Q 38 ls st P) : X w mX11_fits d Q 35 ls (.int y :: .int x :: st) P := X_icmp_ge (M := mX11_fits) (dX11_fits_35) (by decide) kt kf
theorem dX11_fits_38 : decode cX11_fits 38 = .ok (.iload 6, 2) := by decide +kernel
theorem sX11_fits_38 {l0 l1 l2 l3 l4 l5 l7 : Option Value} {x : Int32} (k : X w mX11_fits d Q 40 [l0, l1, l2, l3, l4, l5, some (.int x), l7] (.int x :: st) P) : X w mX11_fits d Q 38 [l0, l1, l2, l3, l4, l5, some (.int x), l7] st P := X_iload (M := mX11_fits) (dX11_fits_38) rfl k
theorem dX11_fits_40 : decode cX11_fits 40 = .ok (.iload 5, 2) := by decide +kernel
theorem sX11_fits_40 {l0 l1 l2 l3 l4 l6 l7 : Option Value} {x : Int32} (k : X w mX11_fits d Q 42 [l0, l1, l2, l3, l4, some (.int x), l6, l7] (.int x :: st) P) : X w mX11_fits d Q 40 [l0, l1, l2, l3, l4, some (.int x), l6, l7] st P := X_iload (M := mX11_fits) (dX11_fits_40) rfl k
theorem dX11_fits_42 : decode cX11_fits 42 = .ok (.iload 7, 2) := by decide +kernel
theorem sX11_fits_42 {l0 l1 l2 l3 l4 l5 l6 : Option Value} {x : Int32} (k : X w mX11_fits d Q 44 [l0, l1, l2, l3, l4, l5, l6, some (.int x)] (.int x :: st) P) : X w mX11_fits d Q 42 [l0, l1, l2, l3, l4, l5, l6, some (.int x)] st P := X_iload (M := mX11_fits) (dX11_fits_42) rfl k
theorem dX11_fits_44 : decode cX11_fits 44 = .ok (.ishr, 1) := by decide +kernel
theorem sX11_fits_44 {x y : Int32} (k : X w mX11_fits d Q 45 ls (.int (x >>> (y &&& 31)) :: st) P) : X w mX11_fits d Q 44 ls (.int y :: .int x :: st) P := X_ishr (M := mX11_fits) (dX11_fits_44) k
theorem dX11_fits_45 : decode cX11_fits 45 = .ok (.iconst 1, 1) := by decide +kernel
theorem sX11_fits_45 (k : X w mX11_fits d Q 46 ls (.int (1 : Int32) :: st) P) : X w mX11_fits d Q 45 ls st P := X_iconst (M := mX11_fits) (dX11_fits_45) (by decide) k
theorem dX11_fits_46 : decode cX11_fits 46 = .ok (.iand, 1) := by decide +kernel
theorem sX11_fits_46 {x y : Int32} (k : X w mX11_fits d Q 47 ls (.int (x &&& y) :: st) P) : X w mX11_fits d Q 46 ls (.int y :: .int x :: st) P := X_iand (M := mX11_fits) (dX11_fits_46) k
theorem dX11_fits_47 : decode cX11_fits 47 = .ok (.aload_n 0, 1) := by decide +kernel
theorem sX11_fits_47 {l1 l2 l3 l4 l5 l6 l7 : Option Value} {x : Nat} (k : X w mX11_fits d Q 48 [some (.ref x), l1, l2, l3, l4, l5, l6, l7] (.ref x :: st) P) : X w mX11_fits d Q 47 [some (.ref x), l1, l2, l3, l4, l5, l6, l7] st P := X_aload_n (M := mX11_fits) (dX11_fits_47) rfl rfl k
theorem dX11_fits_48 : decode cX11_fits 48 = .ok (.getfield 78, 3) := by decide +kernel
theorem sX11_fits_48 {a : Nat} {fs : List Value} {v : Nat} (hP : P.1 a = some (xO 9 fs)) (hv : fs[35]? = some (.ref v)) (k : X w mX11_fits d Q 51 ls (.ref v :: st) P) : X w mX11_fits d Q 48 ls (.ref a :: st) P := X_get (M := mX11_fits) (j := 35) (T := TX11) (dX11_fits_48) rfl (by decide) x_in11 xw_426 hP hv k
theorem dX11_fits_51 : decode cX11_fits 51 = .ok (.iload 7, 2) := by decide +kernel
theorem sX11_fits_51 {l0 l1 l2 l3 l4 l5 l6 : Option Value} {x : Int32} (k : X w mX11_fits d Q 53 [l0, l1, l2, l3, l4, l5, l6, some (.int x)] (.int x :: st) P) : X w mX11_fits d Q 51 [l0, l1, l2, l3, l4, l5, l6, some (.int x)] st P := X_iload (M := mX11_fits) (dX11_fits_51) rfl k
theorem dX11_fits_53 : decode cX11_fits 53 = .ok (.iaload, 1) := by decide +kernel
theorem sX11_fits_53 {a n : Nat} {f : Nat → Int32} {i : Int32} (hP : P.1 a = some (xA 0 n f)) (hi : vp_in i n) (k : X w mX11_fits d Q 54 ls (.int (f i.toNatClampNeg) :: st) P) : X w mX11_fits d Q 53 ls (.int i :: .ref a :: st) P := X_iald (M := mX11_fits) (dX11_fits_53) hP hi k
theorem dX11_fits_54 : decode cX11_fits 54 = .ok (.ishl, 1) := by decide +kernel
theorem sX11_fits_54 {x y : Int32} (k : X w mX11_fits d Q 55 ls (.int (x <<< (y &&& 31)) :: st) P) : X w mX11_fits d Q 54 ls (.int y :: .int x :: st) P := X_ishl (M := mX11_fits) (dX11_fits_54) k
theorem dX11_fits_55 : decode cX11_fits 55 = .ok (.ior, 1) := by decide +kernel
theorem sX11_fits_55 {x y : Int32} (k : X w mX11_fits d Q 56 ls (.int (x ||| y) :: st) P) : X w mX11_fits d Q 55 ls (.int y :: .int x :: st) P := X_ior (M := mX11_fits) (dX11_fits_55) k
theorem dX11_fits_56 : decode cX11_fits 56 = .ok (.istore 6, 2) := by decide +kernel
theorem sX11_fits_56 {l0 l1 l2 l3 l4 l5 l6 l7 : Option Value} {x : Int32} (hn : xnl l5 = true) (k : X w mX11_fits d Q 58 [l0, l1, l2, l3, l4, l5, some (.int x), l7] st P) : X w mX11_fits d Q 56 [l0, l1, l2, l3, l4, l5, l6, l7] (.int x :: st) P := X_istore (M := mX11_fits) (dX11_fits_56) (by decide) rfl (xnl_p (ls := [l0, l1, l2, l3, l4, l5, l6, l7]) (j := 5) rfl hn) k
theorem dX11_fits_58 : decode cX11_fits 58 = .ok (.iinc 7 1, 3) := by decide +kernel
theorem sX11_fits_58 {l0 l1 l2 l3 l4 l5 l6 : Option Value} {x : Int32} (hn : xnl l6 = true) (k : X w mX11_fits d Q 61 [l0, l1, l2, l3, l4, l5, l6, some (.int (x + (1 : Int32)))] st P) : X w mX11_fits d Q 58 [l0, l1, l2, l3, l4, l5, l6, some (.int x)] st P := X_iinc (M := mX11_fits) (dX11_fits_58) rfl (by rfl) (by decide) rfl (xnl_p (ls := [l0, l1, l2, l3, l4, l5, l6, some (.int x)]) (j := 6) rfl hn) k
theorem dX11_fits_61 : decode cX11_fits 61 = .ok (.goto (-29), 3) := by decide +kernel
theorem sX11_fits_61 (k : X w mX11_fits d Q 32 ls st P) : X w mX11_fits d Q 61 ls st P := X_goto (M := mX11_fits) (dX11_fits_61) (by decide) k
theorem dX11_fits_64 : decode cX11_fits 64 = .ok (.aload_n 0, 1) := by decide +kernel
theorem sX11_fits_64 {l1 l2 l3 l4 l5 l6 l7 : Option Value} {x : Nat} (k : X w mX11_fits d Q 65 [some (.ref x), l1, l2, l3, l4, l5, l6, l7] (.ref x :: st) P) : X w mX11_fits d Q 64 [some (.ref x), l1, l2, l3, l4, l5, l6, l7] st P := X_aload_n (M := mX11_fits) (dX11_fits_64) rfl rfl k
theorem dX11_fits_65 : decode cX11_fits 65 = .ok (.getfield 60, 3) := by decide +kernel
theorem sX11_fits_65 {a : Nat} {fs : List Value} {v : Nat} (hP : P.1 a = some (xO 9 fs)) (hv : fs[19]? = some (.ref v)) (k : X w mX11_fits d Q 68 ls (.ref v :: st) P) : X w mX11_fits d Q 65 ls (.ref a :: st) P := X_get (M := mX11_fits) (j := 19) (T := TX11) (dX11_fits_65) rfl (by decide) x_in11 xw_420 hP hv k
theorem dX11_fits_68 : decode cX11_fits 68 = .ok (.iconst 3, 1) := by decide +kernel
theorem sX11_fits_68 (k : X w mX11_fits d Q 69 ls (.int (3 : Int32) :: st) P) : X w mX11_fits d Q 68 ls st P := X_iconst (M := mX11_fits) (dX11_fits_68) (by decide) k
theorem dX11_fits_69 : decode cX11_fits 69 = .ok (.iload_n 1, 1) := by decide +kernel
theorem sX11_fits_69 {l0 l2 l3 l4 l5 l6 l7 : Option Value} {x : Int32} (k : X w mX11_fits d Q 70 [l0, some (.int x), l2, l3, l4, l5, l6, l7] (.int x :: st) P) : X w mX11_fits d Q 69 [l0, some (.int x), l2, l3, l4, l5, l6, l7] st P := X_iload_n (M := mX11_fits) (dX11_fits_69) rfl rfl k
theorem dX11_fits_70 : decode cX11_fits 70 = .ok (.imul, 1) := by decide +kernel
theorem sX11_fits_70 {x y : Int32} (k : X w mX11_fits d Q 71 ls (.int (x * y) :: st) P) : X w mX11_fits d Q 70 ls (.int y :: .int x :: st) P := X_imul (M := mX11_fits) (dX11_fits_70) k
theorem dX11_fits_71 : decode cX11_fits 71 = .ok (.laload, 1) := by decide +kernel
theorem sX11_fits_71 {a n : Nat} {f : Nat → Int64} {i : Int32} (hP : P.1 a = some (xJ n f)) (hi : vp_in i n) (k : X w mX11_fits d Q 72 ls (.long (f i.toNatClampNeg) :: st) P) : X w mX11_fits d Q 71 ls (.int i :: .ref a :: st) P := X_lald (M := mX11_fits) (dX11_fits_71) hP hi k
theorem dX11_fits_72 : decode cX11_fits 72 = .ok (.iload 5, 2) := by decide +kernel
theorem sX11_fits_72 {l0 l1 l2 l3 l4 l6 l7 : Option Value} {x : Int32} (k : X w mX11_fits d Q 74 [l0, l1, l2, l3, l4, some (.int x), l6, l7] (.int x :: st) P) : X w mX11_fits d Q 72 [l0, l1, l2, l3, l4, some (.int x), l6, l7] st P := X_iload (M := mX11_fits) (dX11_fits_72) rfl k
theorem dX11_fits_74 : decode cX11_fits 74 = .ok (.lshr, 1) := by decide +kernel
theorem sX11_fits_74 {x : Int64} {y : Int32} (k : X w mX11_fits d Q 75 ls (.long (x >>> (y.toInt64 &&& 63)) :: st) P) : X w mX11_fits d Q 74 ls (.int y :: .long x :: st) P := X_lshr (M := mX11_fits) (dX11_fits_74) k
theorem dX11_fits_75 : decode cX11_fits 75 = .ok (.lconst 1, 1) := by decide +kernel
theorem sX11_fits_75 (k : X w mX11_fits d Q 76 ls (.long (1 : Int64) :: st) P) : X w mX11_fits d Q 75 ls st P := X_lconst (M := mX11_fits) (dX11_fits_75) (by decide) k
theorem dX11_fits_76 : decode cX11_fits 76 = .ok (.land, 1) := by decide +kernel
theorem sX11_fits_76 {x y : Int64} (k : X w mX11_fits d Q 77 ls (.long (x &&& y) :: st) P) : X w mX11_fits d Q 76 ls (.long y :: .long x :: st) P := X_land (M := mX11_fits) (dX11_fits_76) k
theorem dX11_fits_77 : decode cX11_fits 77 = .ok (.aload_n 0, 1) := by decide +kernel
theorem sX11_fits_77 {l1 l2 l3 l4 l5 l6 l7 : Option Value} {x : Nat} (k : X w mX11_fits d Q 78 [some (.ref x), l1, l2, l3, l4, l5, l6, l7] (.ref x :: st) P) : X w mX11_fits d Q 77 [some (.ref x), l1, l2, l3, l4, l5, l6, l7] st P := X_aload_n (M := mX11_fits) (dX11_fits_77) rfl rfl k
theorem dX11_fits_78 : decode cX11_fits 78 = .ok (.getfield 60, 3) := by decide +kernel
theorem sX11_fits_78 {a : Nat} {fs : List Value} {v : Nat} (hP : P.1 a = some (xO 9 fs)) (hv : fs[19]? = some (.ref v)) (k : X w mX11_fits d Q 81 ls (.ref v :: st) P) : X w mX11_fits d Q 78 ls (.ref a :: st) P := X_get (M := mX11_fits) (j := 19) (T := TX11) (dX11_fits_78) rfl (by decide) x_in11 xw_420 hP hv k
theorem dX11_fits_81 : decode cX11_fits 81 = .ok (.iconst 3, 1) := by decide +kernel
theorem sX11_fits_81 (k : X w mX11_fits d Q 82 ls (.int (3 : Int32) :: st) P) : X w mX11_fits d Q 81 ls st P := X_iconst (M := mX11_fits) (dX11_fits_81) (by decide) k
theorem dX11_fits_82 : decode cX11_fits 82 = .ok (.iload_n 2, 1) := by decide +kernel
theorem sX11_fits_82 {l0 l1 l3 l4 l5 l6 l7 : Option Value} {x : Int32} (k : X w mX11_fits d Q 83 [l0, l1, some (.int x), l3, l4, l5, l6, l7] (.int x :: st) P) : X w mX11_fits d Q 82 [l0, l1, some (.int x), l3, l4, l5, l6, l7] st P := X_iload_n (M := mX11_fits) (dX11_fits_82) rfl rfl k
theorem dX11_fits_83 : decode cX11_fits 83 = .ok (.imul, 1) := by decide +kernel
theorem sX11_fits_83 {x y : Int32} (k : X w mX11_fits d Q 84 ls (.int (x * y) :: st) P) : X w mX11_fits d Q 83 ls (.int y :: .int x :: st) P := X_imul (M := mX11_fits) (dX11_fits_83) k
theorem dX11_fits_84 : decode cX11_fits 84 = .ok (.laload, 1) := by decide +kernel
theorem sX11_fits_84 {a n : Nat} {f : Nat → Int64} {i : Int32} (hP : P.1 a = some (xJ n f)) (hi : vp_in i n) (k : X w mX11_fits d Q 85 ls (.long (f i.toNatClampNeg) :: st) P) : X w mX11_fits d Q 84 ls (.int i :: .ref a :: st) P := X_lald (M := mX11_fits) (dX11_fits_84) hP hi k
theorem dX11_fits_85 : decode cX11_fits 85 = .ok (.iload 6, 2) := by decide +kernel
theorem sX11_fits_85 {l0 l1 l2 l3 l4 l5 l7 : Option Value} {x : Int32} (k : X w mX11_fits d Q 87 [l0, l1, l2, l3, l4, l5, some (.int x), l7] (.int x :: st) P) : X w mX11_fits d Q 85 [l0, l1, l2, l3, l4, l5, some (.int x), l7] st P := X_iload (M := mX11_fits) (dX11_fits_85) rfl k
theorem dX11_fits_87 : decode cX11_fits 87 = .ok (.lshr, 1) := by decide +kernel
theorem sX11_fits_87 {x : Int64} {y : Int32} (k : X w mX11_fits d Q 88 ls (.long (x >>> (y.toInt64 &&& 63)) :: st) P) : X w mX11_fits d Q 87 ls (.int y :: .long x :: st) P := X_lshr (M := mX11_fits) (dX11_fits_87) k
theorem dX11_fits_88 : decode cX11_fits 88 = .ok (.lconst 1, 1) := by decide +kernel
theorem sX11_fits_88 (k : X w mX11_fits d Q 89 ls (.long (1 : Int64) :: st) P) : X w mX11_fits d Q 88 ls st P := X_lconst (M := mX11_fits) (dX11_fits_88) (by decide) k
theorem dX11_fits_89 : decode cX11_fits 89 = .ok (.land, 1) := by decide +kernel
theorem sX11_fits_89 {x y : Int64} (k : X w mX11_fits d Q 90 ls (.long (x &&& y) :: st) P) : X w mX11_fits d Q 89 ls (.long y :: .long x :: st) P := X_land (M := mX11_fits) (dX11_fits_89) k
theorem dX11_fits_90 : decode cX11_fits 90 = .ok (.lcmp, 1) := by decide +kernel
theorem sX11_fits_90 {x y : Int64} (k : X w mX11_fits d Q 91 ls (.int (lg_cmp x y) :: st) P) : X w mX11_fits d Q 90 ls (.long y :: .long x :: st) P := X_lcmp (M := mX11_fits) (dX11_fits_90) k
theorem dX11_fits_91 : decode cX11_fits 91 = .ok (.ifCond .ne 7, 3) := by decide +kernel
theorem sX11_fits_91 {x : Int32} (kt : ¬ x = 0 → X w mX11_fits d Q 98 ls st P) (kf : x = 0 → X w mX11_fits d Q 94 ls st P) : X w mX11_fits d Q 91 ls (.int x :: st) P := X_if_ne (M := mX11_fits) (dX11_fits_91) (by decide) kt kf
theorem dX11_fits_94 : decode cX11_fits 94 = .ok (.iconst 1, 1) := by decide +kernel
theorem sX11_fits_94 (k : X w mX11_fits d Q 95 ls (.int (1 : Int32) :: st) P) : X w mX11_fits d Q 94 ls st P := X_iconst (M := mX11_fits) (dX11_fits_94) (by decide) k
theorem dX11_fits_95 : decode cX11_fits 95 = .ok (.goto 4, 3) := by decide +kernel
theorem sX11_fits_95 (k : X w mX11_fits d Q 99 ls st P) : X w mX11_fits d Q 95 ls st P := X_goto (M := mX11_fits) (dX11_fits_95) (by decide) k
theorem dX11_fits_98 : decode cX11_fits 98 = .ok (.iconst 0, 1) := by decide +kernel
theorem sX11_fits_98 (k : X w mX11_fits d Q 99 ls (.int (0 : Int32) :: st) P) : X w mX11_fits d Q 98 ls st P := X_iconst (M := mX11_fits) (dX11_fits_98) (by decide) k
theorem dX11_fits_99 : decode cX11_fits 99 = .ok (.istore 4, 2) := by decide +kernel
theorem sX11_fits_99 {l0 l1 l2 l3 l4 l5 l6 l7 : Option Value} {x : Int32} (hn : xnl l3 = true) (k : X w mX11_fits d Q 101 [l0, l1, l2, l3, some (.int x), l5, l6, l7] st P) : X w mX11_fits d Q 99 [l0, l1, l2, l3, l4, l5, l6, l7] (.int x :: st) P := X_istore (M := mX11_fits) (dX11_fits_99) (by decide) rfl (xnl_p (ls := [l0, l1, l2, l3, l4, l5, l6, l7]) (j := 3) rfl hn) k
theorem dX11_fits_101 : decode cX11_fits 101 = .ok (.iinc 5 1, 3) := by decide +kernel
theorem sX11_fits_101 {l0 l1 l2 l3 l4 l6 l7 : Option Value} {x : Int32} (hn : xnl l4 = true) (k : X w mX11_fits d Q 104 [l0, l1, l2, l3, l4, some (.int (x + (1 : Int32))), l6, l7] st P) : X w mX11_fits d Q 101 [l0, l1, l2, l3, l4, some (.int x), l6, l7] st P := X_iinc (M := mX11_fits) (dX11_fits_101) rfl (by rfl) (by decide) rfl (xnl_p (ls := [l0, l1, l2, l3, l4, some (.int x), l6, l7]) (j := 4) rfl hn) k
theorem dX11_fits_104 : decode cX11_fits 104 = .ok (.goto (-91), 3) := by decide +kernel
theorem sX11_fits_104 (k : X w mX11_fits d Q 13 ls st P) : X w mX11_fits d Q 104 ls st P := X_goto (M := mX11_fits) (dX11_fits_104) (by decide) k
theorem dX11_fits_107 : decode cX11_fits 107 = .ok (.iload 4, 2) := by decide +kernel
theorem sX11_fits_107 {l0 l1 l2 l3 l5 l6 l7 : Option Value} {x : Int32} (k : X w mX11_fits d Q 109 [l0, l1, l2, l3, some (.int x), l5, l6, l7] (.int x :: st) P) : X w mX11_fits d Q 107 [l0, l1, l2, l3, some (.int x), l5, l6, l7] st P := X_iload (M := mX11_fits) (dX11_fits_107) rfl k
theorem dX11_fits_109 : decode cX11_fits 109 = .ok (.ireturn, 1) := by decide +kernel
theorem sX11_fits_109 {v : Int32} (hb : v = 0 ∨ v = 1) (hq : Q (.returned (some (.int v))) P) : X w mX11_fits d Q 109 ls [.int v] P := X_zret (M := mX11_fits) (ty := .boolean) (dX11_fits_109) rfl (xz_n hb) hq
end
