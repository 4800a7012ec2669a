section
variable {w : xWd} {d : Nat} {Q : Outcome → xH → Prop} {ls : List (Option Value)} {st : List Value} {P : xH}
theorem dX0_init_0 : decode cX0_init 0 = .ok (.aload_n 0, 1) := by decide +kernel
theorem sX0_init_0 {x : Nat} (k : X w mX0_init d Q 1 [some (.ref x)] (.ref x :: st) P) : X w mX0_init d Q 0 [some (.ref x)] st P := X_aload_n (M := mX0_init) (dX0_init_0) rfl rfl k
theorem dX0_init_1 : decode cX0_init 1 = .ok (.invokespecial 3, 3) := by decide +kernel
theorem sX0_init_1 {a : Nat} (hst : (st.map fun v => v.category).sum ≤ 8) (k : X w mX0_init d Q 4 ls st P) : X w mX0_init d Q 1 ls (.ref a :: st) P := X_objInit (M := mX0_init) (dX0_init_1) xw_19 xw_20 xw_21 hst k
theorem dX0_init_4 : decode cX0_init 4 = .ok (.aload_n 0, 1) := by decide +kernel
theorem sX0_init_4 {x : Nat} (k : X w mX0_init d Q 5 [some (.ref x)] (.ref x :: st) P) : X w mX0_init d Q 4 [some (.ref x)] st P := X_aload_n (M := mX0_init) (dX0_init_4) rfl rfl k
theorem dX0_init_5 : decode cX0_init 5 = .ok (.iconst 4, 1) := by decide +kernel
theorem sX0_init_5 (k : X w mX0_init d Q 6 ls (.int (4 : Int32) :: st) P) : X w mX0_init d Q 5 ls st P := X_iconst (M := mX0_init) (dX0_init_5) (by decide) k
theorem dX0_init_6 : decode cX0_init 6 = .ok (.newarray .int, 2) := by decide +kernel
theorem sX0_init_6 {n : Int32} {N : Nat} (hn : ¬ n < 0) (hN : n.toNatClampNeg = N) (hb : N ≤ 10000) (hr1 : P.2.1 + 1 ≤ w.z + 601024) (hr2 : P.2.2 + N ≤ 7293034) (k : X w mX0_init d Q 8 ls (.ref P.2.1 :: st) (xal P (xA 0 N (fun _ => 0)) N)) : X w mX0_init d Q 6 ls (.int n :: st) P := X_newaI (M := mX0_init) (dX0_init_6) (Or.inl ⟨rfl, rfl⟩) xw_22 hn hN hb hr1 hr2 k
theorem dX0_init_8 : decode cX0_init 8 = .ok (.putfield 9, 3) := by decide +kernel
theorem sX0_init_8 {a : Nat} {fs : List Value} {v : Nat} (hP : P.1 a = some (xO 0 fs)) (hl : 0 < fs.length) (k : X w mX0_init d Q 11 ls st (xs P a (xO 0 (fs.set 0 (.ref v))))) : X w mX0_init d Q 8 ls (.ref v :: .ref a :: st) P := X_putF (M := mX0_init) (j := 0) (T := TX0) (dX0_init_8) rfl (by decide) x_c0 xw_23 rfl rfl rfl hP rfl rfl hl k
theorem dX0_init_11 : decode cX0_init 11 = .ok (.return_, 1) := by decide +kernel
theorem sX0_init_11 (hq : Q (.returned none) P) : X w mX0_init d Q 11 ls [] P := X_vret (M := mX0_init) (dX0_init_11) rfl hq
theorem dX0_brought_0 : decode cX0_brought 0 = .ok (.aload_n 0, 1) := by decide +kernel
theorem sX0_brought_0 {l1 : Option Value} {x : Nat} (k : X w mX0_brought d Q 1 [some (.ref x), l1] (.ref x :: st) P) : X w mX0_brought d Q 0 [some (.ref x), l1] st P := X_aload_n (M := mX0_brought) (dX0_brought_0) rfl rfl k
theorem dX0_brought_1 : decode cX0_brought 1 = .ok (.getfield 9, 3) := by decide +kernel
theorem sX0_brought_1 {a : Nat} {fs : List Value} {v : Nat} (hP : P.1 a = some (xO 0 fs)) (hv : fs[0]? = some (.ref v)) (k : X w mX0_brought d Q 4 ls (.ref v :: st) P) : X w mX0_brought d Q 1 ls (.ref a :: st) P := X_get (M := mX0_brought) (j := 0) (T := TX0) (dX0_brought_1) rfl (by decide) x_in0 xw_23 hP hv k
theorem dX0_brought_4 : decode cX0_brought 4 = .ok (.iconst 0, 1) := by decide +kernel
theorem sX0_brought_4 (k : X w mX0_brought d Q 5 ls (.int (0 : Int32) :: st) P) : X w mX0_brought d Q 4 ls st P := X_iconst (M := mX0_brought) (dX0_brought_4) (by decide) k
theorem dX0_brought_5 : decode cX0_brought 5 = .ok (.iaload, 1) := by decide +kernel
theorem sX0_brought_5 {a n : Nat} {f : Nat → Int32} {i : Int32} (hP : P.1 a = some (xA 0 n f)) (hi : vp_in i n) (k : X w mX0_brought d Q 6 ls (.int (f i.toNatClampNeg) :: st) P) : X w mX0_brought d Q 5 ls (.int i :: .ref a :: st) P := X_iald (M := mX0_brought) (dX0_brought_5) hP hi k
theorem dX0_brought_6 : decode cX0_brought 6 = .ok (.iload_n 1, 1) := by decide +kernel
theorem sX0_brought_6 {l0 : Option Value} {x : Int32} (k : X w mX0_brought d Q 7 [l0, some (.int x)] (.int x :: st) P) : X w mX0_brought d Q 6 [l0, some (.int x)] st P := X_iload_n (M := mX0_brought) (dX0_brought_6) rfl rfl k
theorem dX0_brought_7 : decode cX0_brought 7 = .ok (.aload_n 0, 1) := by decide +kernel
theorem sX0_brought_7 {l1 : Option Value} {x : Nat} (k : X w mX0_brought d Q 8 [some (.ref x), l1] (.ref x :: st) P) : X w mX0_brought d Q 7 [some (.ref x), l1] st P := X_aload_n (M := mX0_brought) (dX0_brought_7) rfl rfl k
theorem dX0_brought_8 : decode cX0_brought 8 = .ok (.getfield 9, 3) := by decide +kernel
theorem sX0_brought_8 {a : Nat} {fs : List Value} {v : Nat} (hP : P.1 a = some (xO 0 fs)) (hv : fs[0]? = some (.ref v)) (k : X w mX0_brought d Q 11 ls (.ref v :: st) P) : X w mX0_brought d Q 8 ls (.ref a :: st) P := X_get (M := mX0_brought) (j := 0) (T := TX0) (dX0_brought_8) rfl (by decide) x_in0 xw_23 hP hv k
theorem dX0_brought_11 : decode cX0_brought 11 = .ok (.aload_n 0, 1) := by decide +kernel
theorem sX0_brought_11 {l1 : Option Value} {x : Nat} (k : X w mX0_brought d Q 12 [some (.ref x), l1] (.ref x :: st) P) : X w mX0_brought d Q 11 [some (.ref x), l1] st P := X_aload_n (M := mX0_brought) (dX0_brought_11) rfl rfl k
theorem dX0_brought_12 : decode cX0_brought 12 = .ok (.getfield 15, 3) := by decide +kernel
theorem sX0_brought_12 {a : Nat} {fs : List Value} {v : Int32} (hP : P.1 a = some (xO 0 fs)) (hv : fs[1]? = some (.int v)) (k : X w mX0_brought d Q 15 ls (.int v :: st) P) : X w mX0_brought d Q 12 ls (.ref a :: st) P := X_get (M := mX0_brought) (j := 1) (T := TX0) (dX0_brought_12) rfl (by decide) x_in0 xw_24 hP hv k
theorem dX0_brought_15 : decode cX0_brought 15 = .ok (.iconst 1, 1) := by decide +kernel
theorem sX0_brought_15 (k : X w mX0_brought d Q 16 ls (.int (1 : Int32) :: st) P) : X w mX0_brought d Q 15 ls st P := X_iconst (M := mX0_brought) (dX0_brought_15) (by decide) k
theorem dX0_brought_16 : decode cX0_brought 16 = .ok (.isub, 1) := by decide +kernel
theorem sX0_brought_16 {x y : Int32} (k : X w mX0_brought d Q 17 ls (.int (x - y) :: st) P) : X w mX0_brought d Q 16 ls (.int y :: .int x :: st) P := X_isub (M := mX0_brought) (dX0_brought_16) k
theorem dX0_brought_17 : decode cX0_brought 17 = .ok (.iaload, 1) := by decide +kernel
theorem sX0_brought_17 {a n : Nat} {f : Nat → Int32} {i : Int32} (hP : P.1 a = some (xA 0 n f)) (hi : vp_in i n) (k : X w mX0_brought d Q 18 ls (.int (f i.toNatClampNeg) :: st) P) : X w mX0_brought d Q 17 ls (.int i :: .ref a :: st) P := X_iald (M := mX0_brought) (dX0_brought_17) hP hi k
theorem dX0_brought_18 : decode cX0_brought 18 = .ok (.invokestatic 19, 3) := by decide +kernel
theorem sX0_brought_18_g {a0 : Int32} {a1 : Int32} {Qc : Outcome → xH → Prop} (hst : (st.map fun v => v.category).sum ≤ 8) (hC : xC w d mJ9_min_7cf53 [.int a0, .int a1] P Qc) (kr : ∀ v P1, Qc (.returned v) P1 → X w mX0_brought (d + 1) Q 21 ls (v.toList ++ st) P1) (kt : ∀ q P1, Qc (.threw q) P1 → Xt w mX0_brought (d + 1) Q 18 ls st P1 q) : X w mX0_brought (d + 1) Q 18 ls (.int a1 :: .int a0 :: st) P := X_callS (M := mX0_brought) (MC := mJ9_min_7cf53) (As := [.int a0, .int a1]) (dX0_brought_18) calJ9_min_7cf53 xw_25 xw_26 rfl hC hst kr kt
theorem sX0_brought_18 {a0 : Int32} {a1 : Int32} {r : Int32} {P1 : xH} (hst : (st.map fun v => v.category).sum ≤ 8) (hC : xC w d mJ9_min_7cf53 [.int a0, .int a1] P (xRet (some (.int r)) P1)) (k : X w mX0_brought (d + 1) Q 21 ls (.int r :: st) P1) : X w mX0_brought (d + 1) Q 18 ls (.int a1 :: .int a0 :: st) P := X_callS (M := mX0_brought) (MC := mJ9_min_7cf53) (As := [.int a0, .int a1]) (dX0_brought_18) calJ9_min_7cf53 xw_25 xw_26 rfl hC hst (fun v P2 h => by obtain ⟨h1, rfl⟩ := h; cases h1; exact k) (fun q P2 h => by cases h.1)
theorem sX0_brought_18_t {a0 : Int32} {a1 : Int32} {q : Nat} {P1 : xH} (hst : (st.map fun v => v.category).sum ≤ 8) (hC : xC w d mJ9_min_7cf53 [.int a0, .int a1] P (xThr q P1)) (hq : Q (.threw q) P1) : X w mX0_brought (d + 1) Q 18 ls (.int a1 :: .int a0 :: st) P := X_callS (M := mX0_brought) (MC := mJ9_min_7cf53) (As := [.int a0, .int a1]) (dX0_brought_18) calJ9_min_7cf53 xw_25 xw_26 rfl hC hst (fun v P2 h => by cases h.1) (fun q2 P2 h => by obtain ⟨h1, rfl⟩ := h; cases h1; exact Xt_out rfl hq)
theorem dX0_brought_21 : decode cX0_brought 21 = .ok (.invokestatic 25, 3) := by decide +kernel
theorem sX0_brought_21_g {a0 : Int32} {a1 : Int32} {Qc : Outcome → xH → Prop} (hst : (st.map fun v => v.category).sum ≤ 8) (hC : xC w d mJ9_max_7cf53 [.int a0, .int a1] P Qc) (kr : ∀ v P1, Qc (.returned v) P1 → X w mX0_brought (d + 1) Q 24 ls (v.toList ++ st) P1) (kt : ∀ q P1, Qc (.threw q) P1 → Xt w mX0_brought (d + 1) Q 21 ls st P1 q) : X w mX0_brought (d + 1) Q 21 ls (.int a1 :: .int a0 :: st) P := X_callS (M := mX0_brought) (MC := mJ9_max_7cf53) (As := [.int a0, .int a1]) (dX0_brought_21) calJ9_max_7cf53 xw_27 xw_28 rfl hC hst kr kt
theorem sX0_brought_21 {a0 : Int32} {a1 : Int32} {r : Int32} {P1 : xH} (hst : (st.map fun v => v.category).sum ≤ 8) (hC : xC w d mJ9_max_7cf53 [.int a0, .int a1] P (xRet (some (.int r)) P1)) (k : X w mX0_brought (d + 1) Q 24 ls (.int r :: st) P1) : X w mX0_brought (d + 1) Q 21 ls (.int a1 :: .int a0 :: st) P := X_callS (M := mX0_brought) (MC := mJ9_max_7cf53) (As := [.int a0, .int a1]) (dX0_brought_21) calJ9_max_7cf53 xw_27 xw_28 rfl hC hst (fun v P2 h => by obtain ⟨h1, rfl⟩ := h; cases h1; exact k) (fun q P2 h => by cases h.1)
theorem sX0_brought_21_t {a0 : Int32} {a1 : Int32} {q : Nat} {P1 : xH} (hst : (st.map fun v => v.category).sum ≤ 8) (hC : xC w d mJ9_max_7cf53 [.int a0, .int a1] P (xThr q P1)) (hq : Q (.threw q) P1) : X w mX0_brought (d + 1) Q 21 ls (.int a1 :: .int a0 :: st) P := X_callS (M := mX0_brought) (MC := mJ9_max_7cf53) (As := [.int a0, .int a1]) (dX0_brought_21) calJ9_max_7cf53 xw_27 xw_28 rfl hC hst (fun v P2 h => by cases h.1) (fun q2 P2 h => by obtain ⟨h1, rfl⟩ := h; cases h1; exact Xt_out rfl hq)
theorem dX0_brought_24 : decode cX0_brought 24 = .ok (.ireturn, 1) := by decide +kernel
theorem sX0_brought_24 {v : Int32} (hq : Q (.returned (some (.int v))) P) : X w mX0_brought d Q 24 ls [.int v] P := X_iret (M := mX0_brought) (dX0_brought_24) rfl hq
theorem dX0_spanStart_0 : decode cX0_spanStart 0 = .ok (.iconst 0, 1) := by decide +kernel
theorem sX0_spanStart_0 (k : X w mX0_spanStart d Q 1 ls (.int (0 : Int32) :: st) P) : X w mX0_spanStart d Q 0 ls st P := X_iconst (M := mX0_spanStart) (dX0_spanStart_0) (by decide) k
theorem dX0_spanStart_1 : decode cX0_spanStart 1 = .ok (.istore_n 2, 1) := by decide +kernel
theorem sX0_spanStart_1 {l0 l1 l2 l3 : Option Value} {x : Int32} (hn : xnl l1 = true) (k : X w mX0_spanStart d Q 2 [l0, l1, some (.int x), l3] st P) : X w mX0_spanStart d Q 1 [l0, l1, l2, l3] (.int x :: st) P := X_istore_n (M := mX0_spanStart) (dX0_spanStart_1) rfl (by decide) rfl (xnl_p (ls := [l0, l1, l2, l3]) (j := 1) rfl hn) k
theorem dX0_spanStart_2 : decode cX0_spanStart 2 = .ok (.iconst 1, 1) := by decide +kernel
theorem sX0_spanStart_2 (k : X w mX0_spanStart d Q 3 ls (.int (1 : Int32) :: st) P) : X w mX0_spanStart d Q 2 ls st P := X_iconst (M := mX0_spanStart) (dX0_spanStart_2) (by decide) k
theorem dX0_spanStart_3 : decode cX0_spanStart 3 = .ok (.istore_n 3, 1) := by decide +kernel
theorem sX0_spanStart_3 {l0 l1 l2 l3 : Option Value} {x : Int32} (hn : xnl l2 = true) (k : X w mX0_spanStart d Q 4 [l0, l1, l2, some (.int x)] st P) : X w mX0_spanStart d Q 3 [l0, l1, l2, l3] (.int x :: st) P := X_istore_n (M := mX0_spanStart) (dX0_spanStart_3) rfl (by decide) rfl (xnl_p (ls := [l0, l1, l2, l3]) (j := 2) rfl hn) k
theorem dX0_spanStart_4 : decode cX0_spanStart 4 = .ok (.iload_n 3, 1) := by decide +kernel
theorem sX0_spanStart_4 {l0 l1 l2 : Option Value} {x : Int32} (k : X w mX0_spanStart d Q 5 [l0, l1, l2, some (.int x)] (.int x :: st) P) : X w mX0_spanStart d Q 4 [l0, l1, l2, some (.int x)] st P := X_iload_n (M := mX0_spanStart) (dX0_spanStart_4) rfl rfl k
theorem dX0_spanStart_5 : decode cX0_spanStart 5 = .ok (.aload_n 0, 1) := by decide +kernel
theorem sX0_spanStart_5 {l1 l2 l3 : Option Value} {x : Nat} (k : X w mX0_spanStart d Q 6 [some (.ref x), l1, l2, l3] (.ref x :: st) P) : X w mX0_spanStart d Q 5 [some (.ref x), l1, l2, l3] st P := X_aload_n (M := mX0_spanStart) (dX0_spanStart_5) rfl rfl k
theorem dX0_spanStart_6 : decode cX0_spanStart 6 = .ok (.getfield 15, 3) := by decide +kernel
theorem sX0_spanStart_6 {a : Nat} {fs : List Value} {v : Int32} (hP : P.1 a = some (xO 0 fs)) (hv : fs[1]? = some (.int v)) (k : X w mX0_spanStart d Q 9 ls (.int v :: st) P) : X w mX0_spanStart d Q 6 ls (.ref a :: st) P := X_get (M := mX0_spanStart) (j := 1) (T := TX0) (dX0_spanStart_6) rfl (by decide) x_in0 xw_24 hP hv k
theorem dX0_spanStart_9 : decode cX0_spanStart 9 = .ok (.iconst 1, 1) := by decide +kernel
theorem sX0_spanStart_9 (k : X w mX0_spanStart d Q 10 ls (.int (1 : Int32) :: st) P) : X w mX0_spanStart d Q 9 ls st P := X_iconst (M := mX0_spanStart) (dX0_spanStart_9) (by decide) k
theorem dX0_spanStart_10 : decode cX0_spanStart 10 = .ok (.isub, 1) := by decide +kernel
theorem sX0_spanStart_10 {x y : Int32} (k : X w mX0_spanStart d Q 11 ls (.int (x - y) :: st) P) : X w mX0_spanStart d Q 10 ls (.int y :: .int x :: st) P := X_isub (M := mX0_spanStart) (dX0_spanStart_10) k
theorem dX0_spanStart_11 : decode cX0_spanStart 11 = .ok (.if_icmp .ge 21, 3) := by decide +kernel
theorem sX0_spanStart_11 {x y : Int32} (kt : y ≤ x → X w mX0_spanStart d Q 32 ls st P) (kf : ¬ y ≤ x → X w mX0_spanStart d Q 14 ls st P) : X w mX0_spanStart d Q 11 ls (.int y :: .int x :: st) P := X_icmp_ge (M := mX0_spanStart) (dX0_spanStart_11) (by decide) kt kf
theorem dX0_spanStart_14 : decode cX0_spanStart 14 = .ok (.aload_n 0, 1) := by decide +kernel
theorem sX0_spanStart_14 {l1 l2 l3 : Option Value} {x : Nat} (k : X w mX0_spanStart d Q 15 [some (.ref x), l1, l2, l3] (.ref x :: st) P) : X w mX0_spanStart d Q 14 [some (.ref x), l1, l2, l3] st P := X_aload_n (M := mX0_spanStart) (dX0_spanStart_14) rfl rfl k
theorem dX0_spanStart_15 : decode cX0_spanStart 15 = .ok (.getfield 9, 3) := by decide +kernel
theorem sX0_spanStart_15 {a : Nat} {fs : List Value} {v : Nat} (hP : P.1 a = some (xO 0 fs)) (hv : fs[0]? = some (.ref v)) (k : X w mX0_spanStart d Q 18 ls (.ref v :: st) P) : X w mX0_spanStart d Q 15 ls (.ref a :: st) P := X_get (M := mX0_spanStart) (j := 0) (T := TX0) (dX0_spanStart_15) rfl (by decide) x_in0 xw_23 hP hv k
theorem dX0_spanStart_18 : decode cX0_spanStart 18 = .ok (.iload_n 3, 1) := by decide +kernel
theorem sX0_spanStart_18 {l0 l1 l2 : Option Value} {x : Int32} (k : X w mX0_spanStart d Q 19 [l0, l1, l2, some (.int x)] (.int x :: st) P) : X w mX0_spanStart d Q 18 [l0, l1, l2, some (.int x)] st P := X_iload_n (M := mX0_spanStart) (dX0_spanStart_18) rfl rfl k
theorem dX0_spanStart_19 : decode cX0_spanStart 19 = .ok (.iaload, 1) := by decide +kernel
theorem sX0_spanStart_19 {a n : Nat} {f : Nat → Int32} {i : Int32} (hP : P.1 a = some (xA 0 n f)) (hi : vp_in i n) (k : X w mX0_spanStart d Q 20 ls (.int (f i.toNatClampNeg) :: st) P) : X w mX0_spanStart d Q 19 ls (.int i :: .ref a :: st) P := X_iald (M := mX0_spanStart) (dX0_spanStart_19) hP hi k
theorem dX0_spanStart_20 : decode cX0_spanStart 20 = .ok (.iload_n 1, 1) := by decide +kernel
theorem sX0_spanStart_20 {l0 l2 l3 : Option Value} {x : Int32} (k : X w mX0_spanStart d Q 21 [l0, some (.int x), l2, l3] (.int x :: st) P) : X w mX0_spanStart d Q 20 [l0, some (.int x), l2, l3] st P := X_iload_n (M := mX0_spanStart) (dX0_spanStart_20) rfl rfl k
theorem dX0_spanStart_21 : decode cX0_spanStart 21 = .ok (.if_icmp .gt 5, 3) := by decide +kernel
theorem sX0_spanStart_21 {x y : Int32} (kt : y < x → X w mX0_spanStart d Q 26 ls st P) (kf : ¬ y < x → X w mX0_spanStart d Q 24 ls st P) : X w mX0_spanStart d Q 21 ls (.int y :: .int x :: st) P := X_icmp_gt (M := mX0_spanStart) (dX0_spanStart_21) (by decide) kt kf
theorem dX0_spanStart_24 : decode cX0_spanStart 24 = .ok (.iload_n 3, 1) := by decide +kernel
theorem sX0_spanStart_24 {l0 l1 l2 : Option Value} {x : Int32} (k : X w mX0_spanStart d Q 25 [l0, l1, l2, some (.int x)] (.int x :: st) P) : X w mX0_spanStart d Q 24 [l0, l1, l2, some (.int x)] st P := X_iload_n (M := mX0_spanStart) (dX0_spanStart_24) rfl rfl k
theorem dX0_spanStart_25 : decode cX0_spanStart 25 = .ok (.istore_n 2, 1) := by decide +kernel
theorem sX0_spanStart_25 {l0 l1 l2 l3 : Option Value} {x : Int32} (hn : xnl l1 = true) (k : X w mX0_spanStart d Q 26 [l0, l1, some (.int x), l3] st P) : X w mX0_spanStart d Q 25 [l0, l1, l2, l3] (.int x :: st) P := X_istore_n (M := mX0_spanStart) (dX0_spanStart_25) rfl (by decide) rfl (xnl_p (ls := [l0, l1, l2, l3]) (j := 1) rfl hn) k
theorem dX0_spanStart_26 : decode cX0_spanStart 26 = .ok (.iinc 3 1, 3) := by decide +kernel
theorem sX0_spanStart_26 {l0 l1 l2 : Option Value} {x : Int32} (hn : xnl l2 = true) (k : X w mX0_spanStart d Q 29 [l0, l1, l2, some (.int (x + (1 : Int32)))] st P) : X w mX0_spanStart d Q 26 [l0, l1, l2, some (.int x)] st P := X_iinc (M := mX0_spanStart) (dX0_spanStart_26) rfl (by rfl) (by decide) rfl (xnl_p (ls := [l0, l1, l2, some (.int x)]) (j := 2) rfl hn) k
theorem dX0_spanStart_29 : decode cX0_spanStart 29 = .ok (.goto (-25), 3) := by decide +kernel
theorem sX0_spanStart_29 (k : X w mX0_spanStart d Q 4 ls st P) : X w mX0_spanStart d Q 29 ls st P := X_goto (M := mX0_spanStart) (dX0_spanStart_29) (by decide) k
theorem dX0_spanStart_32 : decode cX0_spanStart 32 = .ok (.iload_n 2, 1) := by decide +kernel
theorem sX0_spanStart_32 {l0 l1 l3 : Option Value} {x : Int32} (k : X w mX0_spanStart d Q 33 [l0, l1, some (.int x), l3] (.int x :: st) P) : X w mX0_spanStart d Q 32 [l0, l1, some (.int x), l3] st P := X_iload_n (M := mX0_spanStart) (dX0_spanStart_32) rfl rfl k
theorem dX0_spanStart_33 : decode cX0_spanStart 33 = .ok (.ireturn, 1) := by decide +kernel
theorem sX0_spanStart_33 {v : Int32} (hq : Q (.returned (some (.int v))) P) : X w mX0_spanStart d Q 33 ls [.int v] P := X_iret (M := mX0_spanStart) (dX0_spanStart_33) rfl hq
theorem dX0_spanEnd_0 : decode cX0_spanEnd 0 = .ok (.iload_n 1, 1) := by decide +kernel
theorem sX0_spanEnd_0 {l0 : Option Value} {x : Int32} (k : X w mX0_spanEnd d Q 1 [l0, some (.int x)] (.int x :: st) P) : X w mX0_spanEnd d Q 0 [l0, some (.int x)] st P := X_iload_n (M := mX0_spanEnd) (dX0_spanEnd_0) rfl rfl k
theorem dX0_spanEnd_1 : decode cX0_spanEnd 1 = .ok (.iconst 1, 1) := by decide +kernel
theorem sX0_spanEnd_1 (k : X w mX0_spanEnd d Q 2 ls (.int (1 : Int32) :: st) P) : X w mX0_spanEnd d Q 1 ls st P := X_iconst (M := mX0_spanEnd) (dX0_spanEnd_1) (by decide) k
theorem dX0_spanEnd_2 : decode cX0_spanEnd 2 = .ok (.iadd, 1) := by decide +kernel
theorem sX0_spanEnd_2 {x y : Int32} (k : X w mX0_spanEnd d Q 3 ls (.int (x + y) :: st) P) : X w mX0_spanEnd d Q 2 ls (.int y :: .int x :: st) P := X_iadd (M := mX0_spanEnd) (dX0_spanEnd_2) k
theorem dX0_spanEnd_3 : decode cX0_spanEnd 3 = .ok (.aload_n 0, 1) := by decide +kernel
theorem sX0_spanEnd_3 {l1 : Option Value} {x : Nat} (k : X w mX0_spanEnd d Q 4 [some (.ref x), l1] (.ref x :: st) P) : X w mX0_spanEnd d Q 3 [some (.ref x), l1] st P := X_aload_n (M := mX0_spanEnd) (dX0_spanEnd_3) rfl rfl k
theorem dX0_spanEnd_4 : decode cX0_spanEnd 4 = .ok (.getfield 15, 3) := by decide +kernel
theorem sX0_spanEnd_4 {a : Nat} {fs : List Value} {v : Int32} (hP : P.1 a = some (xO 0 fs)) (hv : fs[1]? = some (.int v)) (k : X w mX0_spanEnd d Q 7 ls (.int v :: st) P) : X w mX0_spanEnd d Q 4 ls (.ref a :: st) P := X_get (M := mX0_spanEnd) (j := 1) (T := TX0) (dX0_spanEnd_4) rfl (by decide) x_in0 xw_24 hP hv k
theorem dX0_spanEnd_7 : decode cX0_spanEnd 7 = .ok (.iconst 1, 1) := by decide +kernel
theorem sX0_spanEnd_7 (k : X w mX0_spanEnd d Q 8 ls (.int (1 : Int32) :: st) P) : X w mX0_spanEnd d Q 7 ls st P := X_iconst (M := mX0_spanEnd) (dX0_spanEnd_7) (by decide) k
theorem dX0_spanEnd_8 : decode cX0_spanEnd 8 = .ok (.isub, 1) := by decide +kernel
theorem sX0_spanEnd_8 {x y : Int32} (k : X w mX0_spanEnd d Q 9 ls (.int (x - y) :: st) P) : X w mX0_spanEnd d Q 8 ls (.int y :: .int x :: st) P := X_isub (M := mX0_spanEnd) (dX0_spanEnd_8) k
theorem dX0_spanEnd_9 : decode cX0_spanEnd 9 = .ok (.invokestatic 19, 3) := by decide +kernel
theorem sX0_spanEnd_9_g {a0 : Int32} {a1 : Int32} {Qc : Outcome → xH → Prop} (hst : (st.map fun v => v.category).sum ≤ 8) (hC : xC w d mJ9_min_7cf53 [.int a0, .int a1] P Qc) (kr : ∀ v P1, Qc (.returned v) P1 → X w mX0_spanEnd (d + 1) Q 12 ls (v.toList ++ st) P1) (kt : ∀ q P1, Qc (.threw q) P1 → Xt w mX0_spanEnd (d + 1) Q 9 ls st P1 q) : X w mX0_spanEnd (d + 1) Q 9 ls (.int a1 :: .int a0 :: st) P := X_callS (M := mX0_spanEnd) (MC := mJ9_min_7cf53) (As := [.int a0, .int a1]) (dX0_spanEnd_9) calJ9_min_7cf53 xw_25 xw_26 rfl hC hst kr kt
theorem sX0_spanEnd_9 {a0 : Int32} {a1 : Int32} {r : Int32} {P1 : xH} (hst : (st.map fun v => v.category).sum ≤ 8) (hC : xC w d mJ9_min_7cf53 [.int a0, .int a1] P (xRet (some (.int r)) P1)) (k : X w mX0_spanEnd (d + 1) Q 12 ls (.int r :: st) P1) : X w mX0_spanEnd (d + 1) Q 9 ls (.int a1 :: .int a0 :: st) P := X_callS (M := mX0_spanEnd) (MC := mJ9_min_7cf53) (As := [.int a0, .int a1]) (dX0_spanEnd_9) calJ9_min_7cf53 xw_25 xw_26 rfl hC hst (fun v P2 h => by obtain ⟨h1, rfl⟩ := h; cases h1; exact k) (fun q P2 h => by cases h.1)
theorem sX0_spanEnd_9_t {a0 : Int32} {a1 : Int32} {q : Nat} {P1 : xH} (hst : (st.map fun v => v.category).sum ≤ 8) (hC : xC w d mJ9_min_7cf53 [.int a0, .int a1] P (xThr q P1)) (hq : Q (.threw q) P1) : X w mX0_spanEnd (d + 1) Q 9 ls (.int a1 :: .int a0 :: st) P := X_callS (M := mX0_spanEnd) (MC := mJ9_min_7cf53) (As := [.int a0, .int a1]) (dX0_spanEnd_9) calJ9_min_7cf53 xw_25 xw_26 rfl hC hst (fun v P2 h => by cases h.1) (fun q2 P2 h => by obtain ⟨h1, rfl⟩ := h; cases h1; exact Xt_out rfl hq)
theorem dX0_spanEnd_12 : decode cX0_spanEnd 12 = .ok (.ireturn, 1) := by decide +kernel
theorem sX0_spanEnd_12 {v : Int32} (hq : Q (.returned (some (.int v))) P) : X w mX0_spanEnd d Q 12 ls [.int v] P := X_iret (M := mX0_spanEnd) (dX0_spanEnd_12) rfl hq
theorem dX0_mixed_0 : decode cX0_mixed 0 = .ok (.aload_n 0, 1) := by decide +kernel
theorem sX0_mixed_0 {l1 l2 l3 l4 l5 l6 : Option Value} {x : Nat} (k : X w mX0_mixed d Q 1 [some (.ref x), l1, l2, l3, l4, l5, l6] (.ref x :: st) P) : X w mX0_mixed d Q 0 [some (.ref x), l1, l2, l3, l4, l5, l6] st P := X_aload_n (M := mX0_mixed) (dX0_mixed_0) rfl rfl k
theorem dX0_mixed_1 : decode cX0_mixed 1 = .ok (.getfield 9, 3) := by decide +kernel
theorem sX0_mixed_1 {a : Nat} {fs : List Value} {v : Nat} (hP : P.1 a = some (xO 0 fs)) (hv : fs[0]? = some (.ref v)) (k : X w mX0_mixed d Q 4 ls (.ref v :: st) P) : X w mX0_mixed d Q 1 ls (.ref a :: st) P := X_get (M := mX0_mixed) (j := 0) (T := TX0) (dX0_mixed_1) rfl (by decide) x_in0 xw_23 hP hv k
theorem dX0_mixed_4 : decode cX0_mixed 4 = .ok (.iload_n 3, 1) := by decide +kernel
theorem sX0_mixed_4 {l0 l1 l2 l4 l5 l6 : Option Value} {x : Int32} (k : X w mX0_mixed d Q 5 [l0, l1, l2, some (.int x), l4, l5, l6] (.int x :: st) P) : X w mX0_mixed d Q 4 [l0, l1, l2, some (.int x), l4, l5, l6] st P := X_iload_n (M := mX0_mixed) (dX0_mixed_4) rfl rfl k
theorem dX0_mixed_5 : decode cX0_mixed 5 = .ok (.iaload, 1) := by decide +kernel
theorem sX0_mixed_5 {a n : Nat} {f : Nat → Int32} {i : Int32} (hP : P.1 a = some (xA 0 n f)) (hi : vp_in i n) (k : X w mX0_mixed d Q 6 ls (.int (f i.toNatClampNeg) :: st) P) : X w mX0_mixed d Q 5 ls (.int i :: .ref a :: st) P := X_iald (M := mX0_mixed) (dX0_mixed_5) hP hi k
theorem dX0_mixed_6 : decode cX0_mixed 6 = .ok (.istore 5, 2) := by decide +kernel
theorem sX0_mixed_6 {l0 l1 l2 l3 l4 l5 l6 : Option Value} {x : Int32} (hn : xnl l4 = true) (k : X w mX0_mixed d Q 8 [l0, l1, l2, l3, l4, some (.int x), l6] st P) : X w mX0_mixed d Q 6 [l0, l1, l2, l3, l4, l5, l6] (.int x :: st) P := X_istore (M := mX0_mixed) (dX0_mixed_6) (by decide) rfl (xnl_p (ls := [l0, l1, l2, l3, l4, l5, l6]) (j := 4) rfl hn) k
theorem dX0_mixed_8 : decode cX0_mixed 8 = .ok (.aload_n 0, 1) := by decide +kernel
theorem sX0_mixed_8 {l1 l2 l3 l4 l5 l6 : Option Value} {x : Nat} (k : X w mX0_mixed d Q 9 [some (.ref x), l1, l2, l3, l4, l5, l6] (.ref x :: st) P) : X w mX0_mixed d Q 8 [some (.ref x), l1, l2, l3, l4, l5, l6] st P := X_aload_n (M := mX0_mixed) (dX0_mixed_8) rfl rfl k
theorem dX0_mixed_9 : decode cX0_mixed 9 = .ok (.getfield 9, 3) := by decide +kernel
theorem sX0_mixed_9 {a : Nat} {fs : List Value} {v : Nat} (hP : P.1 a = some (xO 0 fs)) (hv : fs[0]? = some (.ref v)) (k : X w mX0_mixed d Q 12 ls (.ref v :: st) P) : X w mX0_mixed d Q 9 ls (.ref a :: st) P := X_get (M := mX0_mixed) (j := 0) (T := TX0) (dX0_mixed_9) rfl (by decide) x_in0 xw_23 hP hv k
theorem dX0_mixed_12 : decode cX0_mixed 12 = .ok (.aload_n 0, 1) := by decide +kernel
theorem sX0_mixed_12 {l1 l2 l3 l4 l5 l6 : Option Value} {x : Nat} (k : X w mX0_mixed d Q 13 [some (.ref x), l1, l2, l3, l4, l5, l6] (.ref x :: st) P) : X w mX0_mixed d Q 12 [some (.ref x), l1, l2, l3, l4, l5, l6] st P := X_aload_n (M := mX0_mixed) (dX0_mixed_12) rfl rfl k
theorem dX0_mixed_13 : decode cX0_mixed 13 = .ok (.iload_n 3, 1) := by decide +kernel
theorem sX0_mixed_13 {l0 l1 l2 l4 l5 l6 : Option Value} {x : Int32} (k : X w mX0_mixed d Q 14 [l0, l1, l2, some (.int x), l4, l5, l6] (.int x :: st) P) : X w mX0_mixed d Q 13 [l0, l1, l2, some (.int x), l4, l5, l6] st P := X_iload_n (M := mX0_mixed) (dX0_mixed_13) rfl rfl k
theorem dX0_mixed_14 : decode cX0_mixed 14 = .ok (.invokevirtual 28, 3) := by decide +kernel
theorem sX0_mixed_14_g {b : Nat} {fs : List Value} {a0 : Int32} {Qc : Outcome → xH → Prop} (hst : (st.map fun v => v.category).sum ≤ 8) (hP : P.1 b = some (xO 0 fs)) (hC : xC w d mX0_spanEnd [.ref b, .int a0] P Qc) (kr : ∀ v P1, Qc (.returned v) P1 → X w mX0_mixed (d + 1) Q 17 ls (v.toList ++ st) P1) (kt : ∀ q P1, Qc (.threw q) P1 → Xt w mX0_mixed (d + 1) Q 14 ls st P1 q) : X w mX0_mixed (d + 1) Q 14 ls (.int a0 :: .ref b :: st) P := X_callV (M := mX0_mixed) (MC := mX0_spanEnd) (As := [.int a0]) (T := TX0) (dX0_mixed_14) calX0_spanEnd xw_29 xw_30 xw_31 rfl rfl hP hC hst kr kt
theorem sX0_mixed_14 {b : Nat} {fs : List Value} {a0 : Int32} {r : Int32} {P1 : xH} (hst : (st.map fun v => v.category).sum ≤ 8) (hP : P.1 b = some (xO 0 fs)) (hC : xC w d mX0_spanEnd [.ref b, .int a0] P (xRet (some (.int r)) P1)) (k : X w mX0_mixed (d + 1) Q 17 ls (.int r :: st) P1) : X w mX0_mixed (d + 1) Q 14 ls (.int a0 :: .ref b :: st) P := X_callV (M := mX0_mixed) (MC := mX0_spanEnd) (As := [.int a0]) (T := TX0) (dX0_mixed_14) calX0_spanEnd xw_29 xw_30 xw_31 rfl rfl hP hC hst (fun v P2 h => by obtain ⟨h1, rfl⟩ := h; cases h1; exact k) (fun q P2 h => by cases h.1)
theorem sX0_mixed_14_t {b : Nat} {fs : List Value} {a0 : Int32} {q : Nat} {P1 : xH} (hst : (st.map fun v => v.category).sum ≤ 8) (hP : P.1 b = some (xO 0 fs)) (hC : xC w d mX0_spanEnd [.ref b, .int a0] P (xThr q P1)) (hq : Q (.threw q) P1) : X w mX0_mixed (d + 1) Q 14 ls (.int a0 :: .ref b :: st) P := X_callV (M := mX0_mixed) (MC := mX0_spanEnd) (As := [.int a0]) (T := TX0) (dX0_mixed_14) calX0_spanEnd xw_29 xw_30 xw_31 rfl rfl hP hC hst (fun v P2 h => by cases h.1) (fun q2 P2 h => by obtain ⟨h1, rfl⟩ := h; cases h1; exact Xt_out rfl hq)
theorem dX0_mixed_17 : decode cX0_mixed 17 = .ok (.iaload, 1) := by decide +kernel
theorem sX0_mixed_17 {a n : Nat} {f : Nat → Int32} {i : Int32} (hP : P.1 a = some (xA 0 n f)) (hi : vp_in i n) (k : X w mX0_mixed d Q 18 ls (.int (f i.toNatClampNeg) :: st) P) : X w mX0_mixed d Q 17 ls (.int i :: .ref a :: st) P := X_iald (M := mX0_mixed) (dX0_mixed_17) hP hi k
theorem dX0_mixed_18 : decode cX0_mixed 18 = .ok (.istore 6, 2) := by decide +kernel
theorem sX0_mixed_18 {l0 l1 l2 l3 l4 l5 l6 : Option Value} {x : Int32} (hn : xnl l5 = true) (k : X w mX0_mixed d Q 20 [l0, l1, l2, l3, l4, l5, some (.int x)] st P) : X w mX0_mixed d Q 18 [l0, l1, l2, l3, l4, l5, l6] (.int x :: st) P := X_istore (M := mX0_mixed) (dX0_mixed_18) (by decide) rfl (xnl_p (ls := [l0, l1, l2, l3, l4, l5, l6]) (j := 5) rfl hn) k
theorem dX0_mixed_20 : decode cX0_mixed 20 = .ok (.iload 6, 2) := by decide +kernel
theorem sX0_mixed_20 {l0 l1 l2 l3 l4 l5 : Option Value} {x : Int32} (k : X w mX0_mixed d Q 22 [l0, l1, l2, l3, l4, l5, some (.int x)] (.int x :: st) P) : X w mX0_mixed d Q 20 [l0, l1, l2, l3, l4, l5, some (.int x)] st P := X_iload (M := mX0_mixed) (dX0_mixed_20) rfl k
theorem dX0_mixed_22 : decode cX0_mixed 22 = .ok (.iload 5, 2) := by decide +kernel
theorem sX0_mixed_22 {l0 l1 l2 l3 l4 l6 : Option Value} {x : Int32} (k : X w mX0_mixed d Q 24 [l0, l1, l2, l3, l4, some (.int x), l6] (.int x :: st) P) : X w mX0_mixed d Q 22 [l0, l1, l2, l3, l4, some (.int x), l6] st P := X_iload (M := mX0_mixed) (dX0_mixed_22) rfl k
theorem dX0_mixed_24 : decode cX0_mixed 24 = .ok (.if_icmp .gt 5, 3) := by decide +kernel
theorem sX0_mixed_24 {x y : Int32} (kt : y < x → X w mX0_mixed d Q 29 ls st P) (kf : ¬ y < x → X w mX0_mixed d Q 27 ls st P) : X w mX0_mixed d Q 24 ls (.int y :: .int x :: st) P := X_icmp_gt (M := mX0_mixed) (dX0_mixed_24) (by decide) kt kf
theorem dX0_mixed_27 : decode cX0_mixed 27 = .ok (.iload_n 1, 1) := by decide +kernel
theorem sX0_mixed_27 {l0 l2 l3 l4 l5 l6 : Option Value} {x : Int32} (k : X w mX0_mixed d Q 28 [l0, some (.int x), l2, l3, l4, l5, l6] (.int x :: st) P) : X w mX0_mixed d Q 27 [l0, some (.int x), l2, l3, l4, l5, l6] st P := X_iload_n (M := mX0_mixed) (dX0_mixed_27) rfl rfl k
theorem dX0_mixed_28 : decode cX0_mixed 28 = .ok (.ireturn, 1) := by decide +kernel
theorem sX0_mixed_28 {v : Int32} (hq : Q (.returned (some (.int v))) P) : X w mX0_mixed d Q 28 ls [.int v] P := X_iret (M := mX0_mixed) (dX0_mixed_28) rfl hq
theorem dX0_mixed_29 : decode cX0_mixed 29 = .ok (.iload_n 1, 1) := by decide +kernel
theorem sX0_mixed_29 {l0 l2 l3 l4 l5 l6 : Option Value} {x : Int32} (k : X w mX0_mixed d Q 30 [l0, some (.int x), l2, l3, l4, l5, l6] (.int x :: st) P) : X w mX0_mixed d Q 29 [l0, some (.int x), l2, l3, l4, l5, l6] st P := X_iload_n (M := mX0_mixed) (dX0_mixed_29) rfl rfl k
theorem dX0_mixed_30 : decode cX0_mixed 30 = .ok (.iload_n 2, 1) := by decide +kernel
theorem sX0_mixed_30 {l0 l1 l3 l4 l5 l6 : Option Value} {x : Int32} (k : X w mX0_mixed d Q 31 [l0, l1, some (.int x), l3, l4, l5, l6] (.int x :: st) P) : X w mX0_mixed d Q 30 [l0, l1, some (.int x), l3, l4, l5, l6] st P := X_iload_n (M := mX0_mixed) (dX0_mixed_30) rfl rfl k
theorem dX0_mixed_31 : decode cX0_mixed 31 = .ok (.iload_n 1, 1) := by decide +kernel
theorem sX0_mixed_31 {l0 l2 l3 l4 l5 l6 : Option Value} {x : Int32} (k : X w mX0_mixed d Q 32 [l0, some (.int x), l2, l3, l4, l5, l6] (.int x :: st) P) : X w mX0_mixed d Q 31 [l0, some (.int x), l2, l3, l4, l5, l6] st P := X_iload_n (M := mX0_mixed) (dX0_mixed_31) rfl rfl k
theorem dX0_mixed_32 : decode cX0_mixed 32 = .ok (.isub, 1) := by decide +kernel
theorem sX0_mixed_32 {x y : Int32} (k : X w mX0_mixed d Q 33 ls (.int (x - y) :: st) P) : X w mX0_mixed d Q 32 ls (.int y :: .int x :: st) P := X_isub (M := mX0_mixed) (dX0_mixed_32) k
theorem dX0_mixed_33 : decode cX0_mixed 33 = .ok (.i2l, 1) := by decide +kernel
theorem sX0_mixed_33 {x : Int32} (k : X w mX0_mixed d Q 34 ls (.long x.toInt64 :: st) P) : X w mX0_mixed d Q 33 ls (.int x :: st) P := X_i2l (M := mX0_mixed) (dX0_mixed_33) k
theorem dX0_mixed_34 : decode cX0_mixed 34 = .ok (.iload 4, 2) := by decide +kernel
theorem sX0_mixed_34 {l0 l1 l2 l3 l5 l6 : Option Value} {x : Int32} (k : X w mX0_mixed d Q 36 [l0, l1, l2, l3, some (.int x), l5, l6] (.int x :: st) P) : X w mX0_mixed d Q 34 [l0, l1, l2, l3, some (.int x), l5, l6] st P := X_iload (M := mX0_mixed) (dX0_mixed_34) rfl k
theorem dX0_mixed_36 : decode cX0_mixed 36 = .ok (.iload 5, 2) := by decide +kernel
theorem sX0_mixed_36 {l0 l1 l2 l3 l4 l6 : Option Value} {x : Int32} (k : X w mX0_mixed d Q 38 [l0, l1, l2, l3, l4, some (.int x), l6] (.int x :: st) P) : X w mX0_mixed d Q 36 [l0, l1, l2, l3, l4, some (.int x), l6] st P := X_iload (M := mX0_mixed) (dX0_mixed_36) rfl k
theorem dX0_mixed_38 : decode cX0_mixed 38 = .ok (.isub, 1) := by decide +kernel
theorem sX0_mixed_38 {x y : Int32} (k : X w mX0_mixed d Q 39 ls (.int (x - y) :: st) P) : X w mX0_mixed d Q 38 ls (.int y :: .int x :: st) P := X_isub (M := mX0_mixed) (dX0_mixed_38) k
theorem dX0_mixed_39 : decode cX0_mixed 39 = .ok (.i2l, 1) := by decide +kernel
theorem sX0_mixed_39 {x : Int32} (k : X w mX0_mixed d Q 40 ls (.long x.toInt64 :: st) P) : X w mX0_mixed d Q 39 ls (.int x :: st) P := X_i2l (M := mX0_mixed) (dX0_mixed_39) k
theorem dX0_mixed_40 : decode cX0_mixed 40 = .ok (.lmul, 1) := by decide +kernel
theorem sX0_mixed_40 {x y : Int64} (k : X w mX0_mixed d Q 41 ls (.long (x * y) :: st) P) : X w mX0_mixed d Q 40 ls (.long y :: .long x :: st) P := X_lmul (M := mX0_mixed) (dX0_mixed_40) k
theorem dX0_mixed_41 : decode cX0_mixed 41 = .ok (.iload 6, 2) := by decide +kernel
theorem sX0_mixed_41 {l0 l1 l2 l3 l4 l5 : Option Value} {x : Int32} (k : X w mX0_mixed d Q 43 [l0, l1, l2, l3, l4, l5, some (.int x)] (.int x :: st) P) : X w mX0_mixed d Q 41 [l0, l1, l2, l3, l4, l5, some (.int x)] st P := X_iload (M := mX0_mixed) (dX0_mixed_41) rfl k
theorem dX0_mixed_43 : decode cX0_mixed 43 = .ok (.iload 5, 2) := by decide +kernel
theorem sX0_mixed_43 {l0 l1 l2 l3 l4 l6 : Option Value} {x : Int32} (k : X w mX0_mixed d Q 45 [l0, l1, l2, l3, l4, some (.int x), l6] (.int x :: st) P) : X w mX0_mixed d Q 43 [l0, l1, l2, l3, l4, some (.int x), l6] st P := X_iload (M := mX0_mixed) (dX0_mixed_43) rfl k
theorem dX0_mixed_45 : decode cX0_mixed 45 = .ok (.isub, 1) := by decide +kernel
theorem sX0_mixed_45 {x y : Int32} (k : X w mX0_mixed d Q 46 ls (.int (x - y) :: st) P) : X w mX0_mixed d Q 45 ls (.int y :: .int x :: st) P := X_isub (M := mX0_mixed) (dX0_mixed_45) k
theorem dX0_mixed_46 : decode cX0_mixed 46 = .ok (.i2l, 1) := by decide +kernel
theorem sX0_mixed_46 {x : Int32} (k : X w mX0_mixed d Q 47 ls (.long x.toInt64 :: st) P) : X w mX0_mixed d Q 46 ls (.int x :: st) P := X_i2l (M := mX0_mixed) (dX0_mixed_46) k
theorem dX0_mixed_47 : decode cX0_mixed 47 = .ok (.invokestatic 32, 3) := by decide +kernel
theorem sX0_mixed_47_g {a0 : Int64} {a1 : Int64} {Qc : Outcome → xH → Prop} (hst : (st.map fun v => v.category).sum ≤ 8) (hC : xC w d mJ9_floorDiv_f86c9 [.long a0, .long a1] P Qc) (kr : ∀ v P1, Qc (.returned v) P1 → X w mX0_mixed (d + 1) Q 50 ls (v.toList ++ st) P1) (kt : ∀ q P1, Qc (.threw q) P1 → Xt w mX0_mixed (d + 1) Q 47 ls st P1 q) : X w mX0_mixed (d + 1) Q 47 ls (.long a1 :: .long a0 :: st) P := X_callS (M := mX0_mixed) (MC := mJ9_floorDiv_f86c9) (As := [.long a0, .long a1]) (dX0_mixed_47) calJ9_floorDiv_f86c9 xw_32 xw_33 rfl hC hst kr kt
theorem sX0_mixed_47 {a0 : Int64} {a1 : Int64} {r : Int64} {P1 : xH} (hst : (st.map fun v => v.category).sum ≤ 8) (hC : xC w d mJ9_floorDiv_f86c9 [.long a0, .long a1] P (xRet (some (.long r)) P1)) (k : X w mX0_mixed (d + 1) Q 50 ls (.long r :: st) P1) : X w mX0_mixed (d + 1) Q 47 ls (.long a1 :: .long a0 :: st) P := X_callS (M := mX0_mixed) (MC := mJ9_floorDiv_f86c9) (As := [.long a0, .long a1]) (dX0_mixed_47) calJ9_floorDiv_f86c9 xw_32 xw_33 rfl hC hst (fun v P2 h => by obtain ⟨h1, rfl⟩ := h; cases h1; exact k) (fun q P2 h => by cases h.1)
theorem sX0_mixed_47_t {a0 : Int64} {a1 : Int64} {q : Nat} {P1 : xH} (hst : (st.map fun v => v.category).sum ≤ 8) (hC : xC w d mJ9_floorDiv_f86c9 [.long a0, .long a1] P (xThr q P1)) (hq : Q (.threw q) P1) : X w mX0_mixed (d + 1) Q 47 ls (.long a1 :: .long a0 :: st) P := X_callS (M := mX0_mixed) (MC := mJ9_floorDiv_f86c9) (As := [.long a0, .long a1]) (dX0_mixed_47) calJ9_floorDiv_f86c9 xw_32 xw_33 rfl hC hst (fun v P2 h => by cases h.1) (fun q2 P2 h => by obtain ⟨h1, rfl⟩ := h; cases h1; exact Xt_out rfl hq)
theorem dX0_mixed_50 : decode cX0_mixed 50 = .ok (.l2i, 1) := by decide +kernel
theorem sX0_mixed_50 {x : Int64} (k : X w mX0_mixed d Q 51 ls (.int x.toInt32 :: st) P) : X w mX0_mixed d Q 50 ls (.long x :: st) P := X_l2i (M := mX0_mixed) (dX0_mixed_50) k
theorem dX0_mixed_51 : decode cX0_mixed 51 = .ok (.iadd, 1) := by decide +kernel
theorem sX0_mixed_51 {x y : Int32} (k : X w mX0_mixed d Q 52 ls (.int (x + y) :: st) P) : X w mX0_mixed d Q 51 ls (.int y :: .int x :: st) P := X_iadd (M := mX0_mixed) (dX0_mixed_51) k
theorem dX0_mixed_52 : decode cX0_mixed 52 = .ok (.ireturn, 1) := by decide +kernel
theorem sX0_mixed_52 {v : Int32} (hq : Q (.returned (some (.int v))) P) : X w mX0_mixed d Q 52 ls [.int v] P := X_iret (M := mX0_mixed) (dX0_mixed_52) rfl hq
theorem dX2_within_0 : decode cX2_within 0 = .ok (.lload_n 0, 1) := by decide +kernel
theorem sX2_within_0 {l1 l2 : Option Value} {x : Int64} (k : X w mX2_within d Q 1 [some (.long x), l1, l2] (.long x :: st) P) : X w mX2_within d Q 0 [some (.long x), l1, l2] st P := X_lload_n (M := mX2_within) (dX2_within_0) rfl rfl k
theorem dX2_within_1 : decode cX2_within 1 = .ok (.ldc2_w 9, 3) := by decide +kernel
theorem sX2_within_1 (k : X w mX2_within d Q 4 ls (.long (-1 : Int64) :: st) P) : X w mX2_within d Q 1 ls st P := X_ldc2 (M := mX2_within) (dX2_within_1) xw_34 k
theorem dX2_within_4 : decode cX2_within 4 = .ok (.bipush 64, 2) := by decide +kernel
theorem sX2_within_4 (k : X w mX2_within d Q 6 ls (.int (64 : Int32) :: st) P) : X w mX2_within d Q 4 ls st P := X_bipush (M := mX2_within) (dX2_within_4) (by decide) k
theorem dX2_within_6 : decode cX2_within 6 = .ok (.iload_n 2, 1) := by decide +kernel
theorem sX2_within_6 {l0 l1 : Option Value} {x : Int32} (k : X w mX2_within d Q 7 [l0, l1, some (.int x)] (.int x :: st) P) : X w mX2_within d Q 6 [l0, l1, some (.int x)] st P := X_iload_n (M := mX2_within) (dX2_within_6) rfl rfl k
theorem dX2_within_7 : decode cX2_within 7 = .ok (.isub, 1) := by decide +kernel
theorem sX2_within_7 {x y : Int32} (k : X w mX2_within d Q 8 ls (.int (x - y) :: st) P) : X w mX2_within d Q 7 ls (.int y :: .int x :: st) P := X_isub (M := mX2_within) (dX2_within_7) k
theorem dX2_within_8 : decode cX2_within 8 = .ok (.lushr, 1) := by decide +kernel
theorem sX2_within_8 {x : Int64} {y : Int32} (k : X w mX2_within d Q 9 ls (.long ((x.toUInt64 >>> (y.toInt64.toUInt64 &&& Int64.toUInt64 63)).toInt64) :: st) P) : X w mX2_within d Q 8 ls (.int y :: .long x :: st) P := X_lushr (M := mX2_within) (dX2_within_8) k
theorem dX2_within_9 : decode cX2_within 9 = .ok (.land, 1) := by decide +kernel
theorem sX2_within_9 {x y : Int64} (k : X w mX2_within d Q 10 ls (.long (x &&& y) :: st) P) : X w mX2_within d Q 9 ls (.long y :: .long x :: st) P := X_land (M := mX2_within) (dX2_within_9) k
theorem dX2_within_10 : decode cX2_within 10 = .ok (.lreturn, 1) := by decide +kernel
theorem sX2_within_10 {v : Int64} (hq : Q (.returned (some (.long v))) P) : X w mX2_within d Q 10 ls [.long v] P := X_lret (M := mX2_within) (dX2_within_10) rfl hq
theorem dX2_senseOf_0 : decode cX2_senseOf 0 = .ok (.lload_n 0, 1) := by decide +kernel
theorem sX2_senseOf_0 {l1 l2 l3 l4 l5 l6 l7 l8 : Option Value} {x : Int64} (k : X w mX2_senseOf d Q 1 [some (.long x), l1, l2, l3, l4, l5, l6, l7, l8] (.long x :: st) P) : X w mX2_senseOf d Q 0 [some (.long x), l1, l2, l3, l4, l5, l6, l7, l8] st P := X_lload_n (M := mX2_senseOf) (dX2_senseOf_0) rfl rfl k
theorem dX2_senseOf_1 : decode cX2_senseOf 1 = .ok (.getstatic 11, 3) := by decide +kernel
theorem sX2_senseOf_1 (k : X w mX2_senseOf d Q 4 ls (.ref (w.ad 1) :: st) P) : X w mX2_senseOf d Q 1 ls st P := X_getsIn (M := mX2_senseOf) (dX2_senseOf_1) xw_35 k
theorem dX2_senseOf_4 : decode cX2_senseOf 4 = .ok (.iload_n 2, 1) := by decide +kernel
theorem sX2_senseOf_4 {l0 l1 l3 l4 l5 l6 l7 l8 : Option Value} {x : Int32} (k : X w mX2_senseOf d Q 5 [l0, l1, some (.int x), l3, l4, l5, l6, l7, l8] (.int x :: st) P) : X w mX2_senseOf d Q 4 [l0, l1, some (.int x), l3, l4, l5, l6, l7, l8] st P := X_iload_n (M := mX2_senseOf) (dX2_senseOf_4) rfl rfl k
theorem dX2_senseOf_5 : decode cX2_senseOf 5 = .ok (.laload, 1) := by decide +kernel
theorem sX2_senseOf_5 {a n : Nat} {f : Nat → Int64} {i : Int32} (hP : P.1 a = some (xJ n f)) (hi : vp_in i n) (k : X w mX2_senseOf d Q 6 ls (.long (f i.toNatClampNeg) :: st) P) : X w mX2_senseOf d Q 5 ls (.int i :: .ref a :: st) P := X_lald (M := mX2_senseOf) (dX2_senseOf_5) hP hi k
theorem sX2_senseOf_5_in {i : Int32} (hi : vp_in i 6) (k : X w mX2_senseOf d Q 6 ls (.long (xN i.toNatClampNeg) :: st) P) : X w mX2_senseOf d Q 5 ls (.int i :: .ref (w.ad 1) :: st) P := X_inld (M := mX2_senseOf) (dX2_senseOf_5) hi k
theorem dX2_senseOf_6 : decode cX2_senseOf 6 = .ok (.ldc2_w 9, 3) := by decide +kernel
theorem sX2_senseOf_6 (k : X w mX2_senseOf d Q 9 ls (.long (-1 : Int64) :: st) P) : X w mX2_senseOf d Q 6 ls st P := X_ldc2 (M := mX2_senseOf) (dX2_senseOf_6) xw_34 k
theorem dX2_senseOf_9 : decode cX2_senseOf 9 = .ok (.lxor, 1) := by decide +kernel
theorem sX2_senseOf_9 {x y : Int64} (k : X w mX2_senseOf d Q 10 ls (.long (x ^^^ y) :: st) P) : X w mX2_senseOf d Q 9 ls (.long y :: .long x :: st) P := X_lxor (M := mX2_senseOf) (dX2_senseOf_9) k
theorem dX2_senseOf_10 : decode cX2_senseOf 10 = .ok (.land, 1) := by decide +kernel
theorem sX2_senseOf_10 {x y : Int64} (k : X w mX2_senseOf d Q 11 ls (.long (x &&& y) :: st) P) : X w mX2_senseOf d Q 10 ls (.long y :: .long x :: st) P := X_land (M := mX2_senseOf) (dX2_senseOf_10) k
theorem dX2_senseOf_11 : decode cX2_senseOf 11 = .ok (.lstore_n 3, 1) := by decide +kernel
theorem sX2_senseOf_11 {l0 l1 l2 l3 l4 l5 l6 l7 l8 : Option Value} {x : Int64} (hn : xnl l2 = true) (k : X w mX2_senseOf d Q 12 [l0, l1, l2, some (.long x), none, l5, l6, l7, l8] st P) : X w mX2_senseOf d Q 11 [l0, l1, l2, l3, l4, l5, l6, l7, l8] (.long x :: st) P := X_lstore_n (M := mX2_senseOf) (dX2_senseOf_11) rfl (by decide) rfl (xnl_p (ls := [l0, l1, l2, l3, l4, l5, l6, l7, l8]) (j := 2) rfl hn) k
theorem dX2_senseOf_12 : decode cX2_senseOf 12 = .ok (.lload_n 0, 1) := by decide +kernel
theorem sX2_senseOf_12 {l1 l2 l3 l4 l5 l6 l7 l8 : Option Value} {x : Int64} (k : X w mX2_senseOf d Q 13 [some (.long x), l1, l2, l3, l4, l5, l6, l7, l8] (.long x :: st) P) : X w mX2_senseOf d Q 12 [some (.long x), l1, l2, l3, l4, l5, l6, l7, l8] st P := X_lload_n (M := mX2_senseOf) (dX2_senseOf_12) rfl rfl k
theorem dX2_senseOf_13 : decode cX2_senseOf 13 = .ok (.getstatic 11, 3) := by decide +kernel
theorem sX2_senseOf_13 (k : X w mX2_senseOf d Q 16 ls (.ref (w.ad 1) :: st) P) : X w mX2_senseOf d Q 13 ls st P := X_getsIn (M := mX2_senseOf) (dX2_senseOf_13) xw_35 k
theorem dX2_senseOf_16 : decode cX2_senseOf 16 = .ok (.iload_n 2, 1) := by decide +kernel
theorem sX2_senseOf_16 {l0 l1 l3 l4 l5 l6 l7 l8 : Option Value} {x : Int32} (k : X w mX2_senseOf d Q 17 [l0, l1, some (.int x), l3, l4, l5, l6, l7, l8] (.int x :: st) P) : X w mX2_senseOf d Q 16 [l0, l1, some (.int x), l3, l4, l5, l6, l7, l8] st P := X_iload_n (M := mX2_senseOf) (dX2_senseOf_16) rfl rfl k
theorem dX2_senseOf_17 : decode cX2_senseOf 17 = .ok (.laload, 1) := by decide +kernel
theorem sX2_senseOf_17 {a n : Nat} {f : Nat → Int64} {i : Int32} (hP : P.1 a = some (xJ n f)) (hi : vp_in i n) (k : X w mX2_senseOf d Q 18 ls (.long (f i.toNatClampNeg) :: st) P) : X w mX2_senseOf d Q 17 ls (.int i :: .ref a :: st) P := X_lald (M := mX2_senseOf) (dX2_senseOf_17) hP hi k
theorem sX2_senseOf_17_in {i : Int32} (hi : vp_in i 6) (k : X w mX2_senseOf d Q 18 ls (.long (xN i.toNatClampNeg) :: st) P) : X w mX2_senseOf d Q 17 ls (.int i :: .ref (w.ad 1) :: st) P := X_inld (M := mX2_senseOf) (dX2_senseOf_17) hi k
theorem dX2_senseOf_18 : decode cX2_senseOf 18 = .ok (.land, 1) := by decide +kernel
theorem sX2_senseOf_18 {x y : Int64} (k : X w mX2_senseOf d Q 19 ls (.long (x &&& y) :: st) P) : X w mX2_senseOf d Q 18 ls (.long y :: .long x :: st) P := X_land (M := mX2_senseOf) (dX2_senseOf_18) k
theorem dX2_senseOf_19 : decode cX2_senseOf 19 = .ok (.iconst 1, 1) := by decide +kernel
theorem sX2_senseOf_19 (k : X w mX2_senseOf d Q 20 ls (.int (1 : Int32) :: st) P) : X w mX2_senseOf d Q 19 ls st P := X_iconst (M := mX2_senseOf) (dX2_senseOf_19) (by decide) k
theorem dX2_senseOf_20 : decode cX2_senseOf 20 = .ok (.iload_n 2, 1) := by decide +kernel
theorem sX2_senseOf_20 {l0 l1 l3 l4 l5 l6 l7 l8 : Option Value} {x : Int32} (k : X w mX2_senseOf d Q 21 [l0, l1, some (.int x), l3, l4, l5, l6, l7, l8] (.int x :: st) P) : X w mX2_senseOf d Q 20 [l0, l1, some (.int x), l3, l4, l5, l6, l7, l8] st P := X_iload_n (M := mX2_senseOf) (dX2_senseOf_20) rfl rfl k
theorem dX2_senseOf_21 : decode cX2_senseOf 21 = .ok (.ishl, 1) := by decide +kernel
theorem sX2_senseOf_21 {x y : Int32} (k : X w mX2_senseOf d Q 22 ls (.int (x <<< (y &&& 31)) :: st) P) : X w mX2_senseOf d Q 21 ls (.int y :: .int x :: st) P := X_ishl (M := mX2_senseOf) (dX2_senseOf_21) k
theorem dX2_senseOf_22 : decode cX2_senseOf 22 = .ok (.lushr, 1) := by decide +kernel
theorem sX2_senseOf_22 {x : Int64} {y : Int32} (k : X w mX2_senseOf d Q 23 ls (.long ((x.toUInt64 >>> (y.toInt64.toUInt64 &&& Int64.toUInt64 63)).toInt64) :: st) P) : X w mX2_senseOf d Q 22 ls (.int y :: .long x :: st) P := X_lushr (M := mX2_senseOf) (dX2_senseOf_22) k
theorem dX2_senseOf_23 : decode cX2_senseOf 23 = .ok (.lstore 5, 2) := by decide +kernel
theorem sX2_senseOf_23 {l0 l1 l2 l3 l4 l5 l6 l7 l8 : Option Value} {x : Int64} (hn : xnl l4 = true) (k : X w mX2_senseOf d Q 25 [l0, l1, l2, l3, l4, some (.long x), none, l7, l8] st P) : X w mX2_senseOf d Q 23 [l0, l1, l2, l3, l4, l5, l6, l7, l8] (.long x :: st) P := X_lstore (M := mX2_senseOf) (dX2_senseOf_23) (by decide) rfl (xnl_p (ls := [l0, l1, l2, l3, l4, l5, l6, l7, l8]) (j := 4) rfl hn) k
theorem dX2_senseOf_25 : decode cX2_senseOf 25 = .ok (.lload 5, 2) := by decide +kernel
theorem sX2_senseOf_25 {l0 l1 l2 l3 l4 l6 l7 l8 : Option Value} {x : Int64} (k : X w mX2_senseOf d Q 27 [l0, l1, l2, l3, l4, some (.long x), l6, l7, l8] (.long x :: st) P) : X w mX2_senseOf d Q 25 [l0, l1, l2, l3, l4, some (.long x), l6, l7, l8] st P := X_lload (M := mX2_senseOf) (dX2_senseOf_25) rfl k
theorem dX2_senseOf_27 : decode cX2_senseOf 27 = .ok (.lload_n 3, 1) := by decide +kernel
theorem sX2_senseOf_27 {l0 l1 l2 l4 l5 l6 l7 l8 : Option Value} {x : Int64} (k : X w mX2_senseOf d Q 28 [l0, l1, l2, some (.long x), l4, l5, l6, l7, l8] (.long x :: st) P) : X w mX2_senseOf d Q 27 [l0, l1, l2, some (.long x), l4, l5, l6, l7, l8] st P := X_lload_n (M := mX2_senseOf) (dX2_senseOf_27) rfl rfl k
theorem dX2_senseOf_28 : decode cX2_senseOf 28 = .ok (.ldc2_w 9, 3) := by decide +kernel
theorem sX2_senseOf_28 (k : X w mX2_senseOf d Q 31 ls (.long (-1 : Int64) :: st) P) : X w mX2_senseOf d Q 28 ls st P := X_ldc2 (M := mX2_senseOf) (dX2_senseOf_28) xw_34 k
theorem dX2_senseOf_31 : decode cX2_senseOf 31 = .ok (.lxor, 1) := by decide +kernel
theorem sX2_senseOf_31 {x y : Int64} (k : X w mX2_senseOf d Q 32 ls (.long (x ^^^ y) :: st) P) : X w mX2_senseOf d Q 31 ls (.long y :: .long x :: st) P := X_lxor (M := mX2_senseOf) (dX2_senseOf_31) k
theorem dX2_senseOf_32 : decode cX2_senseOf 32 = .ok (.land, 1) := by decide +kernel
theorem sX2_senseOf_32 {x y : Int64} (k : X w mX2_senseOf d Q 33 ls (.long (x &&& y) :: st) P) : X w mX2_senseOf d Q 32 ls (.long y :: .long x :: st) P := X_land (M := mX2_senseOf) (dX2_senseOf_32) k
theorem dX2_senseOf_33 : decode cX2_senseOf 33 = .ok (.lconst 0, 1) := by decide +kernel
theorem sX2_senseOf_33 (k : X w mX2_senseOf d Q 34 ls (.long (0 : Int64) :: st) P) : X w mX2_senseOf d Q 33 ls st P := X_lconst (M := mX2_senseOf) (dX2_senseOf_33) (by decide) k
theorem dX2_senseOf_34 : decode cX2_senseOf 34 = .ok (.lcmp, 1) := by decide +kernel
theorem sX2_senseOf_34 {x y : Int64} (k : X w mX2_senseOf d Q 35 ls (.int (lg_cmp x y) :: st) P) : X w mX2_senseOf d Q 34 ls (.long y :: .long x :: st) P := X_lcmp (M := mX2_senseOf) (dX2_senseOf_34) k
theorem dX2_senseOf_35 : decode cX2_senseOf 35 = .ok (.ifCond .eq 7, 3) := by decide +kernel
theorem sX2_senseOf_35 {x : Int32} (kt : x = 0 → X w mX2_senseOf d Q 42 ls st P) (kf : ¬ x = 0 → X w mX2_senseOf d Q 38 ls st P) : X w mX2_senseOf d Q 35 ls (.int x :: st) P := X_if_eq (M := mX2_senseOf) (dX2_senseOf_35) (by decide) kt kf
theorem dX2_senseOf_38 : decode cX2_senseOf 38 = .ok (.iconst 1, 1) := by decide +kernel
theorem sX2_senseOf_38 (k : X w mX2_senseOf d Q 39 ls (.int (1 : Int32) :: st) P) : X w mX2_senseOf d Q 38 ls st P := X_iconst (M := mX2_senseOf) (dX2_senseOf_38) (by decide) k
theorem dX2_senseOf_39 : decode cX2_senseOf 39 = .ok (.goto 4, 3) := by decide +kernel
theorem sX2_senseOf_39 (k : X w mX2_senseOf d Q 43 ls st P) : X w mX2_senseOf d Q 39 ls st P := X_goto (M := mX2_senseOf) (dX2_senseOf_39) (by decide) k
theorem dX2_senseOf_42 : decode cX2_senseOf 42 = .ok (.iconst 0, 1) := by decide +kernel
theorem sX2_senseOf_42 (k : X w mX2_senseOf d Q 43 ls (.int (0 : Int32) :: st) P) : X w mX2_senseOf d Q 42 ls st P := X_iconst (M := mX2_senseOf) (dX2_senseOf_42) (by decide) k
theorem dX2_senseOf_43 : decode cX2_senseOf 43 = .ok (.istore 7, 2) := by decide +kernel
theorem sX2_senseOf_43 {l0 l1 l2 l3 l4 l5 l6 l7 l8 : Option Value} {x : Int32} (hn : xnl l6 = true) (k : X w mX2_senseOf d Q 45 [l0, l1, l2, l3, l4, l5, l6, some (.int x), l8] st P) : X w mX2_senseOf d Q 43 [l0, l1, l2, l3, l4, l5, l6, l7, l8] (.int x :: st) P := X_istore (M := mX2_senseOf) (dX2_senseOf_43) (by decide) rfl (xnl_p (ls := [l0, l1, l2, l3, l4, l5, l6, l7, l8]) (j := 6) rfl hn) k
theorem dX2_senseOf_45 : decode cX2_senseOf 45 = .ok (.lload_n 3, 1) := by decide +kernel
theorem sX2_senseOf_45 {l0 l1 l2 l4 l5 l6 l7 l8 : Option Value} {x : Int64} (k : X w mX2_senseOf d Q 46 [l0, l1, l2, some (.long x), l4, l5, l6, l7, l8] (.long x :: st) P) : X w mX2_senseOf d Q 45 [l0, l1, l2, some (.long x), l4, l5, l6, l7, l8] st P := X_lload_n (M := mX2_senseOf) (dX2_senseOf_45) rfl rfl k
theorem dX2_senseOf_46 : decode cX2_senseOf 46 = .ok (.lload 5, 2) := by decide +kernel
theorem sX2_senseOf_46 {l0 l1 l2 l3 l4 l6 l7 l8 : Option Value} {x : Int64} (k : X w mX2_senseOf d Q 48 [l0, l1, l2, l3, l4, some (.long x), l6, l7, l8] (.long x :: st) P) : X w mX2_senseOf d Q 46 [l0, l1, l2, l3, l4, some (.long x), l6, l7, l8] st P := X_lload (M := mX2_senseOf) (dX2_senseOf_46) rfl k
theorem dX2_senseOf_48 : decode cX2_senseOf 48 = .ok (.ldc2_w 9, 3) := by decide +kernel
theorem sX2_senseOf_48 (k : X w mX2_senseOf d Q 51 ls (.long (-1 : Int64) :: st) P) : X w mX2_senseOf d Q 48 ls st P := X_ldc2 (M := mX2_senseOf) (dX2_senseOf_48) xw_34 k
theorem dX2_senseOf_51 : decode cX2_senseOf 51 = .ok (.lxor, 1) := by decide +kernel
theorem sX2_senseOf_51 {x y : Int64} (k : X w mX2_senseOf d Q 52 ls (.long (x ^^^ y) :: st) P) : X w mX2_senseOf d Q 51 ls (.long y :: .long x :: st) P := X_lxor (M := mX2_senseOf) (dX2_senseOf_51) k
theorem dX2_senseOf_52 : decode cX2_senseOf 52 = .ok (.land, 1) := by decide +kernel
theorem sX2_senseOf_52 {x y : Int64} (k : X w mX2_senseOf d Q 53 ls (.long (x &&& y) :: st) P) : X w mX2_senseOf d Q 52 ls (.long y :: .long x :: st) P := X_land (M := mX2_senseOf) (dX2_senseOf_52) k
theorem dX2_senseOf_53 : decode cX2_senseOf 53 = .ok (.lconst 0, 1) := by decide +kernel
theorem sX2_senseOf_53 (k : X w mX2_senseOf d Q 54 ls (.long (0 : Int64) :: st) P) : X w mX2_senseOf d Q 53 ls st P := X_lconst (M := mX2_senseOf) (dX2_senseOf_53) (by decide) k
theorem dX2_senseOf_54 : decode cX2_senseOf 54 = .ok (.lcmp, 1) := by decide +kernel
theorem sX2_senseOf_54 {x y : Int64} (k : X w mX2_senseOf d Q 55 ls (.int (lg_cmp x y) :: st) P) : X w mX2_senseOf d Q 54 ls (.long y :: .long x :: st) P := X_lcmp (M := mX2_senseOf) (dX2_senseOf_54) k
theorem dX2_senseOf_55 : decode cX2_senseOf 55 = .ok (.ifCond .eq 7, 3) := by decide +kernel
theorem sX2_senseOf_55 {x : Int32} (kt : x = 0 → X w mX2_senseOf d Q 62 ls st P) (kf : ¬ x = 0 → X w mX2_senseOf d Q 58 ls st P) : X w mX2_senseOf d Q 55 ls (.int x :: st) P := X_if_eq (M := mX2_senseOf) (dX2_senseOf_55) (by decide) kt kf
theorem dX2_senseOf_58 : decode cX2_senseOf 58 = .ok (.iconst 1, 1) := by decide +kernel
theorem sX2_senseOf_58 (k : X w mX2_senseOf d Q 59 ls (.int (1 : Int32) :: st) P) : X w mX2_senseOf d Q 58 ls st P := X_iconst (M := mX2_senseOf) (dX2_senseOf_58) (by decide) k
theorem dX2_senseOf_59 : decode cX2_senseOf 59 = .ok (.goto 4, 3) := by decide +kernel
theorem sX2_senseOf_59 (k : X w mX2_senseOf d Q 63 ls st P) : X w mX2_senseOf d Q 59 ls st P := X_goto (M := mX2_senseOf) (dX2_senseOf_59) (by decide) k
theorem dX2_senseOf_62 : decode cX2_senseOf 62 = .ok (.iconst 0, 1) := by decide +kernel
theorem sX2_senseOf_62 (k : X w mX2_senseOf d Q 63 ls (.int (0 : Int32) :: st) P) : X w mX2_senseOf d Q 62 ls st P := X_iconst (M := mX2_senseOf) (dX2_senseOf_62) (by decide) k
theorem dX2_senseOf_63 : decode cX2_senseOf 63 = .ok (.istore 8, 2) := by decide +kernel
theorem sX2_senseOf_63 {l0 l1 l2 l3 l4 l5 l6 l7 l8 : Option Value} {x : Int32} (hn : xnl l7 = true) (k : X w mX2_senseOf d Q 65 [l0, l1, l2, l3, l4, l5, l6, l7, some (.int x)] st P) : X w mX2_senseOf d Q 63 [l0, l1, l2, l3, l4, l5, l6, l7, l8] (.int x :: st) P := X_istore (M := mX2_senseOf) (dX2_senseOf_63) (by decide) rfl (xnl_p (ls := [l0, l1, l2, l3, l4, l5, l6, l7, l8]) (j := 7) rfl hn) k
theorem dX2_senseOf_65 : decode cX2_senseOf 65 = .ok (.iload 7, 2) := by decide +kernel
theorem sX2_senseOf_65 {l0 l1 l2 l3 l4 l5 l6 l8 : Option Value} {x : Int32} (k : X w mX2_senseOf d Q 67 [l0, l1, l2, l3, l4, l5, l6, some (.int x), l8] (.int x :: st) P) : X w mX2_senseOf d Q 65 [l0, l1, l2, l3, l4, l5, l6, some (.int x), l8] st P := X_iload (M := mX2_senseOf) (dX2_senseOf_65) rfl k
theorem dX2_senseOf_67 : decode cX2_senseOf 67 = .ok (.ifCond .eq 14, 3) := by decide +kernel
theorem sX2_senseOf_67 {x : Int32} (kt : x = 0 → X w mX2_senseOf d Q 81 ls st P) (kf : ¬ x = 0 → X w mX2_senseOf d Q 70 ls st P) : X w mX2_senseOf d Q 67 ls (.int x :: st) P := X_if_eq (M := mX2_senseOf) (dX2_senseOf_67) (by decide) kt kf
theorem dX2_senseOf_70 : decode cX2_senseOf 70 = .ok (.iload 8, 2) := by decide +kernel
theorem sX2_senseOf_70 {l0 l1 l2 l3 l4 l5 l6 l7 : Option Value} {x : Int32} (k : X w mX2_senseOf d Q 72 [l0, l1, l2, l3, l4, l5, l6, l7, some (.int x)] (.int x :: st) P) : X w mX2_senseOf d Q 70 [l0, l1, l2, l3, l4, l5, l6, l7, some (.int x)] st P := X_iload (M := mX2_senseOf) (dX2_senseOf_70) rfl k
theorem dX2_senseOf_72 : decode cX2_senseOf 72 = .ok (.ifCond .eq 7, 3) := by decide +kernel
theorem sX2_senseOf_72 {x : Int32} (kt : x = 0 → X w mX2_senseOf d Q 79 ls st P) (kf : ¬ x = 0 → X w mX2_senseOf d Q 75 ls st P) : X w mX2_senseOf d Q 72 ls (.int x :: st) P := X_if_eq (M := mX2_senseOf) (dX2_senseOf_72) (by decide) kt kf
theorem dX2_senseOf_75 : decode cX2_senseOf 75 = .ok (.iconst 0, 1) := by decide +kernel
theorem sX2_senseOf_75 (k : X w mX2_senseOf d Q 76 ls (.int (0 : Int32) :: st) P) : X w mX2_senseOf d Q 75 ls st P := X_iconst (M := mX2_senseOf) (dX2_senseOf_75) (by decide) k
theorem dX2_senseOf_76 : decode cX2_senseOf 76 = .ok (.goto 4, 3) := by decide +kernel
theorem sX2_senseOf_76 (k : X w mX2_senseOf d Q 80 ls st P) : X w mX2_senseOf d Q 76 ls st P := X_goto (M := mX2_senseOf) (dX2_senseOf_76) (by decide) k
theorem dX2_senseOf_79 : decode cX2_senseOf 79 = .ok (.iconst 1, 1) := by decide +kernel
theorem sX2_senseOf_79 (k : X w mX2_senseOf d Q 80 ls (.int (1 : Int32) :: st) P) : X w mX2_senseOf d Q 79 ls st P := X_iconst (M := mX2_senseOf) (dX2_senseOf_79) (by decide) k
theorem dX2_senseOf_80 : decode cX2_senseOf 80 = .ok (.ireturn, 1) := by decide +kernel
theorem sX2_senseOf_80 {v : Int32} (hq : Q (.returned (some (.int v))) P) : X w mX2_senseOf d Q 80 ls [.int v] P := X_iret (M := mX2_senseOf) (dX2_senseOf_80) rfl hq
theorem dX2_senseOf_81 : decode cX2_senseOf 81 = .ok (.iload 8, 2) := by decide +kernel
theorem sX2_senseOf_81 {l0 l1 l2 l3 l4 l5 l6 l7 : Option Value} {x : Int32} (k : X w mX2_senseOf d Q 83 [l0, l1, l2, l3, l4, l5, l6, l7, some (.int x)] (.int x :: st) P) : X w mX2_senseOf d Q 81 [l0, l1, l2, l3, l4, l5, l6, l7, some (.int x)] st P := X_iload (M := mX2_senseOf) (dX2_senseOf_81) rfl k
theorem dX2_senseOf_83 : decode cX2_senseOf 83 = .ok (.ifCond .eq 7, 3) := by decide +kernel
theorem sX2_senseOf_83 {x : Int32} (kt : x = 0 → X w mX2_senseOf d Q 90 ls st P) (kf : ¬ x = 0 → X w mX2_senseOf d Q 86 ls st P) : X w mX2_senseOf d Q 83 ls (.int x :: st) P := X_if_eq (M := mX2_senseOf) (dX2_senseOf_83) (by decide) kt kf
theorem dX2_senseOf_86 : decode cX2_senseOf 86 = .ok (.iconst (-1), 1) := by decide +kernel
theorem sX2_senseOf_86 (k : X w mX2_senseOf d Q 87 ls (.int (-1 : Int32) :: st) P) : X w mX2_senseOf d Q 86 ls st P := X_iconst (M := mX2_senseOf) (dX2_senseOf_86) (by decide) k
theorem dX2_senseOf_87 : decode cX2_senseOf 87 = .ok (.goto 4, 3) := by decide +kernel
theorem sX2_senseOf_87 (k : X w mX2_senseOf d Q 91 ls st P) : X w mX2_senseOf d Q 87 ls st P := X_goto (M := mX2_senseOf) (dX2_senseOf_87) (by decide) k
theorem dX2_senseOf_90 : decode cX2_senseOf 90 = .ok (.iconst 2, 1) := by decide +kernel
theorem sX2_senseOf_90 (k : X w mX2_senseOf d Q 91 ls (.int (2 : Int32) :: st) P) : X w mX2_senseOf d Q 90 ls st P := X_iconst (M := mX2_senseOf) (dX2_senseOf_90) (by decide) k
theorem dX2_senseOf_91 : decode cX2_senseOf 91 = .ok (.ireturn, 1) := by decide +kernel
theorem sX2_senseOf_91 {v : Int32} (hq : Q (.returned (some (.int v))) P) : X w mX2_senseOf d Q 91 ls [.int v] P := X_iret (M := mX2_senseOf) (dX2_senseOf_91) rfl hq
theorem dX4_packed_0 : decode cX4_packed 0 = .ok (.lconst 0, 1) := by decide +kernel
theorem sX4_packed_0 (k : X w mX4_packed d Q 1 ls (.long (0 : Int64) :: st) P) : X w mX4_packed d Q 0 ls st P := X_lconst (M := mX4_packed) (dX4_packed_0) (by decide) k
theorem dX4_packed_1 : decode cX4_packed 1 = .ok (.lstore_n 3, 1) := by decide +kernel
theorem sX4_packed_1 {l0 l1 l2 l3 l4 l5 : Option Value} {x : Int64} (hn : xnl l2 = true) (k : X w mX4_packed d Q 2 [l0, l1, l2, some (.long x), none, l5] st P) : X w mX4_packed d Q 1 [l0, l1, l2, l3, l4, l5] (.long x :: st) P := X_lstore_n (M := mX4_packed) (dX4_packed_1) rfl (by decide) rfl (xnl_p (ls := [l0, l1, l2, l3, l4, l5]) (j := 2) rfl hn) k
theorem dX4_packed_2 : decode cX4_packed 2 = .ok (.iconst 0, 1) := by decide +kernel
theorem sX4_packed_2 (k : X w mX4_packed d Q 3 ls (.int (0 : Int32) :: st) P) : X w mX4_packed d Q 2 ls st P := X_iconst (M := mX4_packed) (dX4_packed_2) (by decide) k
theorem dX4_packed_3 : decode cX4_packed 3 = .ok (.istore 5, 2) := by decide +kernel
theorem sX4_packed_3 {l0 l1 l2 l3 l4 l5 : Option Value} {x : Int32} (hn : xnl l4 = true) (k : X w mX4_packed d Q 5 [l0, l1, l2, l3, l4, some (.int x)] st P) : X w mX4_packed d Q 3 [l0, l1, l2, l3, l4, l5] (.int x :: st) P := X_istore (M := mX4_packed) (dX4_packed_3) (by decide) rfl (xnl_p (ls := [l0, l1, l2, l3, l4, l5]) (j := 4) rfl hn) k
theorem dX4_packed_5 : decode cX4_packed 5 = .ok (.iload 5, 2) := by decide +kernel
theorem sX4_packed_5 {l0 l1 l2 l3 l4 : Option Value} {x : Int32} (k : X w mX4_packed d Q 7 [l0, l1, l2, l3, l4, some (.int x)] (.int x :: st) P) : X w mX4_packed d Q 5 [l0, l1, l2, l3, l4, some (.int x)] st P := X_iload (M := mX4_packed) (dX4_packed_5) rfl k
theorem dX4_packed_7 : decode cX4_packed 7 = .ok (.bipush 8, 2) := by decide +kernel
theorem sX4_packed_7 (k : X w mX4_packed d Q 9 ls (.int (8 : Int32) :: st) P) : X w mX4_packed d Q 7 ls st P := X_bipush (M := mX4_packed) (dX4_packed_7) (by decide) k
theorem dX4_packed_9 : decode cX4_packed 9 = .ok (.if_icmp .ge 34, 3) := by decide +kernel
theorem sX4_packed_9 {x y : Int32} (kt : y ≤ x → X w mX4_packed d Q 43 ls st P) (kf : ¬ y ≤ x → X w mX4_packed d Q 12 ls st P) : X w mX4_packed d Q 9 ls (.int y :: .int x :: st) P := X_icmp_ge (M := mX4_packed) (dX4_packed_9) (by decide) kt kf
theorem dX4_packed_12 : decode cX4_packed 12 = .ok (.lload_n 3, 1) := by decide +kernel
theorem sX4_packed_12 {l0 l1 l2 l4 l5 : Option Value} {x : Int64} (k : X w mX4_packed d Q 13 [l0, l1, l2, some (.long x), l4, l5] (.long x :: st) P) : X w mX4_packed d Q 12 [l0, l1, l2, some (.long x), l4, l5] st P := X_lload_n (M := mX4_packed) (dX4_packed_12) rfl rfl k
theorem dX4_packed_13 : decode cX4_packed 13 = .ok (.bipush 8, 2) := by decide +kernel
theorem sX4_packed_13 (k : X w mX4_packed d Q 15 ls (.int (8 : Int32) :: st) P) : X w mX4_packed d Q 13 ls st P := X_bipush (M := mX4_packed) (dX4_packed_13) (by decide) k
theorem dX4_packed_15 : decode cX4_packed 15 = .ok (.lshl, 1) := by decide +kernel
theorem sX4_packed_15 {x : Int64} {y : Int32} (k : X w mX4_packed d Q 16 ls (.long (x <<< (y.toInt64 &&& 63)) :: st) P) : X w mX4_packed d Q 15 ls (.int y :: .long x :: st) P := X_lshl (M := mX4_packed) (dX4_packed_15) k
theorem dX4_packed_16 : decode cX4_packed 16 = .ok (.iload_n 1, 1) := by decide +kernel
theorem sX4_packed_16 {l0 l2 l3 l4 l5 : Option Value} {x : Int32} (k : X w mX4_packed d Q 17 [l0, some (.int x), l2, l3, l4, l5] (.int x :: st) P) : X w mX4_packed d Q 16 [l0, some (.int x), l2, l3, l4, l5] st P := X_iload_n (M := mX4_packed) (dX4_packed_16) rfl rfl k
theorem dX4_packed_17 : decode cX4_packed 17 = .ok (.iload 5, 2) := by decide +kernel
theorem sX4_packed_17 {l0 l1 l2 l3 l4 : Option Value} {x : Int32} (k : X w mX4_packed d Q 19 [l0, l1, l2, l3, l4, some (.int x)] (.int x :: st) P) : X w mX4_packed d Q 17 [l0, l1, l2, l3, l4, some (.int x)] st P := X_iload (M := mX4_packed) (dX4_packed_17) rfl k
theorem dX4_packed_19 : decode cX4_packed 19 = .ok (.iadd, 1) := by decide +kernel
theorem sX4_packed_19 {x y : Int32} (k : X w mX4_packed d Q 20 ls (.int (x + y) :: st) P) : X w mX4_packed d Q 19 ls (.int y :: .int x :: st) P := X_iadd (M := mX4_packed) (dX4_packed_19) k
theorem dX4_packed_20 : decode cX4_packed 20 = .ok (.iload_n 2, 1) := by decide +kernel
theorem sX4_packed_20 {l0 l1 l3 l4 l5 : Option Value} {x : Int32} (k : X w mX4_packed d Q 21 [l0, l1, some (.int x), l3, l4, l5] (.int x :: st) P) : X w mX4_packed d Q 20 [l0, l1, some (.int x), l3, l4, l5] st P := X_iload_n (M := mX4_packed) (dX4_packed_20) rfl rfl k
theorem dX4_packed_21 : decode cX4_packed 21 = .ok (.if_icmp .ge 12, 3) := by decide +kernel
theorem sX4_packed_21 {x y : Int32} (kt : y ≤ x → X w mX4_packed d Q 33 ls st P) (kf : ¬ y ≤ x → X w mX4_packed d Q 24 ls st P) : X w mX4_packed d Q 21 ls (.int y :: .int x :: st) P := X_icmp_ge (M := mX4_packed) (dX4_packed_21) (by decide) kt kf
theorem dX4_packed_24 : decode cX4_packed 24 = .ok (.aload_n 0, 1) := by decide +kernel
theorem sX4_packed_24 {l1 l2 l3 l4 l5 : Option Value} {x : Nat} (k : X w mX4_packed d Q 25 [some (.ref x), l1, l2, l3, l4, l5] (.ref x :: st) P) : X w mX4_packed d Q 24 [some (.ref x), l1, l2, l3, l4, l5] st P := X_aload_n (M := mX4_packed) (dX4_packed_24) rfl rfl k
theorem dX4_packed_25 : decode cX4_packed 25 = .ok (.iload_n 1, 1) := by decide +kernel
theorem sX4_packed_25 {l0 l2 l3 l4 l5 : Option Value} {x : Int32} (k : X w mX4_packed d Q 26 [l0, some (.int x), l2, l3, l4, l5] (.int x :: st) P) : X w mX4_packed d Q 25 [l0, some (.int x), l2, l3, l4, l5] st P := X_iload_n (M := mX4_packed) (dX4_packed_25) rfl rfl k
theorem dX4_packed_26 : decode cX4_packed 26 = .ok (.iload 5, 2) := by decide +kernel
theorem sX4_packed_26 {l0 l1 l2 l3 l4 : Option Value} {x : Int32} (k : X w mX4_packed d Q 28 [l0, l1, l2, l3, l4, some (.int x)] (.int x :: st) P) : X w mX4_packed d Q 26 [l0, l1, l2, l3, l4, some (.int x)] st P := X_iload (M := mX4_packed) (dX4_packed_26) rfl k
theorem dX4_packed_28 : decode cX4_packed 28 = .ok (.iadd, 1) := by decide +kernel
theorem sX4_packed_28 {x y : Int32} (k : X w mX4_packed d Q 29 ls (.int (x + y) :: st) P) : X w mX4_packed d Q 28 ls (.int y :: .int x :: st) P := X_iadd (M := mX4_packed) (dX4_packed_28) k
theorem dX4_packed_29 : decode cX4_packed 29 = .ok (.caload, 1) := by decide +kernel
theorem sX4_packed_29 {a n : Nat} {f : Nat → Int32} {i : Int32} (hP : P.1 a = some (xA 2 n f)) (hi : vp_in i n) (k : X w mX4_packed d Q 30 ls (.int (f i.toNatClampNeg) :: st) P) : X w mX4_packed d Q 29 ls (.int i :: .ref a :: st) P := X_cald (M := mX4_packed) (dX4_packed_29) hP hi k
theorem dX4_packed_30 : decode cX4_packed 30 = .ok (.goto 4, 3) := by decide +kernel
theorem sX4_packed_30 (k : X w mX4_packed d Q 34 ls st P) : X w mX4_packed d Q 30 ls st P := X_goto (M := mX4_packed) (dX4_packed_30) (by decide) k
theorem dX4_packed_33 : decode cX4_packed 33 = .ok (.iconst 0, 1) := by decide +kernel
theorem sX4_packed_33 (k : X w mX4_packed d Q 34 ls (.int (0 : Int32) :: st) P) : X w mX4_packed d Q 33 ls st P := X_iconst (M := mX4_packed) (dX4_packed_33) (by decide) k
theorem dX4_packed_34 : decode cX4_packed 34 = .ok (.i2l, 1) := by decide +kernel
theorem sX4_packed_34 {x : Int32} (k : X w mX4_packed d Q 35 ls (.long x.toInt64 :: st) P) : X w mX4_packed d Q 34 ls (.int x :: st) P := X_i2l (M := mX4_packed) (dX4_packed_34) k
theorem dX4_packed_35 : decode cX4_packed 35 = .ok (.lor, 1) := by decide +kernel
theorem sX4_packed_35 {x y : Int64} (k : X w mX4_packed d Q 36 ls (.long (x ||| y) :: st) P) : X w mX4_packed d Q 35 ls (.long y :: .long x :: st) P := X_lor (M := mX4_packed) (dX4_packed_35) k
theorem dX4_packed_36 : decode cX4_packed 36 = .ok (.lstore_n 3, 1) := by decide +kernel
theorem sX4_packed_36 {l0 l1 l2 l3 l4 l5 : Option Value} {x : Int64} (hn : xnl l2 = true) (k : X w mX4_packed d Q 37 [l0, l1, l2, some (.long x), none, l5] st P) : X w mX4_packed d Q 36 [l0, l1, l2, l3, l4, l5] (.long x :: st) P := X_lstore_n (M := mX4_packed) (dX4_packed_36) rfl (by decide) rfl (xnl_p (ls := [l0, l1, l2, l3, l4, l5]) (j := 2) rfl hn) k
theorem dX4_packed_37 : decode cX4_packed 37 = .ok (.iinc 5 1, 3) := by decide +kernel
theorem sX4_packed_37 {l0 l1 l2 l3 l4 : Option Value} {x : Int32} (hn : xnl l4 = true) (k : X w mX4_packed d Q 40 [l0, l1, l2, l3, l4, some (.int (x + (1 : Int32)))] st P) : X w mX4_packed d Q 37 [l0, l1, l2, l3, l4, some (.int x)] st P := X_iinc (M := mX4_packed) (dX4_packed_37) rfl (by rfl) (by decide) rfl (xnl_p (ls := [l0, l1, l2, l3, l4, some (.int x)]) (j := 4) rfl hn) k
theorem dX4_packed_40 : decode cX4_packed 40 = .ok (.goto (-35), 3) := by decide +kernel
theorem sX4_packed_40 (k : X w mX4_packed d Q 5 ls st P) : X w mX4_packed d Q 40 ls st P := X_goto (M := mX4_packed) (dX4_packed_40) (by decide) k
theorem dX4_packed_43 : decode cX4_packed 43 = .ok (.lload_n 3, 1) := by decide +kernel
theorem sX4_packed_43 {l0 l1 l2 l4 l5 : Option Value} {x : Int64} (k : X w mX4_packed d Q 44 [l0, l1, l2, some (.long x), l4, l5] (.long x :: st) P) : X w mX4_packed d Q 43 [l0, l1, l2, some (.long x), l4, l5] st P := X_lload_n (M := mX4_packed) (dX4_packed_43) rfl rfl k
theorem dX4_packed_44 : decode cX4_packed 44 = .ok (.lreturn, 1) := by decide +kernel
theorem sX4_packed_44 {v : Int64} (hq : Q (.returned (some (.long v))) P) : X w mX4_packed d Q 44 ls [.long v] P := X_lret (M := mX4_packed) (dX4_packed_44) rfl hq
theorem dX4_characterOf_0 : decode cX4_characterOf 0 = .ok (.iload_n 2, 1) := by decide +kernel
theorem sX4_characterOf_0 {l0 l1 l3 : Option Value} {x : Int32} (k : X w mX4_characterOf d Q 1 [l0, l1, some (.int x), l3] (.int x :: st) P) : X w mX4_characterOf d Q 0 [l0, l1, some (.int x), l3] st P := X_iload_n (M := mX4_characterOf) (dX4_characterOf_0) rfl rfl k
theorem dX4_characterOf_1 : decode cX4_characterOf 1 = .ok (.bipush 8, 2) := by decide +kernel
theorem sX4_characterOf_1 (k : X w mX4_characterOf d Q 3 ls (.int (8 : Int32) :: st) P) : X w mX4_characterOf d Q 1 ls st P := X_bipush (M := mX4_characterOf) (dX4_characterOf_1) (by decide) k
theorem dX4_characterOf_3 : decode cX4_characterOf 3 = .ok (.if_icmp .ge 20, 3) := by decide +kernel
theorem sX4_characterOf_3 {x y : Int32} (kt : y ≤ x → X w mX4_characterOf d Q 23 ls st P) (kf : ¬ y ≤ x → X w mX4_characterOf d Q 6 ls st P) : X w mX4_characterOf d Q 3 ls (.int y :: .int x :: st) P := X_icmp_ge (M := mX4_characterOf) (dX4_characterOf_3) (by decide) kt kf
theorem dX4_characterOf_6 : decode cX4_characterOf 6 = .ok (.lload_n 0, 1) := by decide +kernel
theorem sX4_characterOf_6 {l1 l2 l3 : Option Value} {x : Int64} (k : X w mX4_characterOf d Q 7 [some (.long x), l1, l2, l3] (.long x :: st) P) : X w mX4_characterOf d Q 6 [some (.long x), l1, l2, l3] st P := X_lload_n (M := mX4_characterOf) (dX4_characterOf_6) rfl rfl k
theorem dX4_characterOf_7 : decode cX4_characterOf 7 = .ok (.bipush 8, 2) := by decide +kernel
theorem sX4_characterOf_7 (k : X w mX4_characterOf d Q 9 ls (.int (8 : Int32) :: st) P) : X w mX4_characterOf d Q 7 ls st P := X_bipush (M := mX4_characterOf) (dX4_characterOf_7) (by decide) k
theorem dX4_characterOf_9 : decode cX4_characterOf 9 = .ok (.bipush 7, 2) := by decide +kernel
theorem sX4_characterOf_9 (k : X w mX4_characterOf d Q 11 ls (.int (7 : Int32) :: st) P) : X w mX4_characterOf d Q 9 ls st P := X_bipush (M := mX4_characterOf) (dX4_characterOf_9) (by decide) k
theorem dX4_characterOf_11 : decode cX4_characterOf 11 = .ok (.iload_n 2, 1) := by decide +kernel
theorem sX4_characterOf_11 {l0 l1 l3 : Option Value} {x : Int32} (k : X w mX4_characterOf d Q 12 [l0, l1, some (.int x), l3] (.int x :: st) P) : X w mX4_characterOf d Q 11 [l0, l1, some (.int x), l3] st P := X_iload_n (M := mX4_characterOf) (dX4_characterOf_11) rfl rfl k
theorem dX4_characterOf_12 : decode cX4_characterOf 12 = .ok (.isub, 1) := by decide +kernel
theorem sX4_characterOf_12 {x y : Int32} (k : X w mX4_characterOf d Q 13 ls (.int (x - y) :: st) P) : X w mX4_characterOf d Q 12 ls (.int y :: .int x :: st) P := X_isub (M := mX4_characterOf) (dX4_characterOf_12) k
theorem dX4_characterOf_13 : decode cX4_characterOf 13 = .ok (.imul, 1) := by decide +kernel
theorem sX4_characterOf_13 {x y : Int32} (k : X w mX4_characterOf d Q 14 ls (.int (x * y) :: st) P) : X w mX4_characterOf d Q 13 ls (.int y :: .int x :: st) P := X_imul (M := mX4_characterOf) (dX4_characterOf_13) k
theorem dX4_characterOf_14 : decode cX4_characterOf 14 = .ok (.lushr, 1) := by decide +kernel
theorem sX4_characterOf_14 {x : Int64} {y : Int32} (k : X w mX4_characterOf d Q 15 ls (.long ((x.toUInt64 >>> (y.toInt64.toUInt64 &&& Int64.toUInt64 63)).toInt64) :: st) P) : X w mX4_characterOf d Q 14 ls (.int y :: .long x :: st) P := X_lushr (M := mX4_characterOf) (dX4_characterOf_14) k
theorem dX4_characterOf_15 : decode cX4_characterOf 15 = .ok (.l2i, 1) := by decide +kernel
theorem sX4_characterOf_15 {x : Int64} (k : X w mX4_characterOf d Q 16 ls (.int x.toInt32 :: st) P) : X w mX4_characterOf d Q 15 ls (.long x :: st) P := X_l2i (M := mX4_characterOf) (dX4_characterOf_15) k
theorem dX4_characterOf_16 : decode cX4_characterOf 16 = .ok (.sipush 255, 3) := by decide +kernel
theorem sX4_characterOf_16 (k : X w mX4_characterOf d Q 19 ls (.int (255 : Int32) :: st) P) : X w mX4_characterOf d Q 16 ls st P := X_sipush (M := mX4_characterOf) (dX4_characterOf_16) (by decide) k
theorem dX4_characterOf_19 : decode cX4_characterOf 19 = .ok (.iand, 1) := by decide +kernel
theorem sX4_characterOf_19 {x y : Int32} (k : X w mX4_characterOf d Q 20 ls (.int (x &&& y) :: st) P) : X w mX4_characterOf d Q 19 ls (.int y :: .int x :: st) P := X_iand (M := mX4_characterOf) (dX4_characterOf_19) k
theorem dX4_characterOf_20 : decode cX4_characterOf 20 = .ok (.goto 4, 3) := by decide +kernel
theorem sX4_characterOf_20 (k : X w mX4_characterOf d Q 24 ls st P) : X w mX4_characterOf d Q 20 ls st P := X_goto (M := mX4_characterOf) (dX4_characterOf_20) (by decide) k
theorem dX4_characterOf_23 : decode cX4_characterOf 23 = .ok (.iconst 0, 1) := by decide +kernel
theorem sX4_characterOf_23 (k : X w mX4_characterOf d Q 24 ls (.int (0 : Int32) :: st) P) : X w mX4_characterOf d Q 23 ls st P := X_iconst (M := mX4_characterOf) (dX4_characterOf_23) (by decide) k
theorem dX4_characterOf_24 : decode cX4_characterOf 24 = .ok (.istore_n 3, 1) := by decide +kernel
theorem sX4_characterOf_24 {l0 l1 l2 l3 : Option Value} {x : Int32} (hn : xnl l2 = true) (k : X w mX4_characterOf d Q 25 [l0, l1, l2, some (.int x)] st P) : X w mX4_characterOf d Q 24 [l0, l1, l2, l3] (.int x :: st) P := X_istore_n (M := mX4_characterOf) (dX4_characterOf_24) rfl (by decide) rfl (xnl_p (ls := [l0, l1, l2, l3]) (j := 2) rfl hn) k
theorem dX4_characterOf_25 : decode cX4_characterOf 25 = .ok (.iload_n 3, 1) := by decide +kernel
theorem sX4_characterOf_25 {l0 l1 l2 : Option Value} {x : Int32} (k : X w mX4_characterOf d Q 26 [l0, l1, l2, some (.int x)] (.int x :: st) P) : X w mX4_characterOf d Q 25 [l0, l1, l2, some (.int x)] st P := X_iload_n (M := mX4_characterOf) (dX4_characterOf_25) rfl rfl k
theorem dX4_characterOf_26 : decode cX4_characterOf 26 = .ok (.ifCond .ne 7, 3) := by decide +kernel
theorem sX4_characterOf_26 {x : Int32} (kt : ¬ x = 0 → X w mX4_characterOf d Q 33 ls st P) (kf : x = 0 → X w mX4_characterOf d Q 29 ls st P) : X w mX4_characterOf d Q 26 ls (.int x :: st) P := X_if_ne (M := mX4_characterOf) (dX4_characterOf_26) (by decide) kt kf
theorem dX4_characterOf_29 : decode cX4_characterOf 29 = .ok (.iconst (-1), 1) := by decide +kernel
theorem sX4_characterOf_29 (k : X w mX4_characterOf d Q 30 ls (.int (-1 : Int32) :: st) P) : X w mX4_characterOf d Q 29 ls st P := X_iconst (M := mX4_characterOf) (dX4_characterOf_29) (by decide) k
theorem dX4_characterOf_30 : decode cX4_characterOf 30 = .ok (.goto 4, 3) := by decide +kernel
theorem sX4_characterOf_30 (k : X w mX4_characterOf d Q 34 ls st P) : X w mX4_characterOf d Q 30 ls st P := X_goto (M := mX4_characterOf) (dX4_characterOf_30) (by decide) k
theorem dX4_characterOf_33 : decode cX4_characterOf 33 = .ok (.iload_n 3, 1) := by decide +kernel
theorem sX4_characterOf_33 {l0 l1 l2 : Option Value} {x : Int32} (k : X w mX4_characterOf d Q 34 [l0, l1, l2, some (.int x)] (.int x :: st) P) : X w mX4_characterOf d Q 33 [l0, l1, l2, some (.int x)] st P := X_iload_n (M := mX4_characterOf) (dX4_characterOf_33) rfl rfl k
theorem dX4_characterOf_34 : decode cX4_characterOf 34 = .ok (.ireturn, 1) := by decide +kernel
theorem sX4_characterOf_34 {v : Int32} (hq : Q (.returned (some (.int v))) P) : X w mX4_characterOf d Q 34 ls [.int v] P := X_iret (M := mX4_characterOf) (dX4_characterOf_34) rfl hq
theorem dX4_find_0 : decode cX4_find 0 = .ok (.iconst 0, 1) := by decide +kernel
theorem sX4_find_0 (k : X w mX4_find d Q 1 ls (.int (0 : Int32) :: st) P) : X w mX4_find d Q 0 ls st P := X_iconst (M := mX4_find) (dX4_find_0) (by decide) k
theorem dX4_find_1 : decode cX4_find 1 = .ok (.istore 4, 2) := by decide +kernel
theorem sX4_find_1 {l0 l1 l2 l3 l4 : Option Value} {x : Int32} (hn : xnl l3 = true) (k : X w mX4_find d Q 3 [l0, l1, l2, l3, some (.int x)] st P) : X w mX4_find d Q 1 [l0, l1, l2, l3, l4] (.int x :: st) P := X_istore (M := mX4_find) (dX4_find_1) (by decide) rfl (xnl_p (ls := [l0, l1, l2, l3, l4]) (j := 3) rfl hn) k
theorem dX4_find_3 : decode cX4_find 3 = .ok (.iload 4, 2) := by decide +kernel
theorem sX4_find_3 {l0 l1 l2 l3 : Option Value} {x : Int32} (k : X w mX4_find d Q 5 [l0, l1, l2, l3, some (.int x)] (.int x :: st) P) : X w mX4_find d Q 3 [l0, l1, l2, l3, some (.int x)] st P := X_iload (M := mX4_find) (dX4_find_3) rfl k
theorem dX4_find_5 : decode cX4_find 5 = .ok (.iload_n 3, 1) := by decide +kernel
theorem sX4_find_5 {l0 l1 l2 l4 : Option Value} {x : Int32} (k : X w mX4_find d Q 6 [l0, l1, l2, some (.int x), l4] (.int x :: st) P) : X w mX4_find d Q 5 [l0, l1, l2, some (.int x), l4] st P := X_iload_n (M := mX4_find) (dX4_find_5) rfl rfl k
theorem dX4_find_6 : decode cX4_find 6 = .ok (.if_icmp .ge 21, 3) := by decide +kernel
theorem sX4_find_6 {x y : Int32} (kt : y ≤ x → X w mX4_find d Q 27 ls st P) (kf : ¬ y ≤ x → X w mX4_find d Q 9 ls st P) : X w mX4_find d Q 6 ls (.int y :: .int x :: st) P := X_icmp_ge (M := mX4_find) (dX4_find_6) (by decide) kt kf
theorem dX4_find_9 : decode cX4_find 9 = .ok (.aload_n 2, 1) := by decide +kernel
theorem sX4_find_9 {l0 l1 l3 l4 : Option Value} {x : Nat} (k : X w mX4_find d Q 10 [l0, l1, some (.ref x), l3, l4] (.ref x :: st) P) : X w mX4_find d Q 9 [l0, l1, some (.ref x), l3, l4] st P := X_aload_n (M := mX4_find) (dX4_find_9) rfl rfl k
theorem dX4_find_10 : decode cX4_find 10 = .ok (.iload 4, 2) := by decide +kernel
theorem sX4_find_10 {l0 l1 l2 l3 : Option Value} {x : Int32} (k : X w mX4_find d Q 12 [l0, l1, l2, l3, some (.int x)] (.int x :: st) P) : X w mX4_find d Q 10 [l0, l1, l2, l3, some (.int x)] st P := X_iload (M := mX4_find) (dX4_find_10) rfl k
theorem dX4_find_12 : decode cX4_find 12 = .ok (.laload, 1) := by decide +kernel
theorem sX4_find_12 {a n : Nat} {f : Nat → Int64} {i : Int32} (hP : P.1 a = some (xJ n f)) (hi : vp_in i n) (k : X w mX4_find d Q 13 ls (.long (f i.toNatClampNeg) :: st) P) : X w mX4_find d Q 12 ls (.int i :: .ref a :: st) P := X_lald (M := mX4_find) (dX4_find_12) hP hi k
theorem dX4_find_13 : decode cX4_find 13 = .ok (.lload_n 0, 1) := by decide +kernel
theorem sX4_find_13 {l1 l2 l3 l4 : Option Value} {x : Int64} (k : X w mX4_find d Q 14 [some (.long x), l1, l2, l3, l4] (.long x :: st) P) : X w mX4_find d Q 13 [some (.long x), l1, l2, l3, l4] st P := X_lload_n (M := mX4_find) (dX4_find_13) rfl rfl k
theorem dX4_find_14 : decode cX4_find 14 = .ok (.lcmp, 1) := by decide +kernel
theorem sX4_find_14 {x y : Int64} (k : X w mX4_find d Q 15 ls (.int (lg_cmp x y) :: st) P) : X w mX4_find d Q 14 ls (.long y :: .long x :: st) P := X_lcmp (M := mX4_find) (dX4_find_14) k
theorem dX4_find_15 : decode cX4_find 15 = .ok (.ifCond .ne 6, 3) := by decide +kernel
theorem sX4_find_15 {x : Int32} (kt : ¬ x = 0 → X w mX4_find d Q 21 ls st P) (kf : x = 0 → X w mX4_find d Q 18 ls st P) : X w mX4_find d Q 15 ls (.int x :: st) P := X_if_ne (M := mX4_find) (dX4_find_15) (by decide) kt kf
theorem dX4_find_18 : decode cX4_find 18 = .ok (.iload 4, 2) := by decide +kernel
theorem sX4_find_18 {l0 l1 l2 l3 : Option Value} {x : Int32} (k : X w mX4_find d Q 20 [l0, l1, l2, l3, some (.int x)] (.int x :: st) P) : X w mX4_find d Q 18 [l0, l1, l2, l3, some (.int x)] st P := X_iload (M := mX4_find) (dX4_find_18) rfl k
theorem dX4_find_20 : decode cX4_find 20 = .ok (.ireturn, 1) := by decide +kernel
theorem sX4_find_20 {v : Int32} (hq : Q (.returned (some (.int v))) P) : X w mX4_find d Q 20 ls [.int v] P := X_iret (M := mX4_find) (dX4_find_20) rfl hq
theorem dX4_find_21 : decode cX4_find 21 = .ok (.iinc 4 1, 3) := by decide +kernel
theorem sX4_find_21 {l0 l1 l2 l3 : Option Value} {x : Int32} (hn : xnl l3 = true) (k : X w mX4_find d Q 24 [l0, l1, l2, l3, some (.int (x + (1 : Int32)))] st P) : X w mX4_find d Q 21 [l0, l1, l2, l3, some (.int x)] st P := X_iinc (M := mX4_find) (dX4_find_21) rfl (by rfl) (by decide) rfl (xnl_p (ls := [l0, l1, l2, l3, some (.int x)]) (j := 3) rfl hn) k
theorem dX4_find_24 : decode cX4_find 24 = .ok (.goto (-21), 3) := by decide +kernel
theorem sX4_find_24 (k : X w mX4_find d Q 3 ls st P) : X w mX4_find d Q 24 ls st P := X_goto (M := mX4_find) (dX4_find_24) (by decide) k
theorem dX4_find_27 : decode cX4_find 27 = .ok (.iconst (-1), 1) := by decide +kernel
theorem sX4_find_27 (k : X w mX4_find d Q 28 ls (.int (-1 : Int32) :: st) P) : X w mX4_find d Q 27 ls st P := X_iconst (M := mX4_find) (dX4_find_27) (by decide) k
theorem dX4_find_28 : decode cX4_find 28 = .ok (.ireturn, 1) := by decide +kernel
theorem sX4_find_28 {v : Int32} (hq : Q (.returned (some (.int v))) P) : X w mX4_find d Q 28 ls [.int v] P := X_iret (M := mX4_find) (dX4_find_28) rfl hq
theorem dX7_init_0 : decode cX7_init 0 = .ok (.aload_n 0, 1) := by decide +kernel
theorem sX7_init_0 {x : Nat} (k : X w mX7_init d Q 1 [some (.ref x)] (.ref x :: st) P) : X w mX7_init d Q 0 [some (.ref x)] st P := X_aload_n (M := mX7_init) (dX7_init_0) rfl rfl k
theorem dX7_init_1 : decode cX7_init 1 = .ok (.invokespecial 3, 3) := by decide +kernel
theorem sX7_init_1 {a : Nat} (hst : (st.map fun v => v.category).sum ≤ 8) (k : X w mX7_init d Q 4 ls st P) : X w mX7_init d Q 1 ls (.ref a :: st) P := X_objInit (M := mX7_init) (dX7_init_1) xw_36 xw_20 xw_21 hst k
theorem dX7_init_4 : decode cX7_init 4 = .ok (.aload_n 0, 1) := by decide +kernel
theorem sX7_init_4 {x : Nat} (k : X w mX7_init d Q 5 [some (.ref x)] (.ref x :: st) P) : X w mX7_init d Q 4 [some (.ref x)] st P := X_aload_n (M := mX7_init) (dX7_init_4) rfl rfl k
theorem dX7_init_5 : decode cX7_init 5 = .ok (.new 9, 3) := by decide +kernel
theorem sX7_init_5 (hr1 : P.2.1 + 1 ≤ w.z + 601024) (hr2 : P.2.2 + 2 ≤ 7293034) (k : X w mX7_init d Q 8 ls (.ref P.2.1 :: st) (xal P (xO 0 [.null, .int 0]) 2)) : X w mX7_init d Q 5 ls st P := X_new (M := mX7_init) (T := TX0) (dX7_init_5) rfl x_c0 xw_37 xw_38 xw_39 xd_X0 hr1 hr2 k
theorem dX7_init_8 : decode cX7_init 8 = .ok (.dup, 1) := by decide +kernel
theorem sX7_init_8 {v : Value} (hv : v.category = 1) (k : X w mX7_init d Q 9 ls (v :: v :: st) P) : X w mX7_init d Q 8 ls (v :: st) P := X_dup (M := mX7_init) (dX7_init_8) hv k
theorem dX7_init_9 : decode cX7_init 9 = .ok (.invokespecial 11, 3) := by decide +kernel
theorem sX7_init_9 {b : Nat}  {P1 : xH} (hst : (st.map fun v => v.category).sum ≤ 8) (hC : xC w d mX0_init [.ref b] P (xRet none P1)) (k : X w mX7_init (d + 1) Q 12 ls st P1) : X w mX7_init (d + 1) Q 9 ls (.ref b :: st) P := X_callIN (M := mX7_init) (MC := mX0_init) (As := []) (dX7_init_9) calX0_init rfl rfl xw_40 xw_41 rfl hC (fun q P1 h => by cases h.1) hst (fun v P2 h => by obtain ⟨h1, rfl⟩ := h; cases h1; exact k)
theorem dX7_init_12 : decode cX7_init 12 = .ok (.putfield 12, 3) := by decide +kernel
theorem sX7_init_12 {a : Nat} {fs : List Value} {v : Nat} (hP : P.1 a = some (xO 5 fs)) (hl : 0 < fs.length) (k : X w mX7_init d Q 15 ls st (xs P a (xO 5 (fs.set 0 (.ref v))))) : X w mX7_init d Q 12 ls (.ref v :: .ref a :: st) P := X_putF (M := mX7_init) (j := 0) (T := TX7) (dX7_init_12) rfl (by decide) x_c7 xw_42 rfl rfl rfl hP rfl rfl hl k
theorem dX7_init_15 : decode cX7_init 15 = .ok (.aload_n 0, 1) := by decide +kernel
theorem sX7_init_15 {x : Nat} (k : X w mX7_init d Q 16 [some (.ref x)] (.ref x :: st) P) : X w mX7_init d Q 15 [some (.ref x)] st P := X_aload_n (M := mX7_init) (dX7_init_15) rfl rfl k
theorem dX7_init_16 : decode cX7_init 16 = .ok (.new 9, 3) := by decide +kernel
theorem sX7_init_16 (hr1 : P.2.1 + 1 ≤ w.z + 601024) (hr2 : P.2.2 + 2 ≤ 7293034) (k : X w mX7_init d Q 19 ls (.ref P.2.1 :: st) (xal P (xO 0 [.null, .int 0]) 2)) : X w mX7_init d Q 16 ls st P := X_new (M := mX7_init) (T := TX0) (dX7_init_16) rfl x_c0 xw_37 xw_38 xw_39 xd_X0 hr1 hr2 k
theorem dX7_init_19 : decode cX7_init 19 = .ok (.dup, 1) := by decide +kernel
theorem sX7_init_19 {v : Value} (hv : v.category = 1) (k : X w mX7_init d Q 20 ls (v :: v :: st) P) : X w mX7_init d Q 19 ls (v :: st) P := X_dup (M := mX7_init) (dX7_init_19) hv k
theorem dX7_init_20 : decode cX7_init 20 = .ok (.invokespecial 11, 3) := by decide +kernel
theorem sX7_init_20 {b : Nat}  {P1 : xH} (hst : (st.map fun v => v.category).sum ≤ 8) (hC : xC w d mX0_init [.ref b] P (xRet none P1)) (k : X w mX7_init (d + 1) Q 23 ls st P1) : X w mX7_init (d + 1) Q 20 ls (.ref b :: st) P := X_callIN (M := mX7_init) (MC := mX0_init) (As := []) (dX7_init_20) calX0_init rfl rfl xw_40 xw_41 rfl hC (fun q P1 h => by cases h.1) hst (fun v P2 h => by obtain ⟨h1, rfl⟩ := h; cases h1; exact k)
theorem dX7_init_23 : decode cX7_init 23 = .ok (.putfield 18, 3) := by decide +kernel
theorem sX7_init_23 {a : Nat} {fs : List Value} {v : Nat} (hP : P.1 a = some (xO 5 fs)) (hl : 1 < fs.length) (k : X w mX7_init d Q 26 ls st (xs P a (xO 5 (fs.set 1 (.ref v))))) : X w mX7_init d Q 23 ls (.ref v :: .ref a :: st) P := X_putF (M := mX7_init) (j := 1) (T := TX7) (dX7_init_23) rfl (by decide) x_c7 xw_43 rfl rfl rfl hP rfl rfl hl k
theorem dX7_init_26 : decode cX7_init 26 = .ok (.aload_n 0, 1) := by decide +kernel
theorem sX7_init_26 {x : Nat} (k : X w mX7_init d Q 27 [some (.ref x)] (.ref x :: st) P) : X w mX7_init d Q 26 [some (.ref x)] st P := X_aload_n (M := mX7_init) (dX7_init_26) rfl rfl k
theorem dX7_init_27 : decode cX7_init 27 = .ok (.bipush 16, 2) := by decide +kernel
theorem sX7_init_27 (k : X w mX7_init d Q 29 ls (.int (16 : Int32) :: st) P) : X w mX7_init d Q 27 ls st P := X_bipush (M := mX7_init) (dX7_init_27) (by decide) k
theorem dX7_init_29 : decode cX7_init 29 = .ok (.newarray .int, 2) := by decide +kernel
theorem sX7_init_29 {n : Int32} {N : Nat} (hn : ¬ n < 0) (hN : n.toNatClampNeg = N) (hb : N ≤ 10000) (hr1 : P.2.1 + 1 ≤ w.z + 601024) (hr2 : P.2.2 + N ≤ 7293034) (k : X w mX7_init d Q 31 ls (.ref P.2.1 :: st) (xal P (xA 0 N (fun _ => 0)) N)) : X w mX7_init d Q 29 ls (.int n :: st) P := X_newaI (M := mX7_init) (dX7_init_29) (Or.inl ⟨rfl, rfl⟩) xw_22 hn hN hb hr1 hr2 k
theorem dX7_init_31 : decode cX7_init 31 = .ok (.putfield 21, 3) := by decide +kernel
theorem sX7_init_31 {a : Nat} {fs : List Value} {v : Nat} (hP : P.1 a = some (xO 5 fs)) (hl : 2 < fs.length) (k : X w mX7_init d Q 34 ls st (xs P a (xO 5 (fs.set 2 (.ref v))))) : X w mX7_init d Q 31 ls (.ref v :: .ref a :: st) P := X_putF (M := mX7_init) (j := 2) (T := TX7) (dX7_init_31) rfl (by decide) x_c7 xw_44 rfl rfl rfl hP rfl rfl hl k
theorem dX7_init_34 : decode cX7_init 34 = .ok (.return_, 1) := by decide +kernel
theorem sX7_init_34 (hq : Q (.returned none) P) : X w mX7_init d Q 34 ls [] P := X_vret (M := mX7_init) (dX7_init_34) rfl hq
theorem dX7_joined_0 : decode cX7_joined 0 = .ok (.aload_n 0, 1) := by decide +kernel
theorem sX7_joined_0 {l1 l2 l3 l4 l5 l6 : Option Value} {x : Nat} (k : X w mX7_joined d Q 1 [some (.ref x), l1, l2, l3, l4, l5, l6] (.ref x :: st) P) : X w mX7_joined d Q 0 [some (.ref x), l1, l2, l3, l4, l5, l6] st P := X_aload_n (M := mX7_joined) (dX7_joined_0) rfl rfl k
theorem dX7_joined_1 : decode cX7_joined 1 = .ok (.getfield 12, 3) := by decide +kernel
theorem sX7_joined_1 {a : Nat} {fs : List Value} {v : Nat} (hP : P.1 a = some (xO 5 fs)) (hv : fs[0]? = some (.ref v)) (k : X w mX7_joined d Q 4 ls (.ref v :: st) P) : X w mX7_joined d Q 1 ls (.ref a :: st) P := X_get (M := mX7_joined) (j := 0) (T := TX7) (dX7_joined_1) rfl (by decide) x_in7 xw_42 hP hv k
theorem dX7_joined_4 : decode cX7_joined 4 = .ok (.iload_n 1, 1) := by decide +kernel
theorem sX7_joined_4 {l0 l2 l3 l4 l5 l6 : Option Value} {x : Int32} (k : X w mX7_joined d Q 5 [l0, some (.int x), l2, l3, l4, l5, l6] (.int x :: st) P) : X w mX7_joined d Q 4 [l0, some (.int x), l2, l3, l4, l5, l6] st P := X_iload_n (M := mX7_joined) (dX7_joined_4) rfl rfl k
theorem dX7_joined_5 : decode cX7_joined 5 = .ok (.invokevirtual 25, 3) := by decide +kernel
theorem sX7_joined_5_g {b : Nat} {fs : List Value} {a0 : Int32} {Qc : Outcome → xH → Prop} (hst : (st.map fun v => v.category).sum ≤ 8) (hP : P.1 b = some (xO 0 fs)) (hC : xC w d mX0_brought [.ref b, .int a0] P Qc) (kr : ∀ v P1, Qc (.returned v) P1 → X w mX7_joined (d + 1) Q 8 ls (v.toList ++ st) P1) (kt : ∀ q P1, Qc (.threw q) P1 → Xt w mX7_joined (d + 1) Q 5 ls st P1 q) : X w mX7_joined (d + 1) Q 5 ls (.int a0 :: .ref b :: st) P := X_callV (M := mX7_joined) (MC := mX0_brought) (As := [.int a0]) (T := TX0) (dX7_joined_5) calX0_brought xw_45 xw_46 xw_47 rfl rfl hP hC hst kr kt
theorem sX7_joined_5 {b : Nat} {fs : List Value} {a0 : Int32} {r : Int32} {P1 : xH} (hst : (st.map fun v => v.category).sum ≤ 8) (hP : P.1 b = some (xO 0 fs)) (hC : xC w d mX0_brought [.ref b, .int a0] P (xRet (some (.int r)) P1)) (k : X w mX7_joined (d + 1) Q 8 ls (.int r :: st) P1) : X w mX7_joined (d + 1) Q 5 ls (.int a0 :: .ref b :: st) P := X_callV (M := mX7_joined) (MC := mX0_brought) (As := [.int a0]) (T := TX0) (dX7_joined_5) calX0_brought xw_45 xw_46 xw_47 rfl rfl hP hC hst (fun v P2 h => by obtain ⟨h1, rfl⟩ := h; cases h1; exact k) (fun q P2 h => by cases h.1)
theorem sX7_joined_5_t {b : Nat} {fs : List Value} {a0 : Int32} {q : Nat} {P1 : xH} (hst : (st.map fun v => v.category).sum ≤ 8) (hP : P.1 b = some (xO 0 fs)) (hC : xC w d mX0_brought [.ref b, .int a0] P (xThr q P1)) (hq : Q (.threw q) P1) : X w mX7_joined (d + 1) Q 5 ls (.int a0 :: .ref b :: st) P := X_callV (M := mX7_joined) (MC := mX0_brought) (As := [.int a0]) (T := TX0) (dX7_joined_5) calX0_brought xw_45 xw_46 xw_47 rfl rfl hP hC hst (fun v P2 h => by cases h.1) (fun q2 P2 h => by obtain ⟨h1, rfl⟩ := h; cases h1; exact Xt_out rfl hq)
theorem dX7_joined_8 : decode cX7_joined 8 = .ok (.istore_n 3, 1) := by decide +kernel
theorem sX7_joined_8 {l0 l1 l2 l3 l4 l5 l6 : Option Value} {x : Int32} (hn : xnl l2 = true) (k : X w mX7_joined d Q 9 [l0, l1, l2, some (.int x), l4, l5, l6] st P) : X w mX7_joined d Q 8 [l0, l1, l2, l3, l4, l5, l6] (.int x :: st) P := X_istore_n (M := mX7_joined) (dX7_joined_8) rfl (by decide) rfl (xnl_p (ls := [l0, l1, l2, l3, l4, l5, l6]) (j := 2) rfl hn) k
theorem dX7_joined_9 : decode cX7_joined 9 = .ok (.aload_n 0, 1) := by decide +kernel
theorem sX7_joined_9 {l1 l2 l3 l4 l5 l6 : Option Value} {x : Nat} (k : X w mX7_joined d Q 10 [some (.ref x), l1, l2, l3, l4, l5, l6] (.ref x :: st) P) : X w mX7_joined d Q 9 [some (.ref x), l1, l2, l3, l4, l5, l6] st P := X_aload_n (M := mX7_joined) (dX7_joined_9) rfl rfl k
theorem dX7_joined_10 : decode cX7_joined 10 = .ok (.getfield 12, 3) := by decide +kernel
theorem sX7_joined_10 {a : Nat} {fs : List Value} {v : Nat} (hP : P.1 a = some (xO 5 fs)) (hv : fs[0]? = some (.ref v)) (k : X w mX7_joined d Q 13 ls (.ref v :: st) P) : X w mX7_joined d Q 10 ls (.ref a :: st) P := X_get (M := mX7_joined) (j := 0) (T := TX7) (dX7_joined_10) rfl (by decide) x_in7 xw_42 hP hv k
theorem dX7_joined_13 : decode cX7_joined 13 = .ok (.iload_n 3, 1) := by decide +kernel
theorem sX7_joined_13 {l0 l1 l2 l4 l5 l6 : Option Value} {x : Int32} (k : X w mX7_joined d Q 14 [l0, l1, l2, some (.int x), l4, l5, l6] (.int x :: st) P) : X w mX7_joined d Q 13 [l0, l1, l2, some (.int x), l4, l5, l6] st P := X_iload_n (M := mX7_joined) (dX7_joined_13) rfl rfl k
theorem dX7_joined_14 : decode cX7_joined 14 = .ok (.invokevirtual 29, 3) := by decide +kernel
theorem sX7_joined_14_g {b : Nat} {fs : List Value} {a0 : Int32} {Qc : Outcome → xH → Prop} (hst : (st.map fun v => v.category).sum ≤ 8) (hP : P.1 b = some (xO 0 fs)) (hC : xC w d mX0_spanStart [.ref b, .int a0] P Qc) (kr : ∀ v P1, Qc (.returned v) P1 → X w mX7_joined (d + 1) Q 17 ls (v.toList ++ st) P1) (kt : ∀ q P1, Qc (.threw q) P1 → Xt w mX7_joined (d + 1) Q 14 ls st P1 q) : X w mX7_joined (d + 1) Q 14 ls (.int a0 :: .ref b :: st) P := X_callV (M := mX7_joined) (MC := mX0_spanStart) (As := [.int a0]) (T := TX0) (dX7_joined_14) calX0_spanStart xw_48 xw_49 xw_50 rfl rfl hP hC hst kr kt
theorem sX7_joined_14 {b : Nat} {fs : List Value} {a0 : Int32} {r : Int32} {P1 : xH} (hst : (st.map fun v => v.category).sum ≤ 8) (hP : P.1 b = some (xO 0 fs)) (hC : xC w d mX0_spanStart [.ref b, .int a0] P (xRet (some (.int r)) P1)) (k : X w mX7_joined (d + 1) Q 17 ls (.int r :: st) P1) : X w mX7_joined (d + 1) Q 14 ls (.int a0 :: .ref b :: st) P := X_callV (M := mX7_joined) (MC := mX0_spanStart) (As := [.int a0]) (T := TX0) (dX7_joined_14) calX0_spanStart xw_48 xw_49 xw_50 rfl rfl hP hC hst (fun v P2 h => by obtain ⟨h1, rfl⟩ := h; cases h1; exact k) (fun q P2 h => by cases h.1)
theorem sX7_joined_14_t {b : Nat} {fs : List Value} {a0 : Int32} {q : Nat} {P1 : xH} (hst : (st.map fun v => v.category).sum ≤ 8) (hP : P.1 b = some (xO 0 fs)) (hC : xC w d mX0_spanStart [.ref b, .int a0] P (xThr q P1)) (hq : Q (.threw q) P1) : X w mX7_joined (d + 1) Q 14 ls (.int a0 :: .ref b :: st) P := X_callV (M := mX7_joined) (MC := mX0_spanStart) (As := [.int a0]) (T := TX0) (dX7_joined_14) calX0_spanStart xw_48 xw_49 xw_50 rfl rfl hP hC hst (fun v P2 h => by cases h.1) (fun q2 P2 h => by obtain ⟨h1, rfl⟩ := h; cases h1; exact Xt_out rfl hq)
theorem dX7_joined_17 : decode cX7_joined 17 = .ok (.istore 4, 2) := by decide +kernel
theorem sX7_joined_17 {l0 l1 l2 l3 l4 l5 l6 : Option Value} {x : Int32} (hn : xnl l3 = true) (k : X w mX7_joined d Q 19 [l0, l1, l2, l3, some (.int x), l5, l6] st P) : X w mX7_joined d Q 17 [l0, l1, l2, l3, l4, l5, l6] (.int x :: st) P := X_istore (M := mX7_joined) (dX7_joined_17) (by decide) rfl (xnl_p (ls := [l0, l1, l2, l3, l4, l5, l6]) (j := 3) rfl hn) k
theorem dX7_joined_19 : decode cX7_joined 19 = .ok (.aload_n 0, 1) := by decide +kernel
theorem sX7_joined_19 {l1 l2 l3 l4 l5 l6 : Option Value} {x : Nat} (k : X w mX7_joined d Q 20 [some (.ref x), l1, l2, l3, l4, l5, l6] (.ref x :: st) P) : X w mX7_joined d Q 19 [some (.ref x), l1, l2, l3, l4, l5, l6] st P := X_aload_n (M := mX7_joined) (dX7_joined_19) rfl rfl k
theorem dX7_joined_20 : decode cX7_joined 20 = .ok (.iload 4, 2) := by decide +kernel
theorem sX7_joined_20 {l0 l1 l2 l3 l5 l6 : Option Value} {x : Int32} (k : X w mX7_joined d Q 22 [l0, l1, l2, l3, some (.int x), l5, l6] (.int x :: st) P) : X w mX7_joined d Q 20 [l0, l1, l2, l3, some (.int x), l5, l6] st P := X_iload (M := mX7_joined) (dX7_joined_20) rfl k
theorem dX7_joined_22 : decode cX7_joined 22 = .ok (.iload_n 2, 1) := by decide +kernel
theorem sX7_joined_22 {l0 l1 l3 l4 l5 l6 : Option Value} {x : Int32} (k : X w mX7_joined d Q 23 [l0, l1, some (.int x), l3, l4, l5, l6] (.int x :: st) P) : X w mX7_joined d Q 22 [l0, l1, some (.int x), l3, l4, l5, l6] st P := X_iload_n (M := mX7_joined) (dX7_joined_22) rfl rfl k
theorem dX7_joined_23 : decode cX7_joined 23 = .ok (.invokevirtual 32, 3) := by decide +kernel
theorem sX7_joined_23_g {b : Nat} {fs : List Value} {a0 : Int32} {a1 : Int32} {Qc : Outcome → xH → Prop} (hst : (st.map fun v => v.category).sum ≤ 8) (hP : P.1 b = some (xO 5 fs)) (hC : xC w d mX7_joinedByLoad [.ref b, .int a0, .int a1] P Qc) (kr : ∀ v P1, Qc (.returned v) P1 → X w mX7_joined (d + 1) Q 26 ls (v.toList ++ st) P1) (kt : ∀ q P1, Qc (.threw q) P1 → Xt w mX7_joined (d + 1) Q 23 ls st P1 q) : X w mX7_joined (d + 1) Q 23 ls (.int a1 :: .int a0 :: .ref b :: st) P := X_callV (M := mX7_joined) (MC := mX7_joinedByLoad) (As := [.int a0, .int a1]) (T := TX7) (dX7_joined_23) calX7_joinedByLoad xw_51 xw_52 xw_53 rfl rfl hP hC hst kr kt
theorem sX7_joined_23 {b : Nat} {fs : List Value} {a0 : Int32} {a1 : Int32} {r : Int32} {P1 : xH} (hst : (st.map fun v => v.category).sum ≤ 8) (hP : P.1 b = some (xO 5 fs)) (hC : xC w d mX7_joinedByLoad [.ref b, .int a0, .int a1] P (xRet (some (.int r)) P1)) (k : X w mX7_joined (d + 1) Q 26 ls (.int r :: st) P1) : X w mX7_joined (d + 1) Q 23 ls (.int a1 :: .int a0 :: .ref b :: st) P := X_callV (M := mX7_joined) (MC := mX7_joinedByLoad) (As := [.int a0, .int a1]) (T := TX7) (dX7_joined_23) calX7_joinedByLoad xw_51 xw_52 xw_53 rfl rfl hP hC hst (fun v P2 h => by obtain ⟨h1, rfl⟩ := h; cases h1; exact k) (fun q P2 h => by cases h.1)
theorem sX7_joined_23_t {b : Nat} {fs : List Value} {a0 : Int32} {a1 : Int32} {q : Nat} {P1 : xH} (hst : (st.map fun v => v.category).sum ≤ 8) (hP : P.1 b = some (xO 5 fs)) (hC : xC w d mX7_joinedByLoad [.ref b, .int a0, .int a1] P (xThr q P1)) (hq : Q (.threw q) P1) : X w mX7_joined (d + 1) Q 23 ls (.int a1 :: .int a0 :: .ref b :: st) P := X_callV (M := mX7_joined) (MC := mX7_joinedByLoad) (As := [.int a0, .int a1]) (T := TX7) (dX7_joined_23) calX7_joinedByLoad xw_51 xw_52 xw_53 rfl rfl hP hC hst (fun v P2 h => by cases h.1) (fun q2 P2 h => by obtain ⟨h1, rfl⟩ := h; cases h1; exact Xt_out rfl hq)
theorem dX7_joined_26 : decode cX7_joined 26 = .ok (.istore 5, 2) := by decide +kernel
theorem sX7_joined_26 {l0 l1 l2 l3 l4 l5 l6 : Option Value} {x : Int32} (hn : xnl l4 = true) (k : X w mX7_joined d Q 28 [l0, l1, l2, l3, l4, some (.int x), l6] st P) : X w mX7_joined d Q 26 [l0, l1, l2, l3, l4, l5, l6] (.int x :: st) P := X_istore (M := mX7_joined) (dX7_joined_26) (by decide) rfl (xnl_p (ls := [l0, l1, l2, l3, l4, l5, l6]) (j := 4) rfl hn) k
theorem dX7_joined_28 : decode cX7_joined 28 = .ok (.aload_n 0, 1) := by decide +kernel
theorem sX7_joined_28 {l1 l2 l3 l4 l5 l6 : Option Value} {x : Nat} (k : X w mX7_joined d Q 29 [some (.ref x), l1, l2, l3, l4, l5, l6] (.ref x :: st) P) : X w mX7_joined d Q 28 [some (.ref x), l1, l2, l3, l4, l5, l6] st P := X_aload_n (M := mX7_joined) (dX7_joined_28) rfl rfl k
theorem dX7_joined_29 : decode cX7_joined 29 = .ok (.aload_n 0, 1) := by decide +kernel
theorem sX7_joined_29 {l1 l2 l3 l4 l5 l6 : Option Value} {x : Nat} (k : X w mX7_joined d Q 30 [some (.ref x), l1, l2, l3, l4, l5, l6] (.ref x :: st) P) : X w mX7_joined d Q 29 [some (.ref x), l1, l2, l3, l4, l5, l6] st P := X_aload_n (M := mX7_joined) (dX7_joined_29) rfl rfl k
theorem dX7_joined_30 : decode cX7_joined 30 = .ok (.getfield 12, 3) := by decide +kernel
theorem sX7_joined_30 {a : Nat} {fs : List Value} {v : Nat} (hP : P.1 a = some (xO 5 fs)) (hv : fs[0]? = some (.ref v)) (k : X w mX7_joined d Q 33 ls (.ref v :: st) P) : X w mX7_joined d Q 30 ls (.ref a :: st) P := X_get (M := mX7_joined) (j := 0) (T := TX7) (dX7_joined_30) rfl (by decide) x_in7 xw_42 hP hv k
theorem dX7_joined_33 : decode cX7_joined 33 = .ok (.iload 4, 2) := by decide +kernel
theorem sX7_joined_33 {l0 l1 l2 l3 l5 l6 : Option Value} {x : Int32} (k : X w mX7_joined d Q 35 [l0, l1, l2, l3, some (.int x), l5, l6] (.int x :: st) P) : X w mX7_joined d Q 33 [l0, l1, l2, l3, some (.int x), l5, l6] st P := X_iload (M := mX7_joined) (dX7_joined_33) rfl k
theorem dX7_joined_35 : decode cX7_joined 35 = .ok (.invokevirtual 36, 3) := by decide +kernel
theorem sX7_joined_35_g {b : Nat} {fs : List Value} {a0 : Int32} {Qc : Outcome → xH → Prop} (hst : (st.map fun v => v.category).sum ≤ 8) (hP : P.1 b = some (xO 0 fs)) (hC : xC w d mX0_spanEnd [.ref b, .int a0] P Qc) (kr : ∀ v P1, Qc (.returned v) P1 → X w mX7_joined (d + 1) Q 38 ls (v.toList ++ st) P1) (kt : ∀ q P1, Qc (.threw q) P1 → Xt w mX7_joined (d + 1) Q 35 ls st P1 q) : X w mX7_joined (d + 1) Q 35 ls (.int a0 :: .ref b :: st) P := X_callV (M := mX7_joined) (MC := mX0_spanEnd) (As := [.int a0]) (T := TX0) (dX7_joined_35) calX0_spanEnd xw_54 xw_30 xw_31 rfl rfl hP hC hst kr kt
theorem sX7_joined_35 {b : Nat} {fs : List Value} {a0 : Int32} {r : Int32} {P1 : xH} (hst : (st.map fun v => v.category).sum ≤ 8) (hP : P.1 b = some (xO 0 fs)) (hC : xC w d mX0_spanEnd [.ref b, .int a0] P (xRet (some (.int r)) P1)) (k : X w mX7_joined (d + 1) Q 38 ls (.int r :: st) P1) : X w mX7_joined (d + 1) Q 35 ls (.int a0 :: .ref b :: st) P := X_callV (M := mX7_joined) (MC := mX0_spanEnd) (As := [.int a0]) (T := TX0) (dX7_joined_35) calX0_spanEnd xw_54 xw_30 xw_31 rfl rfl hP hC hst (fun v P2 h => by obtain ⟨h1, rfl⟩ := h; cases h1; exact k) (fun q P2 h => by cases h.1)
theorem sX7_joined_35_t {b : Nat} {fs : List Value} {a0 : Int32} {q : Nat} {P1 : xH} (hst : (st.map fun v => v.category).sum ≤ 8) (hP : P.1 b = some (xO 0 fs)) (hC : xC w d mX0_spanEnd [.ref b, .int a0] P (xThr q P1)) (hq : Q (.threw q) P1) : X w mX7_joined (d + 1) Q 35 ls (.int a0 :: .ref b :: st) P := X_callV (M := mX7_joined) (MC := mX0_spanEnd) (As := [.int a0]) (T := TX0) (dX7_joined_35) calX0_spanEnd xw_54 xw_30 xw_31 rfl rfl hP hC hst (fun v P2 h => by cases h.1) (fun q2 P2 h => by obtain ⟨h1, rfl⟩ := h; cases h1; exact Xt_out rfl hq)
theorem dX7_joined_38 : decode cX7_joined 38 = .ok (.iload_n 2, 1) := by decide +kernel
theorem sX7_joined_38 {l0 l1 l3 l4 l5 l6 : Option Value} {x : Int32} (k : X w mX7_joined d Q 39 [l0, l1, some (.int x), l3, l4, l5, l6] (.int x :: st) P) : X w mX7_joined d Q 38 [l0, l1, some (.int x), l3, l4, l5, l6] st P := X_iload_n (M := mX7_joined) (dX7_joined_38) rfl rfl k
theorem dX7_joined_39 : decode cX7_joined 39 = .ok (.invokevirtual 32, 3) := by decide +kernel
theorem sX7_joined_39_g {b : Nat} {fs : List Value} {a0 : Int32} {a1 : Int32} {Qc : Outcome → xH → Prop} (hst : (st.map fun v => v.category).sum ≤ 8) (hP : P.1 b = some (xO 5 fs)) (hC : xC w d mX7_joinedByLoad [.ref b, .int a0, .int a1] P Qc) (kr : ∀ v P1, Qc (.returned v) P1 → X w mX7_joined (d + 1) Q 42 ls (v.toList ++ st) P1) (kt : ∀ q P1, Qc (.threw q) P1 → Xt w mX7_joined (d + 1) Q 39 ls st P1 q) : X w mX7_joined (d + 1) Q 39 ls (.int a1 :: .int a0 :: .ref b :: st) P := X_callV (M := mX7_joined) (MC := mX7_joinedByLoad) (As := [.int a0, .int a1]) (T := TX7) (dX7_joined_39) calX7_joinedByLoad xw_51 xw_52 xw_53 rfl rfl hP hC hst kr kt
theorem sX7_joined_39 {b : Nat} {fs : List Value} {a0 : Int32} {a1 : Int32} {r : Int32} {P1 : xH} (hst : (st.map fun v => v.category).sum ≤ 8) (hP : P.1 b = some (xO 5 fs)) (hC : xC w d mX7_joinedByLoad [.ref b, .int a0, .int a1] P (xRet (some (.int r)) P1)) (k : X w mX7_joined (d + 1) Q 42 ls (.int r :: st) P1) : X w mX7_joined (d + 1) Q 39 ls (.int a1 :: .int a0 :: .ref b :: st) P := X_callV (M := mX7_joined) (MC := mX7_joinedByLoad) (As := [.int a0, .int a1]) (T := TX7) (dX7_joined_39) calX7_joinedByLoad xw_51 xw_52 xw_53 rfl rfl hP hC hst (fun v P2 h => by obtain ⟨h1, rfl⟩ := h; cases h1; exact k) (fun q P2 h => by cases h.1)
theorem sX7_joined_39_t {b : Nat} {fs : List Value} {a0 : Int32} {a1 : Int32} {q : Nat} {P1 : xH} (hst : (st.map fun v => v.category).sum ≤ 8) (hP : P.1 b = some (xO 5 fs)) (hC : xC w d mX7_joinedByLoad [.ref b, .int a0, .int a1] P (xThr q P1)) (hq : Q (.threw q) P1) : X w mX7_joined (d + 1) Q 39 ls (.int a1 :: .int a0 :: .ref b :: st) P := X_callV (M := mX7_joined) (MC := mX7_joinedByLoad) (As := [.int a0, .int a1]) (T := TX7) (dX7_joined_39) calX7_joinedByLoad xw_51 xw_52 xw_53 rfl rfl hP hC hst (fun v P2 h => by cases h.1) (fun q2 P2 h => by obtain ⟨h1, rfl⟩ := h; cases h1; exact Xt_out rfl hq)
theorem dX7_joined_42 : decode cX7_joined 42 = .ok (.istore 6, 2) := by decide +kernel
theorem sX7_joined_42 {l0 l1 l2 l3 l4 l5 l6 : Option Value} {x : Int32} (hn : xnl l5 = true) (k : X w mX7_joined d Q 44 [l0, l1, l2, l3, l4, l5, some (.int x)] st P) : X w mX7_joined d Q 42 [l0, l1, l2, l3, l4, l5, l6] (.int x :: st) P := X_istore (M := mX7_joined) (dX7_joined_42) (by decide) rfl (xnl_p (ls := [l0, l1, l2, l3, l4, l5, l6]) (j := 5) rfl hn) k
theorem dX7_joined_44 : decode cX7_joined 44 = .ok (.aload_n 0, 1) := by decide +kernel
theorem sX7_joined_44 {l1 l2 l3 l4 l5 l6 : Option Value} {x : Nat} (k : X w mX7_joined d Q 45 [some (.ref x), l1, l2, l3, l4, l5, l6] (.ref x :: st) P) : X w mX7_joined d Q 44 [some (.ref x), l1, l2, l3, l4, l5, l6] st P := X_aload_n (M := mX7_joined) (dX7_joined_44) rfl rfl k
theorem dX7_joined_45 : decode cX7_joined 45 = .ok (.getfield 12, 3) := by decide +kernel
theorem sX7_joined_45 {a : Nat} {fs : List Value} {v : Nat} (hP : P.1 a = some (xO 5 fs)) (hv : fs[0]? = some (.ref v)) (k : X w mX7_joined d Q 48 ls (.ref v :: st) P) : X w mX7_joined d Q 45 ls (.ref a :: st) P := X_get (M := mX7_joined) (j := 0) (T := TX7) (dX7_joined_45) rfl (by decide) x_in7 xw_42 hP hv k
theorem dX7_joined_48 : decode cX7_joined 48 = .ok (.iload 5, 2) := by decide +kernel
theorem sX7_joined_48 {l0 l1 l2 l3 l4 l6 : Option Value} {x : Int32} (k : X w mX7_joined d Q 50 [l0, l1, l2, l3, l4, some (.int x), l6] (.int x :: st) P) : X w mX7_joined d Q 48 [l0, l1, l2, l3, l4, some (.int x), l6] st P := X_iload (M := mX7_joined) (dX7_joined_48) rfl k
theorem dX7_joined_50 : decode cX7_joined 50 = .ok (.iload 6, 2) := by decide +kernel
theorem sX7_joined_50 {l0 l1 l2 l3 l4 l5 : Option Value} {x : Int32} (k : X w mX7_joined d Q 52 [l0, l1, l2, l3, l4, l5, some (.int x)] (.int x :: st) P) : X w mX7_joined d Q 50 [l0, l1, l2, l3, l4, l5, some (.int x)] st P := X_iload (M := mX7_joined) (dX7_joined_50) rfl k
theorem dX7_joined_52 : decode cX7_joined 52 = .ok (.iload 4, 2) := by decide +kernel
theorem sX7_joined_52 {l0 l1 l2 l3 l5 l6 : Option Value} {x : Int32} (k : X w mX7_joined d Q 54 [l0, l1, l2, l3, some (.int x), l5, l6] (.int x :: st) P) : X w mX7_joined d Q 52 [l0, l1, l2, l3, some (.int x), l5, l6] st P := X_iload (M := mX7_joined) (dX7_joined_52) rfl k
theorem dX7_joined_54 : decode cX7_joined 54 = .ok (.iload_n 3, 1) := by decide +kernel
theorem sX7_joined_54 {l0 l1 l2 l4 l5 l6 : Option Value} {x : Int32} (k : X w mX7_joined d Q 55 [l0, l1, l2, some (.int x), l4, l5, l6] (.int x :: st) P) : X w mX7_joined d Q 54 [l0, l1, l2, some (.int x), l4, l5, l6] st P := X_iload_n (M := mX7_joined) (dX7_joined_54) rfl rfl k
theorem dX7_joined_55 : decode cX7_joined 55 = .ok (.invokevirtual 39, 3) := by decide +kernel
theorem sX7_joined_55_g {b : Nat} {fs : List Value} {a0 : Int32} {a1 : Int32} {a2 : Int32} {a3 : Int32} {Qc : Outcome → xH → Prop} (hst : (st.map fun v => v.category).sum ≤ 8) (hP : P.1 b = some (xO 0 fs)) (hC : xC w d mX0_mixed [.ref b, .int a0, .int a1, .int a2, .int a3] P Qc) (kr : ∀ v P1, Qc (.returned v) P1 → X w mX7_joined (d + 1) Q 58 ls (v.toList ++ st) P1) (kt : ∀ q P1, Qc (.threw q) P1 → Xt w mX7_joined (d + 1) Q 55 ls st P1 q) : X w mX7_joined (d + 1) Q 55 ls (.int a3 :: .int a2 :: .int a1 :: .int a0 :: .ref b :: st) P := X_callV (M := mX7_joined) (MC := mX0_mixed) (As := [.int a0, .int a1, .int a2, .int a3]) (T := TX0) (dX7_joined_55) calX0_mixed xw_55 xw_56 xw_57 rfl rfl hP hC hst kr kt
theorem sX7_joined_55 {b : Nat} {fs : List Value} {a0 : Int32} {a1 : Int32} {a2 : Int32} {a3 : Int32} {r : Int32} {P1 : xH} (hst : (st.map fun v => v.category).sum ≤ 8) (hP : P.1 b = some (xO 0 fs)) (hC : xC w d mX0_mixed [.ref b, .int a0, .int a1, .int a2, .int a3] P (xRet (some (.int r)) P1)) (k : X w mX7_joined (d + 1) Q 58 ls (.int r :: st) P1) : X w mX7_joined (d + 1) Q 55 ls (.int a3 :: .int a2 :: .int a1 :: .int a0 :: .ref b :: st) P := X_callV (M := mX7_joined) (MC := mX0_mixed) (As := [.int a0, .int a1, .int a2, .int a3]) (T := TX0) (dX7_joined_55) calX0_mixed xw_55 xw_56 xw_57 rfl rfl hP hC hst (fun v P2 h => by obtain ⟨h1, rfl⟩ := h; cases h1; exact k) (fun q P2 h => by cases h.1)
theorem sX7_joined_55_t {b : Nat} {fs : List Value} {a0 : Int32} {a1 : Int32} {a2 : Int32} {a3 : Int32} {q : Nat} {P1 : xH} (hst : (st.map fun v => v.category).sum ≤ 8) (hP : P.1 b = some (xO 0 fs)) (hC : xC w d mX0_mixed [.ref b, .int a0, .int a1, .int a2, .int a3] P (xThr q P1)) (hq : Q (.threw q) P1) : X w mX7_joined (d + 1) Q 55 ls (.int a3 :: .int a2 :: .int a1 :: .int a0 :: .ref b :: st) P := X_callV (M := mX7_joined) (MC := mX0_mixed) (As := [.int a0, .int a1, .int a2, .int a3]) (T := TX0) (dX7_joined_55) calX0_mixed xw_55 xw_56 xw_57 rfl rfl hP hC hst (fun v P2 h => by cases h.1) (fun q2 P2 h => by obtain ⟨h1, rfl⟩ := h; cases h1; exact Xt_out rfl hq)
theorem dX7_joined_58 : decode cX7_joined 58 = .ok (.ireturn, 1) := by decide +kernel
theorem sX7_joined_58 {v : Int32} (hq : Q (.returned (some (.int v))) P) : X w mX7_joined d Q 58 ls [.int v] P := X_iret (M := mX7_joined) (dX7_joined_58) rfl hq
theorem dX7_joinedByLoad_0 : decode cX7_joinedByLoad 0 = .ok (.aload_n 0, 1) := by decide +kernel
theorem sX7_joinedByLoad_0 {l1 l2 l3 l4 l5 : Option Value} {x : Nat} (k : X w mX7_joinedByLoad d Q 1 [some (.ref x), l1, l2, l3, l4, l5] (.ref x :: st) P) : X w mX7_joinedByLoad d Q 0 [some (.ref x), l1, l2, l3, l4, l5] st P := X_aload_n (M := mX7_joinedByLoad) (dX7_joinedByLoad_0) rfl rfl k
theorem dX7_joinedByLoad_1 : decode cX7_joinedByLoad 1 = .ok (.getfield 18, 3) := by decide +kernel
theorem sX7_joinedByLoad_1 {a : Nat} {fs : List Value} {v : Nat} (hP : P.1 a = some (xO 5 fs)) (hv : fs[1]? = some (.ref v)) (k : X w mX7_joinedByLoad d Q 4 ls (.ref v :: st) P) : X w mX7_joinedByLoad d Q 1 ls (.ref a :: st) P := X_get (M := mX7_joinedByLoad) (j := 1) (T := TX7) (dX7_joinedByLoad_1) rfl (by decide) x_in7 xw_43 hP hv k
theorem dX7_joinedByLoad_4 : decode cX7_joinedByLoad 4 = .ok (.iload_n 2, 1) := by decide +kernel
theorem sX7_joinedByLoad_4 {l0 l1 l3 l4 l5 : Option Value} {x : Int32} (k : X w mX7_joinedByLoad d Q 5 [l0, l1, some (.int x), l3, l4, l5] (.int x :: st) P) : X w mX7_joinedByLoad d Q 4 [l0, l1, some (.int x), l3, l4, l5] st P := X_iload_n (M := mX7_joinedByLoad) (dX7_joinedByLoad_4) rfl rfl k
theorem dX7_joinedByLoad_5 : decode cX7_joinedByLoad 5 = .ok (.invokevirtual 25, 3) := by decide +kernel
theorem sX7_joinedByLoad_5_g {b : Nat} {fs : List Value} {a0 : Int32} {Qc : Outcome → xH → Prop} (hst : (st.map fun v => v.category).sum ≤ 8) (hP : P.1 b = some (xO 0 fs)) (hC : xC w d mX0_brought [.ref b, .int a0] P Qc) (kr : ∀ v P1, Qc (.returned v) P1 → X w mX7_joinedByLoad (d + 1) Q 8 ls (v.toList ++ st) P1) (kt : ∀ q P1, Qc (.threw q) P1 → Xt w mX7_joinedByLoad (d + 1) Q 5 ls st P1 q) : X w mX7_joinedByLoad (d + 1) Q 5 ls (.int a0 :: .ref b :: st) P := X_callV (M := mX7_joinedByLoad) (MC := mX0_brought) (As := [.int a0]) (T := TX0) (dX7_joinedByLoad_5) calX0_brought xw_45 xw_46 xw_47 rfl rfl hP hC hst kr kt
theorem sX7_joinedByLoad_5 {b : Nat} {fs : List Value} {a0 : Int32} {r : Int32} {P1 : xH} (hst : (st.map fun v => v.category).sum ≤ 8) (hP : P.1 b = some (xO 0 fs)) (hC : xC w d mX0_brought [.ref b, .int a0] P (xRet (some (.int r)) P1)) (k : X w mX7_joinedByLoad (d + 1) Q 8 ls (.int r :: st) P1) : X w mX7_joinedByLoad (d + 1) Q 5 ls (.int a0 :: .ref b :: st) P := X_callV (M := mX7_joinedByLoad) (MC := mX0_brought) (As := [.int a0]) (T := TX0) (dX7_joinedByLoad_5) calX0_brought xw_45 xw_46 xw_47 rfl rfl hP hC hst (fun v P2 h => by obtain ⟨h1, rfl⟩ := h; cases h1; exact k) (fun q P2 h => by cases h.1)
theorem sX7_joinedByLoad_5_t {b : Nat} {fs : List Value} {a0 : Int32} {q : Nat} {P1 : xH} (hst : (st.map fun v => v.category).sum ≤ 8) (hP : P.1 b = some (xO 0 fs)) (hC : xC w d mX0_brought [.ref b, .int a0] P (xThr q P1)) (hq : Q (.threw q) P1) : X w mX7_joinedByLoad (d + 1) Q 5 ls (.int a0 :: .ref b :: st) P := X_callV (M := mX7_joinedByLoad) (MC := mX0_brought) (As := [.int a0]) (T := TX0) (dX7_joinedByLoad_5) calX0_brought xw_45 xw_46 xw_47 rfl rfl hP hC hst (fun v P2 h => by cases h.1) (fun q2 P2 h => by obtain ⟨h1, rfl⟩ := h; cases h1; exact Xt_out rfl hq)
theorem dX7_joinedByLoad_8 : decode cX7_joinedByLoad 8 = .ok (.istore_n 3, 1) := by decide +kernel
theorem sX7_joinedByLoad_8 {l0 l1 l2 l3 l4 l5 : Option Value} {x : Int32} (hn : xnl l2 = true) (k : X w mX7_joinedByLoad d Q 9 [l0, l1, l2, some (.int x), l4, l5] st P) : X w mX7_joinedByLoad d Q 8 [l0, l1, l2, l3, l4, l5] (.int x :: st) P := X_istore_n (M := mX7_joinedByLoad) (dX7_joinedByLoad_8) rfl (by decide) rfl (xnl_p (ls := [l0, l1, l2, l3, l4, l5]) (j := 2) rfl hn) k
theorem dX7_joinedByLoad_9 : decode cX7_joinedByLoad 9 = .ok (.aload_n 0, 1) := by decide +kernel
theorem sX7_joinedByLoad_9 {l1 l2 l3 l4 l5 : Option Value} {x : Nat} (k : X w mX7_joinedByLoad d Q 10 [some (.ref x), l1, l2, l3, l4, l5] (.ref x :: st) P) : X w mX7_joinedByLoad d Q 9 [some (.ref x), l1, l2, l3, l4, l5] st P := X_aload_n (M := mX7_joinedByLoad) (dX7_joinedByLoad_9) rfl rfl k
theorem dX7_joinedByLoad_10 : decode cX7_joinedByLoad 10 = .ok (.getfield 18, 3) := by decide +kernel
theorem sX7_joinedByLoad_10 {a : Nat} {fs : List Value} {v : Nat} (hP : P.1 a = some (xO 5 fs)) (hv : fs[1]? = some (.ref v)) (k : X w mX7_joinedByLoad d Q 13 ls (.ref v :: st) P) : X w mX7_joinedByLoad d Q 10 ls (.ref a :: st) P := X_get (M := mX7_joinedByLoad) (j := 1) (T := TX7) (dX7_joinedByLoad_10) rfl (by decide) x_in7 xw_43 hP hv k
theorem dX7_joinedByLoad_13 : decode cX7_joinedByLoad 13 = .ok (.iload_n 3, 1) := by decide +kernel
theorem sX7_joinedByLoad_13 {l0 l1 l2 l4 l5 : Option Value} {x : Int32} (k : X w mX7_joinedByLoad d Q 14 [l0, l1, l2, some (.int x), l4, l5] (.int x :: st) P) : X w mX7_joinedByLoad d Q 13 [l0, l1, l2, some (.int x), l4, l5] st P := X_iload_n (M := mX7_joinedByLoad) (dX7_joinedByLoad_13) rfl rfl k
theorem dX7_joinedByLoad_14 : decode cX7_joinedByLoad 14 = .ok (.invokevirtual 29, 3) := by decide +kernel
theorem sX7_joinedByLoad_14_g {b : Nat} {fs : List Value} {a0 : Int32} {Qc : Outcome → xH → Prop} (hst : (st.map fun v => v.category).sum ≤ 8) (hP : P.1 b = some (xO 0 fs)) (hC : xC w d mX0_spanStart [.ref b, .int a0] P Qc) (kr : ∀ v P1, Qc (.returned v) P1 → X w mX7_joinedByLoad (d + 1) Q 17 ls (v.toList ++ st) P1) (kt : ∀ q P1, Qc (.threw q) P1 → Xt w mX7_joinedByLoad (d + 1) Q 14 ls st P1 q) : X w mX7_joinedByLoad (d + 1) Q 14 ls (.int a0 :: .ref b :: st) P := X_callV (M := mX7_joinedByLoad) (MC := mX0_spanStart) (As := [.int a0]) (T := TX0) (dX7_joinedByLoad_14) calX0_spanStart xw_48 xw_49 xw_50 rfl rfl hP hC hst kr kt
theorem sX7_joinedByLoad_14 {b : Nat} {fs : List Value} {a0 : Int32} {r : Int32} {P1 : xH} (hst : (st.map fun v => v.category).sum ≤ 8) (hP : P.1 b = some (xO 0 fs)) (hC : xC w d mX0_spanStart [.ref b, .int a0] P (xRet (some (.int r)) P1)) (k : X w mX7_joinedByLoad (d + 1) Q 17 ls (.int r :: st) P1) : X w mX7_joinedByLoad (d + 1) Q 14 ls (.int a0 :: .ref b :: st) P := X_callV (M := mX7_joinedByLoad) (MC := mX0_spanStart) (As := [.int a0]) (T := TX0) (dX7_joinedByLoad_14) calX0_spanStart xw_48 xw_49 xw_50 rfl rfl hP hC hst (fun v P2 h => by obtain ⟨h1, rfl⟩ := h; cases h1; exact k) (fun q P2 h => by cases h.1)
theorem sX7_joinedByLoad_14_t {b : Nat} {fs : List Value} {a0 : Int32} {q : Nat} {P1 : xH} (hst : (st.map fun v => v.category).sum ≤ 8) (hP : P.1 b = some (xO 0 fs)) (hC : xC w d mX0_spanStart [.ref b, .int a0] P (xThr q P1)) (hq : Q (.threw q) P1) : X w mX7_joinedByLoad (d + 1) Q 14 ls (.int a0 :: .ref b :: st) P := X_callV (M := mX7_joinedByLoad) (MC := mX0_spanStart) (As := [.int a0]) (T := TX0) (dX7_joinedByLoad_14) calX0_spanStart xw_48 xw_49 xw_50 rfl rfl hP hC hst (fun v P2 h => by cases h.1) (fun q2 P2 h => by obtain ⟨h1, rfl⟩ := h; cases h1; exact Xt_out rfl hq)
theorem dX7_joinedByLoad_17 : decode cX7_joinedByLoad 17 = .ok (.istore 4, 2) := by decide +kernel
theorem sX7_joinedByLoad_17 {l0 l1 l2 l3 l4 l5 : Option Value} {x : Int32} (hn : xnl l3 = true) (k : X w mX7_joinedByLoad d Q 19 [l0, l1, l2, l3, some (.int x), l5] st P) : X w mX7_joinedByLoad d Q 17 [l0, l1, l2, l3, l4, l5] (.int x :: st) P := X_istore (M := mX7_joinedByLoad) (dX7_joinedByLoad_17) (by decide) rfl (xnl_p (ls := [l0, l1, l2, l3, l4, l5]) (j := 3) rfl hn) k
theorem dX7_joinedByLoad_19 : decode cX7_joinedByLoad 19 = .ok (.iload_n 1, 1) := by decide +kernel
theorem sX7_joinedByLoad_19 {l0 l2 l3 l4 l5 : Option Value} {x : Int32} (k : X w mX7_joinedByLoad d Q 20 [l0, some (.int x), l2, l3, l4, l5] (.int x :: st) P) : X w mX7_joinedByLoad d Q 19 [l0, some (.int x), l2, l3, l4, l5] st P := X_iload_n (M := mX7_joinedByLoad) (dX7_joinedByLoad_19) rfl rfl k
theorem dX7_joinedByLoad_20 : decode cX7_joinedByLoad 20 = .ok (.aload_n 0, 1) := by decide +kernel
theorem sX7_joinedByLoad_20 {l1 l2 l3 l4 l5 : Option Value} {x : Nat} (k : X w mX7_joinedByLoad d Q 21 [some (.ref x), l1, l2, l3, l4, l5] (.ref x :: st) P) : X w mX7_joinedByLoad d Q 20 [some (.ref x), l1, l2, l3, l4, l5] st P := X_aload_n (M := mX7_joinedByLoad) (dX7_joinedByLoad_20) rfl rfl k
theorem dX7_joinedByLoad_21 : decode cX7_joinedByLoad 21 = .ok (.getfield 18, 3) := by decide +kernel
theorem sX7_joinedByLoad_21 {a : Nat} {fs : List Value} {v : Nat} (hP : P.1 a = some (xO 5 fs)) (hv : fs[1]? = some (.ref v)) (k : X w mX7_joinedByLoad d Q 24 ls (.ref v :: st) P) : X w mX7_joinedByLoad d Q 21 ls (.ref a :: st) P := X_get (M := mX7_joinedByLoad) (j := 1) (T := TX7) (dX7_joinedByLoad_21) rfl (by decide) x_in7 xw_43 hP hv k
theorem dX7_joinedByLoad_24 : decode cX7_joinedByLoad 24 = .ok (.getfield 43, 3) := by decide +kernel
theorem sX7_joinedByLoad_24 {a : Nat} {fs : List Value} {v : Int32} (hP : P.1 a = some (xO 0 fs)) (hv : fs[1]? = some (.int v)) (k : X w mX7_joinedByLoad d Q 27 ls (.int v :: st) P) : X w mX7_joinedByLoad d Q 24 ls (.ref a :: st) P := X_getN (M := mX7_joinedByLoad) (j := 1) (T := TX0) (dX7_joinedByLoad_24) rfl (by decide) x_in0 xw_58 hP hv k
theorem dX7_joinedByLoad_27 : decode cX7_joinedByLoad 27 = .ok (.imul, 1) := by decide +kernel
theorem sX7_joinedByLoad_27 {x y : Int32} (k : X w mX7_joinedByLoad d Q 28 ls (.int (x * y) :: st) P) : X w mX7_joinedByLoad d Q 27 ls (.int y :: .int x :: st) P := X_imul (M := mX7_joinedByLoad) (dX7_joinedByLoad_27) k
theorem dX7_joinedByLoad_28 : decode cX7_joinedByLoad 28 = .ok (.istore 5, 2) := by decide +kernel
theorem sX7_joinedByLoad_28 {l0 l1 l2 l3 l4 l5 : Option Value} {x : Int32} (hn : xnl l4 = true) (k : X w mX7_joinedByLoad d Q 30 [l0, l1, l2, l3, l4, some (.int x)] st P) : X w mX7_joinedByLoad d Q 28 [l0, l1, l2, l3, l4, l5] (.int x :: st) P := X_istore (M := mX7_joinedByLoad) (dX7_joinedByLoad_28) (by decide) rfl (xnl_p (ls := [l0, l1, l2, l3, l4, l5]) (j := 4) rfl hn) k
theorem dX7_joinedByLoad_30 : decode cX7_joinedByLoad 30 = .ok (.aload_n 0, 1) := by decide +kernel
theorem sX7_joinedByLoad_30 {l1 l2 l3 l4 l5 : Option Value} {x : Nat} (k : X w mX7_joinedByLoad d Q 31 [some (.ref x), l1, l2, l3, l4, l5] (.ref x :: st) P) : X w mX7_joinedByLoad d Q 30 [some (.ref x), l1, l2, l3, l4, l5] st P := X_aload_n (M := mX7_joinedByLoad) (dX7_joinedByLoad_30) rfl rfl k
theorem dX7_joinedByLoad_31 : decode cX7_joinedByLoad 31 = .ok (.getfield 18, 3) := by decide +kernel
theorem sX7_joinedByLoad_31 {a : Nat} {fs : List Value} {v : Nat} (hP : P.1 a = some (xO 5 fs)) (hv : fs[1]? = some (.ref v)) (k : X w mX7_joinedByLoad d Q 34 ls (.ref v :: st) P) : X w mX7_joinedByLoad d Q 31 ls (.ref a :: st) P := X_get (M := mX7_joinedByLoad) (j := 1) (T := TX7) (dX7_joinedByLoad_31) rfl (by decide) x_in7 xw_43 hP hv k
theorem dX7_joinedByLoad_34 : decode cX7_joinedByLoad 34 = .ok (.aload_n 0, 1) := by decide +kernel
theorem sX7_joinedByLoad_34 {l1 l2 l3 l4 l5 : Option Value} {x : Nat} (k : X w mX7_joinedByLoad d Q 35 [some (.ref x), l1, l2, l3, l4, l5] (.ref x :: st) P) : X w mX7_joinedByLoad d Q 34 [some (.ref x), l1, l2, l3, l4, l5] st P := X_aload_n (M := mX7_joinedByLoad) (dX7_joinedByLoad_34) rfl rfl k
theorem dX7_joinedByLoad_35 : decode cX7_joinedByLoad 35 = .ok (.getfield 21, 3) := by decide +kernel
theorem sX7_joinedByLoad_35 {a : Nat} {fs : List Value} {v : Nat} (hP : P.1 a = some (xO 5 fs)) (hv : fs[2]? = some (.ref v)) (k : X w mX7_joinedByLoad d Q 38 ls (.ref v :: st) P) : X w mX7_joinedByLoad d Q 35 ls (.ref a :: st) P := X_get (M := mX7_joinedByLoad) (j := 2) (T := TX7) (dX7_joinedByLoad_35) rfl (by decide) x_in7 xw_44 hP hv k
theorem dX7_joinedByLoad_38 : decode cX7_joinedByLoad 38 = .ok (.iload 5, 2) := by decide +kernel
theorem sX7_joinedByLoad_38 {l0 l1 l2 l3 l4 : Option Value} {x : Int32} (k : X w mX7_joinedByLoad d Q 40 [l0, l1, l2, l3, l4, some (.int x)] (.int x :: st) P) : X w mX7_joinedByLoad d Q 38 [l0, l1, l2, l3, l4, some (.int x)] st P := X_iload (M := mX7_joinedByLoad) (dX7_joinedByLoad_38) rfl k
theorem dX7_joinedByLoad_40 : decode cX7_joinedByLoad 40 = .ok (.iload 4, 2) := by decide +kernel
theorem sX7_joinedByLoad_40 {l0 l1 l2 l3 l5 : Option Value} {x : Int32} (k : X w mX7_joinedByLoad d Q 42 [l0, l1, l2, l3, some (.int x), l5] (.int x :: st) P) : X w mX7_joinedByLoad d Q 40 [l0, l1, l2, l3, some (.int x), l5] st P := X_iload (M := mX7_joinedByLoad) (dX7_joinedByLoad_40) rfl k
theorem dX7_joinedByLoad_42 : decode cX7_joinedByLoad 42 = .ok (.iadd, 1) := by decide +kernel
theorem sX7_joinedByLoad_42 {x y : Int32} (k : X w mX7_joinedByLoad d Q 43 ls (.int (x + y) :: st) P) : X w mX7_joinedByLoad d Q 42 ls (.int y :: .int x :: st) P := X_iadd (M := mX7_joinedByLoad) (dX7_joinedByLoad_42) k
theorem dX7_joinedByLoad_43 : decode cX7_joinedByLoad 43 = .ok (.iaload, 1) := by decide +kernel
theorem sX7_joinedByLoad_43 {a n : Nat} {f : Nat → Int32} {i : Int32} (hP : P.1 a = some (xA 0 n f)) (hi : vp_in i n) (k : X w mX7_joinedByLoad d Q 44 ls (.int (f i.toNatClampNeg) :: st) P) : X w mX7_joinedByLoad d Q 43 ls (.int i :: .ref a :: st) P := X_iald (M := mX7_joinedByLoad) (dX7_joinedByLoad_43) hP hi k
theorem dX7_joinedByLoad_44 : decode cX7_joinedByLoad 44 = .ok (.aload_n 0, 1) := by decide +kernel
theorem sX7_joinedByLoad_44 {l1 l2 l3 l4 l5 : Option Value} {x : Nat} (k : X w mX7_joinedByLoad d Q 45 [some (.ref x), l1, l2, l3, l4, l5] (.ref x :: st) P) : X w mX7_joinedByLoad d Q 44 [some (.ref x), l1, l2, l3, l4, l5] st P := X_aload_n (M := mX7_joinedByLoad) (dX7_joinedByLoad_44) rfl rfl k
theorem dX7_joinedByLoad_45 : decode cX7_joinedByLoad 45 = .ok (.getfield 21, 3) := by decide +kernel
theorem sX7_joinedByLoad_45 {a : Nat} {fs : List Value} {v : Nat} (hP : P.1 a = some (xO 5 fs)) (hv : fs[2]? = some (.ref v)) (k : X w mX7_joinedByLoad d Q 48 ls (.ref v :: st) P) : X w mX7_joinedByLoad d Q 45 ls (.ref a :: st) P := X_get (M := mX7_joinedByLoad) (j := 2) (T := TX7) (dX7_joinedByLoad_45) rfl (by decide) x_in7 xw_44 hP hv k
theorem dX7_joinedByLoad_48 : decode cX7_joinedByLoad 48 = .ok (.iload 5, 2) := by decide +kernel
theorem sX7_joinedByLoad_48 {l0 l1 l2 l3 l4 : Option Value} {x : Int32} (k : X w mX7_joinedByLoad d Q 50 [l0, l1, l2, l3, l4, some (.int x)] (.int x :: st) P) : X w mX7_joinedByLoad d Q 48 [l0, l1, l2, l3, l4, some (.int x)] st P := X_iload (M := mX7_joinedByLoad) (dX7_joinedByLoad_48) rfl k
theorem dX7_joinedByLoad_50 : decode cX7_joinedByLoad 50 = .ok (.aload_n 0, 1) := by decide +kernel
theorem sX7_joinedByLoad_50 {l1 l2 l3 l4 l5 : Option Value} {x : Nat} (k : X w mX7_joinedByLoad d Q 51 [some (.ref x), l1, l2, l3, l4, l5] (.ref x :: st) P) : X w mX7_joinedByLoad d Q 50 [some (.ref x), l1, l2, l3, l4, l5] st P := X_aload_n (M := mX7_joinedByLoad) (dX7_joinedByLoad_50) rfl rfl k
theorem dX7_joinedByLoad_51 : decode cX7_joinedByLoad 51 = .ok (.getfield 18, 3) := by decide +kernel
theorem sX7_joinedByLoad_51 {a : Nat} {fs : List Value} {v : Nat} (hP : P.1 a = some (xO 5 fs)) (hv : fs[1]? = some (.ref v)) (k : X w mX7_joinedByLoad d Q 54 ls (.ref v :: st) P) : X w mX7_joinedByLoad d Q 51 ls (.ref a :: st) P := X_get (M := mX7_joinedByLoad) (j := 1) (T := TX7) (dX7_joinedByLoad_51) rfl (by decide) x_in7 xw_43 hP hv k
theorem dX7_joinedByLoad_54 : decode cX7_joinedByLoad 54 = .ok (.iload 4, 2) := by decide +kernel
theorem sX7_joinedByLoad_54 {l0 l1 l2 l3 l5 : Option Value} {x : Int32} (k : X w mX7_joinedByLoad d Q 56 [l0, l1, l2, l3, some (.int x), l5] (.int x :: st) P) : X w mX7_joinedByLoad d Q 54 [l0, l1, l2, l3, some (.int x), l5] st P := X_iload (M := mX7_joinedByLoad) (dX7_joinedByLoad_54) rfl k
theorem dX7_joinedByLoad_56 : decode cX7_joinedByLoad 56 = .ok (.invokevirtual 36, 3) := by decide +kernel
theorem sX7_joinedByLoad_56_g {b : Nat} {fs : List Value} {a0 : Int32} {Qc : Outcome → xH → Prop} (hst : (st.map fun v => v.category).sum ≤ 8) (hP : P.1 b = some (xO 0 fs)) (hC : xC w d mX0_spanEnd [.ref b, .int a0] P Qc) (kr : ∀ v P1, Qc (.returned v) P1 → X w mX7_joinedByLoad (d + 1) Q 59 ls (v.toList ++ st) P1) (kt : ∀ q P1, Qc (.threw q) P1 → Xt w mX7_joinedByLoad (d + 1) Q 56 ls st P1 q) : X w mX7_joinedByLoad (d + 1) Q 56 ls (.int a0 :: .ref b :: st) P := X_callV (M := mX7_joinedByLoad) (MC := mX0_spanEnd) (As := [.int a0]) (T := TX0) (dX7_joinedByLoad_56) calX0_spanEnd xw_54 xw_30 xw_31 rfl rfl hP hC hst kr kt
theorem sX7_joinedByLoad_56 {b : Nat} {fs : List Value} {a0 : Int32} {r : Int32} {P1 : xH} (hst : (st.map fun v => v.category).sum ≤ 8) (hP : P.1 b = some (xO 0 fs)) (hC : xC w d mX0_spanEnd [.ref b, .int a0] P (xRet (some (.int r)) P1)) (k : X w mX7_joinedByLoad (d + 1) Q 59 ls (.int r :: st) P1) : X w mX7_joinedByLoad (d + 1) Q 56 ls (.int a0 :: .ref b :: st) P := X_callV (M := mX7_joinedByLoad) (MC := mX0_spanEnd) (As := [.int a0]) (T := TX0) (dX7_joinedByLoad_56) calX0_spanEnd xw_54 xw_30 xw_31 rfl rfl hP hC hst (fun v P2 h => by obtain ⟨h1, rfl⟩ := h; cases h1; exact k) (fun q P2 h => by cases h.1)
theorem sX7_joinedByLoad_56_t {b : Nat} {fs : List Value} {a0 : Int32} {q : Nat} {P1 : xH} (hst : (st.map fun v => v.category).sum ≤ 8) (hP : P.1 b = some (xO 0 fs)) (hC : xC w d mX0_spanEnd [.ref b, .int a0] P (xThr q P1)) (hq : Q (.threw q) P1) : X w mX7_joinedByLoad (d + 1) Q 56 ls (.int a0 :: .ref b :: st) P := X_callV (M := mX7_joinedByLoad) (MC := mX0_spanEnd) (As := [.int a0]) (T := TX0) (dX7_joinedByLoad_56) calX0_spanEnd xw_54 xw_30 xw_31 rfl rfl hP hC hst (fun v P2 h => by cases h.1) (fun q2 P2 h => by obtain ⟨h1, rfl⟩ := h; cases h1; exact Xt_out rfl hq)
theorem dX7_joinedByLoad_59 : decode cX7_joinedByLoad 59 = .ok (.iadd, 1) := by decide +kernel
theorem sX7_joinedByLoad_59 {x y : Int32} (k : X w mX7_joinedByLoad d Q 60 ls (.int (x + y) :: st) P) : X w mX7_joinedByLoad d Q 59 ls (.int y :: .int x :: st) P := X_iadd (M := mX7_joinedByLoad) (dX7_joinedByLoad_59) k
theorem dX7_joinedByLoad_60 : decode cX7_joinedByLoad 60 = .ok (.iaload, 1) := by decide +kernel
theorem sX7_joinedByLoad_60 {a n : Nat} {f : Nat → Int32} {i : Int32} (hP : P.1 a = some (xA 0 n f)) (hi : vp_in i n) (k : X w mX7_joinedByLoad d Q 61 ls (.int (f i.toNatClampNeg) :: st) P) : X w mX7_joinedByLoad d Q 60 ls (.int i :: .ref a :: st) P := X_iald (M := mX7_joinedByLoad) (dX7_joinedByLoad_60) hP hi k
theorem dX7_joinedByLoad_61 : decode cX7_joinedByLoad 61 = .ok (.iload 4, 2) := by decide +kernel
theorem sX7_joinedByLoad_61 {l0 l1 l2 l3 l5 : Option Value} {x : Int32} (k : X w mX7_joinedByLoad d Q 63 [l0, l1, l2, l3, some (.int x), l5] (.int x :: st) P) : X w mX7_joinedByLoad d Q 61 [l0, l1, l2, l3, some (.int x), l5] st P := X_iload (M := mX7_joinedByLoad) (dX7_joinedByLoad_61) rfl k
theorem dX7_joinedByLoad_63 : decode cX7_joinedByLoad 63 = .ok (.iload_n 3, 1) := by decide +kernel
theorem sX7_joinedByLoad_63 {l0 l1 l2 l4 l5 : Option Value} {x : Int32} (k : X w mX7_joinedByLoad d Q 64 [l0, l1, l2, some (.int x), l4, l5] (.int x :: st) P) : X w mX7_joinedByLoad d Q 63 [l0, l1, l2, some (.int x), l4, l5] st P := X_iload_n (M := mX7_joinedByLoad) (dX7_joinedByLoad_63) rfl rfl k
theorem dX7_joinedByLoad_64 : decode cX7_joinedByLoad 64 = .ok (.invokevirtual 39, 3) := by decide +kernel
theorem sX7_joinedByLoad_64_g {b : Nat} {fs : List Value} {a0 : Int32} {a1 : Int32} {a2 : Int32} {a3 : Int32} {Qc : Outcome → xH → Prop} (hst : (st.map fun v => v.category).sum ≤ 8) (hP : P.1 b = some (xO 0 fs)) (hC : xC w d mX0_mixed [.ref b, .int a0, .int a1, .int a2, .int a3] P Qc) (kr : ∀ v P1, Qc (.returned v) P1 → X w mX7_joinedByLoad (d + 1) Q 67 ls (v.toList ++ st) P1) (kt : ∀ q P1, Qc (.threw q) P1 → Xt w mX7_joinedByLoad (d + 1) Q 64 ls st P1 q) : X w mX7_joinedByLoad (d + 1) Q 64 ls (.int a3 :: .int a2 :: .int a1 :: .int a0 :: .ref b :: st) P := X_callV (M := mX7_joinedByLoad) (MC := mX0_mixed) (As := [.int a0, .int a1, .int a2, .int a3]) (T := TX0) (dX7_joinedByLoad_64) calX0_mixed xw_55 xw_56 xw_57 rfl rfl hP hC hst kr kt
theorem sX7_joinedByLoad_64 {b : Nat} {fs : List Value} {a0 : Int32} {a1 : Int32} {a2 : Int32} {a3 : Int32} {r : Int32} {P1 : xH} (hst : (st.map fun v => v.category).sum ≤ 8) (hP : P.1 b = some (xO 0 fs)) (hC : xC w d mX0_mixed [.ref b, .int a0, .int a1, .int a2, .int a3] P (xRet (some (.int r)) P1)) (k : X w mX7_joinedByLoad (d + 1) Q 67 ls (.int r :: st) P1) : X w mX7_joinedByLoad (d + 1) Q 64 ls (.int a3 :: .int a2 :: .int a1 :: .int a0 :: .ref b :: st) P := X_callV (M := mX7_joinedByLoad) (MC := mX0_mixed) (As := [.int a0, .int a1, .int a2, .int a3]) (T := TX0) (dX7_joinedByLoad_64) calX0_mixed xw_55 xw_56 xw_57 rfl rfl hP hC hst (fun v P2 h => by obtain ⟨h1, rfl⟩ := h; cases h1; exact k) (fun q P2 h => by cases h.1)
theorem sX7_joinedByLoad_64_t {b : Nat} {fs : List Value} {a0 : Int32} {a1 : Int32} {a2 : Int32} {a3 : Int32} {q : Nat} {P1 : xH} (hst : (st.map fun v => v.category).sum ≤ 8) (hP : P.1 b = some (xO 0 fs)) (hC : xC w d mX0_mixed [.ref b, .int a0, .int a1, .int a2, .int a3] P (xThr q P1)) (hq : Q (.threw q) P1) : X w mX7_joinedByLoad (d + 1) Q 64 ls (.int a3 :: .int a2 :: .int a1 :: .int a0 :: .ref b :: st) P := X_callV (M := mX7_joinedByLoad) (MC := mX0_mixed) (As := [.int a0, .int a1, .int a2, .int a3]) (T := TX0) (dX7_joinedByLoad_64) calX0_mixed xw_55 xw_56 xw_57 rfl rfl hP hC hst (fun v P2 h => by cases h.1) (fun q2 P2 h => by obtain ⟨h1, rfl⟩ := h; cases h1; exact Xt_out rfl hq)
theorem dX7_joinedByLoad_67 : decode cX7_joinedByLoad 67 = .ok (.ireturn, 1) := by decide +kernel
theorem sX7_joinedByLoad_67 {v : Int32} (hq : Q (.returned (some (.int v))) P) : X w mX7_joinedByLoad d Q 67 ls [.int v] P := X_iret (M := mX7_joinedByLoad) (dX7_joinedByLoad_67) rfl hq
end
