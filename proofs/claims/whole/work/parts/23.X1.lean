section
variable {w : xWd} {d : Nat} {Q : Outcome → xH → Prop} {ls : List (Option Value)} {st : List Value} {P : xH}
theorem dX1_init_0 : decode cX1_init 0 = .ok (.aload_n 0, 1) := by decide +kernel
theorem sX1_init_0 {x : Nat} (k : X w mX1_init d Q 1 [some (.ref x)] (.ref x :: st) P) : X w mX1_init d Q 0 [some (.ref x)] st P := X_aload_n (M := mX1_init) (dX1_init_0) rfl rfl k
theorem dX1_init_1 : decode cX1_init 1 = .ok (.invokespecial 3, 3) := by decide +kernel
theorem sX1_init_1 {a : Nat} (hst : (st.map fun v => v.category).sum ≤ 8) (k : X w mX1_init d Q 4 ls st P) : X w mX1_init d Q 1 ls (.ref a :: st) P := X_objInit (M := mX1_init) (dX1_init_1) xw_98 xw_20 xw_21 hst k
theorem dX1_init_4 : decode cX1_init 4 = .ok (.aload_n 0, 1) := by decide +kernel
theorem sX1_init_4 {x : Nat} (k : X w mX1_init d Q 5 [some (.ref x)] (.ref x :: st) P) : X w mX1_init d Q 4 [some (.ref x)] st P := X_aload_n (M := mX1_init) (dX1_init_4) rfl rfl k
theorem dX1_init_5 : decode cX1_init 5 = .ok (.bipush 9, 2) := by decide +kernel
theorem sX1_init_5 (k : X w mX1_init d Q 7 ls (.int (9 : Int32) :: st) P) : X w mX1_init d Q 5 ls st P := X_bipush (M := mX1_init) (dX1_init_5) (by decide) k
theorem dX1_init_7 : decode cX1_init 7 = .ok (.newarray .long, 2) := by decide +kernel
theorem sX1_init_7 {n : Int32} {N : Nat} (hn : ¬ n < 0) (hN : n.toNatClampNeg = N) (hb : N ≤ 10000) (hr1 : P.2.1 + 1 ≤ w.z + 601024) (hr2 : P.2.2 + N ≤ 7293034) (k : X w mX1_init d Q 9 ls (.ref P.2.1 :: st) (xal P (xJ N (fun _ => 0)) N)) : X w mX1_init d Q 7 ls (.int n :: st) P := X_newaJ (M := mX1_init) (dX1_init_7) xw_60 hn hN hb hr1 hr2 k
theorem dX1_init_9 : decode cX1_init 9 = .ok (.putfield 9, 3) := by decide +kernel
theorem sX1_init_9 {a : Nat} {fs : List Value} {v : Nat} (hP : P.1 a = some (xO 1 fs)) (hl : 2 < fs.length) (k : X w mX1_init d Q 12 ls st (xs P a (xO 1 (fs.set 2 (.ref v))))) : X w mX1_init d Q 9 ls (.ref v :: .ref a :: st) P := X_putF (M := mX1_init) (j := 2) (T := TX1) (dX1_init_9) rfl (by decide) x_c1 xw_99 rfl rfl rfl hP rfl rfl hl k
theorem dX1_init_12 : decode cX1_init 12 = .ok (.aload_n 0, 1) := by decide +kernel
theorem sX1_init_12 {x : Nat} (k : X w mX1_init d Q 13 [some (.ref x)] (.ref x :: st) P) : X w mX1_init d Q 12 [some (.ref x)] st P := X_aload_n (M := mX1_init) (dX1_init_12) rfl rfl k
theorem dX1_init_13 : decode cX1_init 13 = .ok (.iconst 3, 1) := by decide +kernel
theorem sX1_init_13 (k : X w mX1_init d Q 14 ls (.int (3 : Int32) :: st) P) : X w mX1_init d Q 13 ls st P := X_iconst (M := mX1_init) (dX1_init_13) (by decide) k
theorem dX1_init_14 : decode cX1_init 14 = .ok (.newarray .long, 2) := by decide +kernel
theorem sX1_init_14 {n : Int32} {N : Nat} (hn : ¬ n < 0) (hN : n.toNatClampNeg = N) (hb : N ≤ 10000) (hr1 : P.2.1 + 1 ≤ w.z + 601024) (hr2 : P.2.2 + N ≤ 7293034) (k : X w mX1_init d Q 16 ls (.ref P.2.1 :: st) (xal P (xJ N (fun _ => 0)) N)) : X w mX1_init d Q 14 ls (.int n :: st) P := X_newaJ (M := mX1_init) (dX1_init_14) xw_60 hn hN hb hr1 hr2 k
theorem dX1_init_16 : decode cX1_init 16 = .ok (.putfield 15, 3) := by decide +kernel
theorem sX1_init_16 {a : Nat} {fs : List Value} {v : Nat} (hP : P.1 a = some (xO 1 fs)) (hl : 5 < fs.length) (k : X w mX1_init d Q 19 ls st (xs P a (xO 1 (fs.set 5 (.ref v))))) : X w mX1_init d Q 16 ls (.ref v :: .ref a :: st) P := X_putF (M := mX1_init) (j := 5) (T := TX1) (dX1_init_16) rfl (by decide) x_c1 xw_100 rfl rfl rfl hP rfl rfl hl k
theorem dX1_init_19 : decode cX1_init 19 = .ok (.aload_n 0, 1) := by decide +kernel
theorem sX1_init_19 {x : Nat} (k : X w mX1_init d Q 20 [some (.ref x)] (.ref x :: st) P) : X w mX1_init d Q 19 [some (.ref x)] st P := X_aload_n (M := mX1_init) (dX1_init_19) rfl rfl k
theorem dX1_init_20 : decode cX1_init 20 = .ok (.iconst 3, 1) := by decide +kernel
theorem sX1_init_20 (k : X w mX1_init d Q 21 ls (.int (3 : Int32) :: st) P) : X w mX1_init d Q 20 ls st P := X_iconst (M := mX1_init) (dX1_init_20) (by decide) k
theorem dX1_init_21 : decode cX1_init 21 = .ok (.newarray .int, 2) := by decide +kernel
theorem sX1_init_21 {n : Int32} {N : Nat} (hn : ¬ n < 0) (hN : n.toNatClampNeg = N) (hb : N ≤ 10000) (hr1 : P.2.1 + 1 ≤ w.z + 601024) (hr2 : P.2.2 + N ≤ 7293034) (k : X w mX1_init d Q 23 ls (.ref P.2.1 :: st) (xal P (xA 0 N (fun _ => 0)) N)) : X w mX1_init d Q 21 ls (.int n :: st) P := X_newaI (M := mX1_init) (dX1_init_21) (Or.inl ⟨rfl, rfl⟩) xw_22 hn hN hb hr1 hr2 k
theorem dX1_init_23 : decode cX1_init 23 = .ok (.putfield 18, 3) := by decide +kernel
theorem sX1_init_23 {a : Nat} {fs : List Value} {v : Nat} (hP : P.1 a = some (xO 1 fs)) (hl : 6 < fs.length) (k : X w mX1_init d Q 26 ls st (xs P a (xO 1 (fs.set 6 (.ref v))))) : X w mX1_init d Q 23 ls (.ref v :: .ref a :: st) P := X_putF (M := mX1_init) (j := 6) (T := TX1) (dX1_init_23) rfl (by decide) x_c1 xw_101 rfl rfl rfl hP rfl rfl hl k
theorem dX1_init_26 : decode cX1_init 26 = .ok (.aload_n 0, 1) := by decide +kernel
theorem sX1_init_26 {x : Nat} (k : X w mX1_init d Q 27 [some (.ref x)] (.ref x :: st) P) : X w mX1_init d Q 26 [some (.ref x)] st P := X_aload_n (M := mX1_init) (dX1_init_26) rfl rfl k
theorem dX1_init_27 : decode cX1_init 27 = .ok (.iconst 3, 1) := by decide +kernel
theorem sX1_init_27 (k : X w mX1_init d Q 28 ls (.int (3 : Int32) :: st) P) : X w mX1_init d Q 27 ls st P := X_iconst (M := mX1_init) (dX1_init_27) (by decide) k
theorem dX1_init_28 : decode cX1_init 28 = .ok (.newarray .boolean, 2) := by decide +kernel
theorem sX1_init_28 {n : Int32} {N : Nat} (hn : ¬ n < 0) (hN : n.toNatClampNeg = N) (hb : N ≤ 10000) (hr1 : P.2.1 + 1 ≤ w.z + 601024) (hr2 : P.2.2 + N ≤ 7293034) (k : X w mX1_init d Q 30 ls (.ref P.2.1 :: st) (xal P (xA 3 N (fun _ => 0)) N)) : X w mX1_init d Q 28 ls (.int n :: st) P := X_newaI (M := mX1_init) (dX1_init_28) (Or.inr (Or.inr ⟨rfl, rfl⟩)) xw_102 hn hN hb hr1 hr2 k
theorem dX1_init_30 : decode cX1_init 30 = .ok (.putfield 22, 3) := by decide +kernel
theorem sX1_init_30 {a : Nat} {fs : List Value} {v : Nat} (hP : P.1 a = some (xO 1 fs)) (hl : 7 < fs.length) (k : X w mX1_init d Q 33 ls st (xs P a (xO 1 (fs.set 7 (.ref v))))) : X w mX1_init d Q 30 ls (.ref v :: .ref a :: st) P := X_putF (M := mX1_init) (j := 7) (T := TX1) (dX1_init_30) rfl (by decide) x_c1 xw_103 rfl rfl rfl hP rfl rfl hl k
theorem dX1_init_33 : decode cX1_init 33 = .ok (.aload_n 0, 1) := by decide +kernel
theorem sX1_init_33 {x : Nat} (k : X w mX1_init d Q 34 [some (.ref x)] (.ref x :: st) P) : X w mX1_init d Q 33 [some (.ref x)] st P := X_aload_n (M := mX1_init) (dX1_init_33) rfl rfl k
theorem dX1_init_34 : decode cX1_init 34 = .ok (.bipush 64, 2) := by decide +kernel
theorem sX1_init_34 (k : X w mX1_init d Q 36 ls (.int (64 : Int32) :: st) P) : X w mX1_init d Q 34 ls st P := X_bipush (M := mX1_init) (dX1_init_34) (by decide) k
theorem dX1_init_36 : decode cX1_init 36 = .ok (.newarray .int, 2) := by decide +kernel
theorem sX1_init_36 {n : Int32} {N : Nat} (hn : ¬ n < 0) (hN : n.toNatClampNeg = N) (hb : N ≤ 10000) (hr1 : P.2.1 + 1 ≤ w.z + 601024) (hr2 : P.2.2 + N ≤ 7293034) (k : X w mX1_init d Q 38 ls (.ref P.2.1 :: st) (xal P (xA 0 N (fun _ => 0)) N)) : X w mX1_init d Q 36 ls (.int n :: st) P := X_newaI (M := mX1_init) (dX1_init_36) (Or.inl ⟨rfl, rfl⟩) xw_22 hn hN hb hr1 hr2 k
theorem dX1_init_38 : decode cX1_init 38 = .ok (.putfield 26, 3) := by decide +kernel
theorem sX1_init_38 {a : Nat} {fs : List Value} {v : Nat} (hP : P.1 a = some (xO 1 fs)) (hl : 8 < fs.length) (k : X w mX1_init d Q 41 ls st (xs P a (xO 1 (fs.set 8 (.ref v))))) : X w mX1_init d Q 38 ls (.ref v :: .ref a :: st) P := X_putF (M := mX1_init) (j := 8) (T := TX1) (dX1_init_38) rfl (by decide) x_c1 xw_104 rfl rfl rfl hP rfl rfl hl k
theorem dX1_init_41 : decode cX1_init 41 = .ok (.aload_n 0, 1) := by decide +kernel
theorem sX1_init_41 {x : Nat} (k : X w mX1_init d Q 42 [some (.ref x)] (.ref x :: st) P) : X w mX1_init d Q 41 [some (.ref x)] st P := X_aload_n (M := mX1_init) (dX1_init_41) rfl rfl k
theorem dX1_init_42 : decode cX1_init 42 = .ok (.bipush 50, 2) := by decide +kernel
theorem sX1_init_42 (k : X w mX1_init d Q 44 ls (.int (50 : Int32) :: st) P) : X w mX1_init d Q 42 ls st P := X_bipush (M := mX1_init) (dX1_init_42) (by decide) k
theorem dX1_init_44 : decode cX1_init 44 = .ok (.newarray .int, 2) := by decide +kernel
theorem sX1_init_44 {n : Int32} {N : Nat} (hn : ¬ n < 0) (hN : n.toNatClampNeg = N) (hb : N ≤ 10000) (hr1 : P.2.1 + 1 ≤ w.z + 601024) (hr2 : P.2.2 + N ≤ 7293034) (k : X w mX1_init d Q 46 ls (.ref P.2.1 :: st) (xal P (xA 0 N (fun _ => 0)) N)) : X w mX1_init d Q 44 ls (.int n :: st) P := X_newaI (M := mX1_init) (dX1_init_44) (Or.inl ⟨rfl, rfl⟩) xw_22 hn hN hb hr1 hr2 k
theorem dX1_init_46 : decode cX1_init 46 = .ok (.putfield 29, 3) := by decide +kernel
theorem sX1_init_46 {a : Nat} {fs : List Value} {v : Nat} (hP : P.1 a = some (xO 1 fs)) (hl : 10 < fs.length) (k : X w mX1_init d Q 49 ls st (xs P a (xO 1 (fs.set 10 (.ref v))))) : X w mX1_init d Q 46 ls (.ref v :: .ref a :: st) P := X_putF (M := mX1_init) (j := 10) (T := TX1) (dX1_init_46) rfl (by decide) x_c1 xw_105 rfl rfl rfl hP rfl rfl hl k
theorem dX1_init_49 : decode cX1_init 49 = .ok (.return_, 1) := by decide +kernel
theorem sX1_init_49 (hq : Q (.returned none) P) : X w mX1_init d Q 49 ls [] P := X_vret (M := mX1_init) (dX1_init_49) rfl hq
theorem dX1_begin_0 : decode cX1_begin 0 = .ok (.aload_n 0, 1) := by decide +kernel
theorem sX1_begin_0 {l1 l2 l3 l4 : Option Value} {x : Nat} (k : X w mX1_begin d Q 1 [some (.ref x), l1, l2, l3, l4] (.ref x :: st) P) : X w mX1_begin d Q 0 [some (.ref x), l1, l2, l3, l4] st P := X_aload_n (M := mX1_begin) (dX1_begin_0) rfl rfl k
theorem dX1_begin_1 : decode cX1_begin 1 = .ok (.lload_n 1, 1) := by decide +kernel
theorem sX1_begin_1 {l0 l2 l3 l4 : Option Value} {x : Int64} (k : X w mX1_begin d Q 2 [l0, some (.long x), l2, l3, l4] (.long x :: st) P) : X w mX1_begin d Q 1 [l0, some (.long x), l2, l3, l4] st P := X_lload_n (M := mX1_begin) (dX1_begin_1) rfl rfl k
theorem dX1_begin_2 : decode cX1_begin 2 = .ok (.putfield 32, 3) := by decide +kernel
theorem sX1_begin_2 {a : Nat} {fs : List Value} {v : Int64} (hP : P.1 a = some (xO 1 fs)) (hl : 0 < fs.length) (k : X w mX1_begin d Q 5 ls st (xs P a (xO 1 (fs.set 0 (.long v))))) : X w mX1_begin d Q 2 ls (.long v :: .ref a :: st) P := X_put (M := mX1_begin) (j := 0) (T := TX1) (dX1_begin_2) rfl (by decide) x_c1 xw_106 rfl hP rfl rfl hl k
theorem dX1_begin_5 : decode cX1_begin 5 = .ok (.aload_n 0, 1) := by decide +kernel
theorem sX1_begin_5 {l1 l2 l3 l4 : Option Value} {x : Nat} (k : X w mX1_begin d Q 6 [some (.ref x), l1, l2, l3, l4] (.ref x :: st) P) : X w mX1_begin d Q 5 [some (.ref x), l1, l2, l3, l4] st P := X_aload_n (M := mX1_begin) (dX1_begin_5) rfl rfl k
theorem dX1_begin_6 : decode cX1_begin 6 = .ok (.iload_n 3, 1) := by decide +kernel
theorem sX1_begin_6 {l0 l1 l2 l4 : Option Value} {x : Int32} (k : X w mX1_begin d Q 7 [l0, l1, l2, some (.int x), l4] (.int x :: st) P) : X w mX1_begin d Q 6 [l0, l1, l2, some (.int x), l4] st P := X_iload_n (M := mX1_begin) (dX1_begin_6) rfl rfl k
theorem dX1_begin_7 : decode cX1_begin 7 = .ok (.putfield 36, 3) := by decide +kernel
theorem sX1_begin_7 {a : Nat} {fs : List Value} {v : Int32} (hP : P.1 a = some (xO 1 fs)) (hl : 1 < fs.length) (k : X w mX1_begin d Q 10 ls st (xs P a (xO 1 (fs.set 1 (.int v))))) : X w mX1_begin d Q 7 ls (.int v :: .ref a :: st) P := X_put (M := mX1_begin) (j := 1) (T := TX1) (dX1_begin_7) rfl (by decide) x_c1 xw_107 rfl hP rfl rfl hl k
theorem dX1_begin_10 : decode cX1_begin 10 = .ok (.aload_n 0, 1) := by decide +kernel
theorem sX1_begin_10 {l1 l2 l3 l4 : Option Value} {x : Nat} (k : X w mX1_begin d Q 11 [some (.ref x), l1, l2, l3, l4] (.ref x :: st) P) : X w mX1_begin d Q 10 [some (.ref x), l1, l2, l3, l4] st P := X_aload_n (M := mX1_begin) (dX1_begin_10) rfl rfl k
theorem dX1_begin_11 : decode cX1_begin 11 = .ok (.iconst 0, 1) := by decide +kernel
theorem sX1_begin_11 (k : X w mX1_begin d Q 12 ls (.int (0 : Int32) :: st) P) : X w mX1_begin d Q 11 ls st P := X_iconst (M := mX1_begin) (dX1_begin_11) (by decide) k
theorem dX1_begin_12 : decode cX1_begin 12 = .ok (.putfield 40, 3) := by decide +kernel
theorem sX1_begin_12 {a : Nat} {fs : List Value} {v : Int32} (hP : P.1 a = some (xO 1 fs)) (hl : 3 < fs.length) (k : X w mX1_begin d Q 15 ls st (xs P a (xO 1 (fs.set 3 (.int v))))) : X w mX1_begin d Q 12 ls (.int v :: .ref a :: st) P := X_put (M := mX1_begin) (j := 3) (T := TX1) (dX1_begin_12) rfl (by decide) x_c1 xw_108 rfl hP rfl rfl hl k
theorem dX1_begin_15 : decode cX1_begin 15 = .ok (.aload_n 0, 1) := by decide +kernel
theorem sX1_begin_15 {l1 l2 l3 l4 : Option Value} {x : Nat} (k : X w mX1_begin d Q 16 [some (.ref x), l1, l2, l3, l4] (.ref x :: st) P) : X w mX1_begin d Q 15 [some (.ref x), l1, l2, l3, l4] st P := X_aload_n (M := mX1_begin) (dX1_begin_15) rfl rfl k
theorem dX1_begin_16 : decode cX1_begin 16 = .ok (.iconst 0, 1) := by decide +kernel
theorem sX1_begin_16 (k : X w mX1_begin d Q 17 ls (.int (0 : Int32) :: st) P) : X w mX1_begin d Q 16 ls st P := X_iconst (M := mX1_begin) (dX1_begin_16) (by decide) k
theorem dX1_begin_17 : decode cX1_begin 17 = .ok (.putfield 43, 3) := by decide +kernel
theorem sX1_begin_17 {a : Nat} {fs : List Value} {v : Int32} (hP : P.1 a = some (xO 1 fs)) (hl : 4 < fs.length) (k : X w mX1_begin d Q 20 ls st (xs P a (xO 1 (fs.set 4 (.int v))))) : X w mX1_begin d Q 17 ls (.int v :: .ref a :: st) P := X_put (M := mX1_begin) (j := 4) (T := TX1) (dX1_begin_17) rfl (by decide) x_c1 xw_109 rfl hP rfl rfl hl k
theorem dX1_begin_20 : decode cX1_begin 20 = .ok (.aload_n 0, 1) := by decide +kernel
theorem sX1_begin_20 {l1 l2 l3 l4 : Option Value} {x : Nat} (k : X w mX1_begin d Q 21 [some (.ref x), l1, l2, l3, l4] (.ref x :: st) P) : X w mX1_begin d Q 20 [some (.ref x), l1, l2, l3, l4] st P := X_aload_n (M := mX1_begin) (dX1_begin_20) rfl rfl k
theorem dX1_begin_21 : decode cX1_begin 21 = .ok (.iconst 0, 1) := by decide +kernel
theorem sX1_begin_21 (k : X w mX1_begin d Q 22 ls (.int (0 : Int32) :: st) P) : X w mX1_begin d Q 21 ls st P := X_iconst (M := mX1_begin) (dX1_begin_21) (by decide) k
theorem dX1_begin_22 : decode cX1_begin 22 = .ok (.putfield 46, 3) := by decide +kernel
theorem sX1_begin_22 {a : Nat} {fs : List Value} {v : Int32} (hP : P.1 a = some (xO 1 fs)) (hl : 11 < fs.length) (k : X w mX1_begin d Q 25 ls st (xs P a (xO 1 (fs.set 11 (.int v))))) : X w mX1_begin d Q 22 ls (.int v :: .ref a :: st) P := X_put (M := mX1_begin) (j := 11) (T := TX1) (dX1_begin_22) rfl (by decide) x_c1 xw_110 rfl hP rfl rfl hl k
theorem dX1_begin_25 : decode cX1_begin 25 = .ok (.aload_n 0, 1) := by decide +kernel
theorem sX1_begin_25 {l1 l2 l3 l4 : Option Value} {x : Nat} (k : X w mX1_begin d Q 26 [some (.ref x), l1, l2, l3, l4] (.ref x :: st) P) : X w mX1_begin d Q 25 [some (.ref x), l1, l2, l3, l4] st P := X_aload_n (M := mX1_begin) (dX1_begin_25) rfl rfl k
theorem dX1_begin_26 : decode cX1_begin 26 = .ok (.iconst 0, 1) := by decide +kernel
theorem sX1_begin_26 (k : X w mX1_begin d Q 27 ls (.int (0 : Int32) :: st) P) : X w mX1_begin d Q 26 ls st P := X_iconst (M := mX1_begin) (dX1_begin_26) (by decide) k
theorem dX1_begin_27 : decode cX1_begin 27 = .ok (.putfield 49, 3) := by decide +kernel
theorem sX1_begin_27 {a : Nat} {fs : List Value} {v : Int32} (hP : P.1 a = some (xO 1 fs)) (hl : 9 < fs.length) (hb : v = 0 ∨ v = 1) (k : X w mX1_begin d Q 30 ls st (xs P a (xO 1 (fs.set 9 (.int v))))) : X w mX1_begin d Q 27 ls (.int v :: .ref a :: st) P := X_put (M := mX1_begin) (j := 9) (T := TX1) (dX1_begin_27) rfl (by decide) x_c1 xw_111 rfl hP (xz_n hb) (xz_f hb) hl k
theorem dX1_begin_30 : decode cX1_begin 30 = .ok (.iconst 0, 1) := by decide +kernel
theorem sX1_begin_30 (k : X w mX1_begin d Q 31 ls (.int (0 : Int32) :: st) P) : X w mX1_begin d Q 30 ls st P := X_iconst (M := mX1_begin) (dX1_begin_30) (by decide) k
theorem dX1_begin_31 : decode cX1_begin 31 = .ok (.istore 4, 2) := by decide +kernel
theorem sX1_begin_31 {l0 l1 l2 l3 l4 : Option Value} {x : Int32} (hn : xnl l3 = true) (k : X w mX1_begin d Q 33 [l0, l1, l2, l3, some (.int x)] st P) : X w mX1_begin d Q 31 [l0, l1, l2, l3, l4] (.int x :: st) P := X_istore (M := mX1_begin) (dX1_begin_31) (by decide) rfl (xnl_p (ls := [l0, l1, l2, l3, l4]) (j := 3) rfl hn) k
theorem dX1_begin_33 : decode cX1_begin 33 = .ok (.iload 4, 2) := by decide +kernel
theorem sX1_begin_33 {l0 l1 l2 l3 : Option Value} {x : Int32} (k : X w mX1_begin d Q 35 [l0, l1, l2, l3, some (.int x)] (.int x :: st) P) : X w mX1_begin d Q 33 [l0, l1, l2, l3, some (.int x)] st P := X_iload (M := mX1_begin) (dX1_begin_33) rfl k
theorem dX1_begin_35 : decode cX1_begin 35 = .ok (.aload_n 0, 1) := by decide +kernel
theorem sX1_begin_35 {l1 l2 l3 l4 : Option Value} {x : Nat} (k : X w mX1_begin d Q 36 [some (.ref x), l1, l2, l3, l4] (.ref x :: st) P) : X w mX1_begin d Q 35 [some (.ref x), l1, l2, l3, l4] st P := X_aload_n (M := mX1_begin) (dX1_begin_35) rfl rfl k
theorem dX1_begin_36 : decode cX1_begin 36 = .ok (.getfield 18, 3) := by decide +kernel
theorem sX1_begin_36 {a : Nat} {fs : List Value} {v : Nat} (hP : P.1 a = some (xO 1 fs)) (hv : fs[6]? = some (.ref v)) (k : X w mX1_begin d Q 39 ls (.ref v :: st) P) : X w mX1_begin d Q 36 ls (.ref a :: st) P := X_get (M := mX1_begin) (j := 6) (T := TX1) (dX1_begin_36) rfl (by decide) x_in1 xw_101 hP hv k
theorem dX1_begin_39 : decode cX1_begin 39 = .ok (.arraylength, 1) := by decide +kernel
theorem sX1_begin_39 {a n t : Nat} {f : Nat → Int32} (ht : t = 0 ∨ t = 2 ∨ t = 3) (hP : P.1 a = some (xA t n f)) (k : X w mX1_begin d Q 40 ls (.int (Int32.ofNat n) :: st) P) : X w mX1_begin d Q 39 ls (.ref a :: st) P := X_alenI (M := mX1_begin) (dX1_begin_39) ht hP k
theorem dX1_begin_40 : decode cX1_begin 40 = .ok (.if_icmp .ge 25, 3) := by decide +kernel
theorem sX1_begin_40 {x y : Int32} (kt : y ≤ x → X w mX1_begin d Q 65 ls st P) (kf : ¬ y ≤ x → X w mX1_begin d Q 43 ls st P) : X w mX1_begin d Q 40 ls (.int y :: .int x :: st) P := X_icmp_ge (M := mX1_begin) (dX1_begin_40) (by decide) kt kf
theorem dX1_begin_43 : decode cX1_begin 43 = .ok (.aload_n 0, 1) := by decide +kernel
theorem sX1_begin_43 {l1 l2 l3 l4 : Option Value} {x : Nat} (k : X w mX1_begin d Q 44 [some (.ref x), l1, l2, l3, l4] (.ref x :: st) P) : X w mX1_begin d Q 43 [some (.ref x), l1, l2, l3, l4] st P := X_aload_n (M := mX1_begin) (dX1_begin_43) rfl rfl k
theorem dX1_begin_44 : decode cX1_begin 44 = .ok (.getfield 18, 3) := by decide +kernel
theorem sX1_begin_44 {a : Nat} {fs : List Value} {v : Nat} (hP : P.1 a = some (xO 1 fs)) (hv : fs[6]? = some (.ref v)) (k : X w mX1_begin d Q 47 ls (.ref v :: st) P) : X w mX1_begin d Q 44 ls (.ref a :: st) P := X_get (M := mX1_begin) (j := 6) (T := TX1) (dX1_begin_44) rfl (by decide) x_in1 xw_101 hP hv k
theorem dX1_begin_47 : decode cX1_begin 47 = .ok (.iload 4, 2) := by decide +kernel
theorem sX1_begin_47 {l0 l1 l2 l3 : Option Value} {x : Int32} (k : X w mX1_begin d Q 49 [l0, l1, l2, l3, some (.int x)] (.int x :: st) P) : X w mX1_begin d Q 47 [l0, l1, l2, l3, some (.int x)] st P := X_iload (M := mX1_begin) (dX1_begin_47) rfl k
theorem dX1_begin_49 : decode cX1_begin 49 = .ok (.iconst 0, 1) := by decide +kernel
theorem sX1_begin_49 (k : X w mX1_begin d Q 50 ls (.int (0 : Int32) :: st) P) : X w mX1_begin d Q 49 ls st P := X_iconst (M := mX1_begin) (dX1_begin_49) (by decide) k
theorem dX1_begin_50 : decode cX1_begin 50 = .ok (.iastore, 1) := by decide +kernel
theorem sX1_begin_50 {a n : Nat} {f : Nat → Int32} {i x : Int32} (hP : P.1 a = some (xA 0 n f)) (hi : vp_in i n) (k : X w mX1_begin d Q 51 ls st (xs P a (xA 0 n (upd f i.toNatClampNeg x)))) : X w mX1_begin d Q 50 ls (.int x :: .int i :: .ref a :: st) P := X_iast (M := mX1_begin) (dX1_begin_50) hP hi k
theorem dX1_begin_51 : decode cX1_begin 51 = .ok (.aload_n 0, 1) := by decide +kernel
theorem sX1_begin_51 {l1 l2 l3 l4 : Option Value} {x : Nat} (k : X w mX1_begin d Q 52 [some (.ref x), l1, l2, l3, l4] (.ref x :: st) P) : X w mX1_begin d Q 51 [some (.ref x), l1, l2, l3, l4] st P := X_aload_n (M := mX1_begin) (dX1_begin_51) rfl rfl k
theorem dX1_begin_52 : decode cX1_begin 52 = .ok (.getfield 22, 3) := by decide +kernel
theorem sX1_begin_52 {a : Nat} {fs : List Value} {v : Nat} (hP : P.1 a = some (xO 1 fs)) (hv : fs[7]? = some (.ref v)) (k : X w mX1_begin d Q 55 ls (.ref v :: st) P) : X w mX1_begin d Q 52 ls (.ref a :: st) P := X_get (M := mX1_begin) (j := 7) (T := TX1) (dX1_begin_52) rfl (by decide) x_in1 xw_103 hP hv k
theorem dX1_begin_55 : decode cX1_begin 55 = .ok (.iload 4, 2) := by decide +kernel
theorem sX1_begin_55 {l0 l1 l2 l3 : Option Value} {x : Int32} (k : X w mX1_begin d Q 57 [l0, l1, l2, l3, some (.int x)] (.int x :: st) P) : X w mX1_begin d Q 55 [l0, l1, l2, l3, some (.int x)] st P := X_iload (M := mX1_begin) (dX1_begin_55) rfl k
theorem dX1_begin_57 : decode cX1_begin 57 = .ok (.iconst 0, 1) := by decide +kernel
theorem sX1_begin_57 (k : X w mX1_begin d Q 58 ls (.int (0 : Int32) :: st) P) : X w mX1_begin d Q 57 ls st P := X_iconst (M := mX1_begin) (dX1_begin_57) (by decide) k
theorem dX1_begin_58 : decode cX1_begin 58 = .ok (.bastore, 1) := by decide +kernel
theorem sX1_begin_58 {a n : Nat} {f : Nat → Int32} {i x : Int32} (hP : P.1 a = some (xA 3 n f)) (hi : vp_in i n) (k : X w mX1_begin d Q 59 ls st (xs P a (xA 3 n (upd f i.toNatClampNeg (vp_nar .boolean x))))) : X w mX1_begin d Q 58 ls (.int x :: .int i :: .ref a :: st) P := X_zast (M := mX1_begin) (dX1_begin_58) hP hi k
theorem dX1_begin_59 : decode cX1_begin 59 = .ok (.iinc 4 1, 3) := by decide +kernel
theorem sX1_begin_59 {l0 l1 l2 l3 : Option Value} {x : Int32} (hn : xnl l3 = true) (k : X w mX1_begin d Q 62 [l0, l1, l2, l3, some (.int (x + (1 : Int32)))] st P) : X w mX1_begin d Q 59 [l0, l1, l2, l3, some (.int x)] st P := X_iinc (M := mX1_begin) (dX1_begin_59) rfl (by rfl) (by decide) rfl (xnl_p (ls := [l0, l1, l2, l3, some (.int x)]) (j := 3) rfl hn) k
theorem dX1_begin_62 : decode cX1_begin 62 = .ok (.goto (-29), 3) := by decide +kernel
theorem sX1_begin_62 (k : X w mX1_begin d Q 33 ls st P) : X w mX1_begin d Q 62 ls st P := X_goto (M := mX1_begin) (dX1_begin_62) (by decide) k
theorem dX1_begin_65 : decode cX1_begin 65 = .ok (.return_, 1) := by decide +kernel
theorem sX1_begin_65 (hq : Q (.returned none) P) : X w mX1_begin d Q 65 ls [] P := X_vret (M := mX1_begin) (dX1_begin_65) rfl hq
theorem dX1_states_0 : decode cX1_states 0 = .ok (.iconst 1, 1) := by decide +kernel
theorem sX1_states_0 (k : X w mX1_states d Q 1 ls (.int (1 : Int32) :: st) P) : X w mX1_states d Q 0 ls st P := X_iconst (M := mX1_states) (dX1_states_0) (by decide) k
theorem dX1_states_1 : decode cX1_states 1 = .ok (.aload_n 0, 1) := by decide +kernel
theorem sX1_states_1 {x : Nat} (k : X w mX1_states d Q 2 [some (.ref x)] (.ref x :: st) P) : X w mX1_states d Q 1 [some (.ref x)] st P := X_aload_n (M := mX1_states) (dX1_states_1) rfl rfl k
theorem dX1_states_2 : decode cX1_states 2 = .ok (.getfield 40, 3) := by decide +kernel
theorem sX1_states_2 {a : Nat} {fs : List Value} {v : Int32} (hP : P.1 a = some (xO 1 fs)) (hv : fs[3]? = some (.int v)) (k : X w mX1_states d Q 5 ls (.int v :: st) P) : X w mX1_states d Q 2 ls (.ref a :: st) P := X_get (M := mX1_states) (j := 3) (T := TX1) (dX1_states_2) rfl (by decide) x_in1 xw_108 hP hv k
theorem dX1_states_5 : decode cX1_states 5 = .ok (.ishl, 1) := by decide +kernel
theorem sX1_states_5 {x y : Int32} (k : X w mX1_states d Q 6 ls (.int (x <<< (y &&& 31)) :: st) P) : X w mX1_states d Q 5 ls (.int y :: .int x :: st) P := X_ishl (M := mX1_states) (dX1_states_5) k
theorem dX1_states_6 : decode cX1_states 6 = .ok (.ireturn, 1) := by decide +kernel
theorem sX1_states_6 {v : Int32} (hq : Q (.returned (some (.int v))) P) : X w mX1_states d Q 6 ls [.int v] P := X_iret (M := mX1_states) (dX1_states_6) rfl hq
theorem dX1_inputNamed_0 : decode cX1_inputNamed 0 = .ok (.lload_n 1, 1) := by decide +kernel
theorem sX1_inputNamed_0 {l0 l2 : Option Value} {x : Int64} (k : X w mX1_inputNamed d Q 1 [l0, some (.long x), l2] (.long x :: st) P) : X w mX1_inputNamed d Q 0 [l0, some (.long x), l2] st P := X_lload_n (M := mX1_inputNamed) (dX1_inputNamed_0) rfl rfl k
theorem dX1_inputNamed_1 : decode cX1_inputNamed 1 = .ok (.aload_n 0, 1) := by decide +kernel
theorem sX1_inputNamed_1 {l1 l2 : Option Value} {x : Nat} (k : X w mX1_inputNamed d Q 2 [some (.ref x), l1, l2] (.ref x :: st) P) : X w mX1_inputNamed d Q 1 [some (.ref x), l1, l2] st P := X_aload_n (M := mX1_inputNamed) (dX1_inputNamed_1) rfl rfl k
theorem dX1_inputNamed_2 : decode cX1_inputNamed 2 = .ok (.getfield 9, 3) := by decide +kernel
theorem sX1_inputNamed_2 {a : Nat} {fs : List Value} {v : Nat} (hP : P.1 a = some (xO 1 fs)) (hv : fs[2]? = some (.ref v)) (k : X w mX1_inputNamed d Q 5 ls (.ref v :: st) P) : X w mX1_inputNamed d Q 2 ls (.ref a :: st) P := X_get (M := mX1_inputNamed) (j := 2) (T := TX1) (dX1_inputNamed_2) rfl (by decide) x_in1 xw_99 hP hv k
theorem dX1_inputNamed_5 : decode cX1_inputNamed 5 = .ok (.aload_n 0, 1) := by decide +kernel
theorem sX1_inputNamed_5 {l1 l2 : Option Value} {x : Nat} (k : X w mX1_inputNamed d Q 6 [some (.ref x), l1, l2] (.ref x :: st) P) : X w mX1_inputNamed d Q 5 [some (.ref x), l1, l2] st P := X_aload_n (M := mX1_inputNamed) (dX1_inputNamed_5) rfl rfl k
theorem dX1_inputNamed_6 : decode cX1_inputNamed 6 = .ok (.getfield 40, 3) := by decide +kernel
theorem sX1_inputNamed_6 {a : Nat} {fs : List Value} {v : Int32} (hP : P.1 a = some (xO 1 fs)) (hv : fs[3]? = some (.int v)) (k : X w mX1_inputNamed d Q 9 ls (.int v :: st) P) : X w mX1_inputNamed d Q 6 ls (.ref a :: st) P := X_get (M := mX1_inputNamed) (j := 3) (T := TX1) (dX1_inputNamed_6) rfl (by decide) x_in1 xw_108 hP hv k
theorem dX1_inputNamed_9 : decode cX1_inputNamed 9 = .ok (.invokestatic 53, 3) := by decide +kernel
theorem sX1_inputNamed_9_g {a0 : Int64} {a1 : Nat} {a2 : Int32} {Qc : Outcome → xH → Prop} (hst : (st.map fun v => v.category).sum ≤ 8) (hC : xC w d mX4_find [.long a0, .ref a1, .int a2] P Qc) (kr : ∀ v P1, Qc (.returned v) P1 → X w mX1_inputNamed (d + 1) Q 12 ls (v.toList ++ st) P1) (kt : ∀ q P1, Qc (.threw q) P1 → Xt w mX1_inputNamed (d + 1) Q 9 ls st P1 q) : X w mX1_inputNamed (d + 1) Q 9 ls (.int a2 :: .ref a1 :: .long a0 :: st) P := X_callS (M := mX1_inputNamed) (MC := mX4_find) (As := [.long a0, .ref a1, .int a2]) (dX1_inputNamed_9) calX4_find xw_112 xw_113 rfl hC hst kr kt
theorem sX1_inputNamed_9 {a0 : Int64} {a1 : Nat} {a2 : Int32} {r : Int32} {P1 : xH} (hst : (st.map fun v => v.category).sum ≤ 8) (hC : xC w d mX4_find [.long a0, .ref a1, .int a2] P (xRet (some (.int r)) P1)) (k : X w mX1_inputNamed (d + 1) Q 12 ls (.int r :: st) P1) : X w mX1_inputNamed (d + 1) Q 9 ls (.int a2 :: .ref a1 :: .long a0 :: st) P := X_callS (M := mX1_inputNamed) (MC := mX4_find) (As := [.long a0, .ref a1, .int a2]) (dX1_inputNamed_9) calX4_find xw_112 xw_113 rfl hC hst (fun v P2 h => by obtain ⟨h1, rfl⟩ := h; cases h1; exact k) (fun q P2 h => by cases h.1)
theorem sX1_inputNamed_9_r {a0 : Int64} {a1 : Nat} {a2 : Int32} {r : Int32} {Rp : xH → Prop} (hst : (st.map fun v => v.category).sum ≤ 8) (hC : xC w d mX4_find [.long a0, .ref a1, .int a2] P (xRl (some (.int r)) Rp)) (k : ∀ P1, Rp P1 → X w mX1_inputNamed (d + 1) Q 12 ls (.int r :: st) P1) : X w mX1_inputNamed (d + 1) Q 9 ls (.int a2 :: .ref a1 :: .long a0 :: st) P := X_callS (M := mX1_inputNamed) (MC := mX4_find) (As := [.long a0, .ref a1, .int a2]) (dX1_inputNamed_9) calX4_find xw_112 xw_113 rfl hC hst (fun v P2 h => by obtain ⟨h1, hR⟩ := h; cases h1; exact k P2 hR) (fun q P2 h => by cases h.1)
theorem sX1_inputNamed_9_t {a0 : Int64} {a1 : Nat} {a2 : Int32} {q : Nat} {P1 : xH} (hst : (st.map fun v => v.category).sum ≤ 8) (hC : xC w d mX4_find [.long a0, .ref a1, .int a2] P (xThr q P1)) (hq : Q (.threw q) P1) : X w mX1_inputNamed (d + 1) Q 9 ls (.int a2 :: .ref a1 :: .long a0 :: st) P := X_callS (M := mX1_inputNamed) (MC := mX4_find) (As := [.long a0, .ref a1, .int a2]) (dX1_inputNamed_9) calX4_find xw_112 xw_113 rfl hC hst (fun v P2 h => by cases h.1) (fun q2 P2 h => by obtain ⟨h1, rfl⟩ := h; cases h1; exact Xt_out rfl hq)
theorem dX1_inputNamed_12 : decode cX1_inputNamed 12 = .ok (.ireturn, 1) := by decide +kernel
theorem sX1_inputNamed_12 {v : Int32} (hq : Q (.returned (some (.int v))) P) : X w mX1_inputNamed d Q 12 ls [.int v] P := X_iret (M := mX1_inputNamed) (dX1_inputNamed_12) rfl hq
theorem dX1_pinNamed_0 : decode cX1_pinNamed 0 = .ok (.lload_n 1, 1) := by decide +kernel
theorem sX1_pinNamed_0 {l0 l2 : Option Value} {x : Int64} (k : X w mX1_pinNamed d Q 1 [l0, some (.long x), l2] (.long x :: st) P) : X w mX1_pinNamed d Q 0 [l0, some (.long x), l2] st P := X_lload_n (M := mX1_pinNamed) (dX1_pinNamed_0) rfl rfl k
theorem dX1_pinNamed_1 : decode cX1_pinNamed 1 = .ok (.aload_n 0, 1) := by decide +kernel
theorem sX1_pinNamed_1 {l1 l2 : Option Value} {x : Nat} (k : X w mX1_pinNamed d Q 2 [some (.ref x), l1, l2] (.ref x :: st) P) : X w mX1_pinNamed d Q 1 [some (.ref x), l1, l2] st P := X_aload_n (M := mX1_pinNamed) (dX1_pinNamed_1) rfl rfl k
theorem dX1_pinNamed_2 : decode cX1_pinNamed 2 = .ok (.getfield 9, 3) := by decide +kernel
theorem sX1_pinNamed_2 {a : Nat} {fs : List Value} {v : Nat} (hP : P.1 a = some (xO 1 fs)) (hv : fs[2]? = some (.ref v)) (k : X w mX1_pinNamed d Q 5 ls (.ref v :: st) P) : X w mX1_pinNamed d Q 2 ls (.ref a :: st) P := X_get (M := mX1_pinNamed) (j := 2) (T := TX1) (dX1_pinNamed_2) rfl (by decide) x_in1 xw_99 hP hv k
theorem dX1_pinNamed_5 : decode cX1_pinNamed 5 = .ok (.aload_n 0, 1) := by decide +kernel
theorem sX1_pinNamed_5 {l1 l2 : Option Value} {x : Nat} (k : X w mX1_pinNamed d Q 6 [some (.ref x), l1, l2] (.ref x :: st) P) : X w mX1_pinNamed d Q 5 [some (.ref x), l1, l2] st P := X_aload_n (M := mX1_pinNamed) (dX1_pinNamed_5) rfl rfl k
theorem dX1_pinNamed_6 : decode cX1_pinNamed 6 = .ok (.getfield 40, 3) := by decide +kernel
theorem sX1_pinNamed_6 {a : Nat} {fs : List Value} {v : Int32} (hP : P.1 a = some (xO 1 fs)) (hv : fs[3]? = some (.int v)) (k : X w mX1_pinNamed d Q 9 ls (.int v :: st) P) : X w mX1_pinNamed d Q 6 ls (.ref a :: st) P := X_get (M := mX1_pinNamed) (j := 3) (T := TX1) (dX1_pinNamed_6) rfl (by decide) x_in1 xw_108 hP hv k
theorem dX1_pinNamed_9 : decode cX1_pinNamed 9 = .ok (.aload_n 0, 1) := by decide +kernel
theorem sX1_pinNamed_9 {l1 l2 : Option Value} {x : Nat} (k : X w mX1_pinNamed d Q 10 [some (.ref x), l1, l2] (.ref x :: st) P) : X w mX1_pinNamed d Q 9 [some (.ref x), l1, l2] st P := X_aload_n (M := mX1_pinNamed) (dX1_pinNamed_9) rfl rfl k
theorem dX1_pinNamed_10 : decode cX1_pinNamed 10 = .ok (.getfield 43, 3) := by decide +kernel
theorem sX1_pinNamed_10 {a : Nat} {fs : List Value} {v : Int32} (hP : P.1 a = some (xO 1 fs)) (hv : fs[4]? = some (.int v)) (k : X w mX1_pinNamed d Q 13 ls (.int v :: st) P) : X w mX1_pinNamed d Q 10 ls (.ref a :: st) P := X_get (M := mX1_pinNamed) (j := 4) (T := TX1) (dX1_pinNamed_10) rfl (by decide) x_in1 xw_109 hP hv k
theorem dX1_pinNamed_13 : decode cX1_pinNamed 13 = .ok (.iadd, 1) := by decide +kernel
theorem sX1_pinNamed_13 {x y : Int32} (k : X w mX1_pinNamed d Q 14 ls (.int (x + y) :: st) P) : X w mX1_pinNamed d Q 13 ls (.int y :: .int x :: st) P := X_iadd (M := mX1_pinNamed) (dX1_pinNamed_13) k
theorem dX1_pinNamed_14 : decode cX1_pinNamed 14 = .ok (.invokestatic 53, 3) := by decide +kernel
theorem sX1_pinNamed_14_g {a0 : Int64} {a1 : Nat} {a2 : Int32} {Qc : Outcome → xH → Prop} (hst : (st.map fun v => v.category).sum ≤ 8) (hC : xC w d mX4_find [.long a0, .ref a1, .int a2] P Qc) (kr : ∀ v P1, Qc (.returned v) P1 → X w mX1_pinNamed (d + 1) Q 17 ls (v.toList ++ st) P1) (kt : ∀ q P1, Qc (.threw q) P1 → Xt w mX1_pinNamed (d + 1) Q 14 ls st P1 q) : X w mX1_pinNamed (d + 1) Q 14 ls (.int a2 :: .ref a1 :: .long a0 :: st) P := X_callS (M := mX1_pinNamed) (MC := mX4_find) (As := [.long a0, .ref a1, .int a2]) (dX1_pinNamed_14) calX4_find xw_112 xw_113 rfl hC hst kr kt
theorem sX1_pinNamed_14 {a0 : Int64} {a1 : Nat} {a2 : Int32} {r : Int32} {P1 : xH} (hst : (st.map fun v => v.category).sum ≤ 8) (hC : xC w d mX4_find [.long a0, .ref a1, .int a2] P (xRet (some (.int r)) P1)) (k : X w mX1_pinNamed (d + 1) Q 17 ls (.int r :: st) P1) : X w mX1_pinNamed (d + 1) Q 14 ls (.int a2 :: .ref a1 :: .long a0 :: st) P := X_callS (M := mX1_pinNamed) (MC := mX4_find) (As := [.long a0, .ref a1, .int a2]) (dX1_pinNamed_14) calX4_find xw_112 xw_113 rfl hC hst (fun v P2 h => by obtain ⟨h1, rfl⟩ := h; cases h1; exact k) (fun q P2 h => by cases h.1)
theorem sX1_pinNamed_14_r {a0 : Int64} {a1 : Nat} {a2 : Int32} {r : Int32} {Rp : xH → Prop} (hst : (st.map fun v => v.category).sum ≤ 8) (hC : xC w d mX4_find [.long a0, .ref a1, .int a2] P (xRl (some (.int r)) Rp)) (k : ∀ P1, Rp P1 → X w mX1_pinNamed (d + 1) Q 17 ls (.int r :: st) P1) : X w mX1_pinNamed (d + 1) Q 14 ls (.int a2 :: .ref a1 :: .long a0 :: st) P := X_callS (M := mX1_pinNamed) (MC := mX4_find) (As := [.long a0, .ref a1, .int a2]) (dX1_pinNamed_14) calX4_find xw_112 xw_113 rfl hC hst (fun v P2 h => by obtain ⟨h1, hR⟩ := h; cases h1; exact k P2 hR) (fun q P2 h => by cases h.1)
theorem sX1_pinNamed_14_t {a0 : Int64} {a1 : Nat} {a2 : Int32} {q : Nat} {P1 : xH} (hst : (st.map fun v => v.category).sum ≤ 8) (hC : xC w d mX4_find [.long a0, .ref a1, .int a2] P (xThr q P1)) (hq : Q (.threw q) P1) : X w mX1_pinNamed (d + 1) Q 14 ls (.int a2 :: .ref a1 :: .long a0 :: st) P := X_callS (M := mX1_pinNamed) (MC := mX4_find) (As := [.long a0, .ref a1, .int a2]) (dX1_pinNamed_14) calX4_find xw_112 xw_113 rfl hC hst (fun v P2 h => by cases h.1) (fun q2 P2 h => by obtain ⟨h1, rfl⟩ := h; cases h1; exact Xt_out rfl hq)
theorem dX1_pinNamed_17 : decode cX1_pinNamed 17 = .ok (.ireturn, 1) := by decide +kernel
theorem sX1_pinNamed_17 {v : Int32} (hq : Q (.returned (some (.int v))) P) : X w mX1_pinNamed d Q 17 ls [.int v] P := X_iret (M := mX1_pinNamed) (dX1_pinNamed_17) rfl hq
theorem dX1_addArc_0 : decode cX1_addArc 0 = .ok (.aload_n 0, 1) := by decide +kernel
theorem sX1_addArc_0 {l1 l2 l3 l4 l5 l6 : Option Value} {x : Nat} (k : X w mX1_addArc d Q 1 [some (.ref x), l1, l2, l3, l4, l5, l6] (.ref x :: st) P) : X w mX1_addArc d Q 0 [some (.ref x), l1, l2, l3, l4, l5, l6] st P := X_aload_n (M := mX1_addArc) (dX1_addArc_0) rfl rfl k
theorem dX1_addArc_1 : decode cX1_addArc 1 = .ok (.getfield 46, 3) := by decide +kernel
theorem sX1_addArc_1 {a : Nat} {fs : List Value} {v : Int32} (hP : P.1 a = some (xO 1 fs)) (hv : fs[11]? = some (.int v)) (k : X w mX1_addArc d Q 4 ls (.int v :: st) P) : X w mX1_addArc d Q 1 ls (.ref a :: st) P := X_get (M := mX1_addArc) (j := 11) (T := TX1) (dX1_addArc_1) rfl (by decide) x_in1 xw_110 hP hv k
theorem dX1_addArc_4 : decode cX1_addArc 4 = .ok (.iconst 5, 1) := by decide +kernel
theorem sX1_addArc_4 (k : X w mX1_addArc d Q 5 ls (.int (5 : Int32) :: st) P) : X w mX1_addArc d Q 4 ls st P := X_iconst (M := mX1_addArc) (dX1_addArc_4) (by decide) k
theorem dX1_addArc_5 : decode cX1_addArc 5 = .ok (.imul, 1) := by decide +kernel
theorem sX1_addArc_5 {x y : Int32} (k : X w mX1_addArc d Q 6 ls (.int (x * y) :: st) P) : X w mX1_addArc d Q 5 ls (.int y :: .int x :: st) P := X_imul (M := mX1_addArc) (dX1_addArc_5) k
theorem dX1_addArc_6 : decode cX1_addArc 6 = .ok (.istore 6, 2) := by decide +kernel
theorem sX1_addArc_6 {l0 l1 l2 l3 l4 l5 l6 : Option Value} {x : Int32} (hn : xnl l5 = true) (k : X w mX1_addArc d Q 8 [l0, l1, l2, l3, l4, l5, some (.int x)] st P) : X w mX1_addArc d Q 6 [l0, l1, l2, l3, l4, l5, l6] (.int x :: st) P := X_istore (M := mX1_addArc) (dX1_addArc_6) (by decide) rfl (xnl_p (ls := [l0, l1, l2, l3, l4, l5, l6]) (j := 5) rfl hn) k
theorem dX1_addArc_8 : decode cX1_addArc 8 = .ok (.aload_n 0, 1) := by decide +kernel
theorem sX1_addArc_8 {l1 l2 l3 l4 l5 l6 : Option Value} {x : Nat} (k : X w mX1_addArc d Q 9 [some (.ref x), l1, l2, l3, l4, l5, l6] (.ref x :: st) P) : X w mX1_addArc d Q 8 [some (.ref x), l1, l2, l3, l4, l5, l6] st P := X_aload_n (M := mX1_addArc) (dX1_addArc_8) rfl rfl k
theorem dX1_addArc_9 : decode cX1_addArc 9 = .ok (.getfield 29, 3) := by decide +kernel
theorem sX1_addArc_9 {a : Nat} {fs : List Value} {v : Nat} (hP : P.1 a = some (xO 1 fs)) (hv : fs[10]? = some (.ref v)) (k : X w mX1_addArc d Q 12 ls (.ref v :: st) P) : X w mX1_addArc d Q 9 ls (.ref a :: st) P := X_get (M := mX1_addArc) (j := 10) (T := TX1) (dX1_addArc_9) rfl (by decide) x_in1 xw_105 hP hv k
theorem dX1_addArc_12 : decode cX1_addArc 12 = .ok (.iload 6, 2) := by decide +kernel
theorem sX1_addArc_12 {l0 l1 l2 l3 l4 l5 : Option Value} {x : Int32} (k : X w mX1_addArc d Q 14 [l0, l1, l2, l3, l4, l5, some (.int x)] (.int x :: st) P) : X w mX1_addArc d Q 12 [l0, l1, l2, l3, l4, l5, some (.int x)] st P := X_iload (M := mX1_addArc) (dX1_addArc_12) rfl k
theorem dX1_addArc_14 : decode cX1_addArc 14 = .ok (.iconst 0, 1) := by decide +kernel
theorem sX1_addArc_14 (k : X w mX1_addArc d Q 15 ls (.int (0 : Int32) :: st) P) : X w mX1_addArc d Q 14 ls st P := X_iconst (M := mX1_addArc) (dX1_addArc_14) (by decide) k
theorem dX1_addArc_15 : decode cX1_addArc 15 = .ok (.iadd, 1) := by decide +kernel
theorem sX1_addArc_15 {x y : Int32} (k : X w mX1_addArc d Q 16 ls (.int (x + y) :: st) P) : X w mX1_addArc d Q 15 ls (.int y :: .int x :: st) P := X_iadd (M := mX1_addArc) (dX1_addArc_15) k
theorem dX1_addArc_16 : decode cX1_addArc 16 = .ok (.iload_n 1, 1) := by decide +kernel
theorem sX1_addArc_16 {l0 l2 l3 l4 l5 l6 : Option Value} {x : Int32} (k : X w mX1_addArc d Q 17 [l0, some (.int x), l2, l3, l4, l5, l6] (.int x :: st) P) : X w mX1_addArc d Q 16 [l0, some (.int x), l2, l3, l4, l5, l6] st P := X_iload_n (M := mX1_addArc) (dX1_addArc_16) rfl rfl k
theorem dX1_addArc_17 : decode cX1_addArc 17 = .ok (.iastore, 1) := by decide +kernel
theorem sX1_addArc_17 {a n : Nat} {f : Nat → Int32} {i x : Int32} (hP : P.1 a = some (xA 0 n f)) (hi : vp_in i n) (k : X w mX1_addArc d Q 18 ls st (xs P a (xA 0 n (upd f i.toNatClampNeg x)))) : X w mX1_addArc d Q 17 ls (.int x :: .int i :: .ref a :: st) P := X_iast (M := mX1_addArc) (dX1_addArc_17) hP hi k
theorem dX1_addArc_18 : decode cX1_addArc 18 = .ok (.aload_n 0, 1) := by decide +kernel
theorem sX1_addArc_18 {l1 l2 l3 l4 l5 l6 : Option Value} {x : Nat} (k : X w mX1_addArc d Q 19 [some (.ref x), l1, l2, l3, l4, l5, l6] (.ref x :: st) P) : X w mX1_addArc d Q 18 [some (.ref x), l1, l2, l3, l4, l5, l6] st P := X_aload_n (M := mX1_addArc) (dX1_addArc_18) rfl rfl k
theorem dX1_addArc_19 : decode cX1_addArc 19 = .ok (.getfield 29, 3) := by decide +kernel
theorem sX1_addArc_19 {a : Nat} {fs : List Value} {v : Nat} (hP : P.1 a = some (xO 1 fs)) (hv : fs[10]? = some (.ref v)) (k : X w mX1_addArc d Q 22 ls (.ref v :: st) P) : X w mX1_addArc d Q 19 ls (.ref a :: st) P := X_get (M := mX1_addArc) (j := 10) (T := TX1) (dX1_addArc_19) rfl (by decide) x_in1 xw_105 hP hv k
theorem dX1_addArc_22 : decode cX1_addArc 22 = .ok (.iload 6, 2) := by decide +kernel
theorem sX1_addArc_22 {l0 l1 l2 l3 l4 l5 : Option Value} {x : Int32} (k : X w mX1_addArc d Q 24 [l0, l1, l2, l3, l4, l5, some (.int x)] (.int x :: st) P) : X w mX1_addArc d Q 22 [l0, l1, l2, l3, l4, l5, some (.int x)] st P := X_iload (M := mX1_addArc) (dX1_addArc_22) rfl k
theorem dX1_addArc_24 : decode cX1_addArc 24 = .ok (.iconst 1, 1) := by decide +kernel
theorem sX1_addArc_24 (k : X w mX1_addArc d Q 25 ls (.int (1 : Int32) :: st) P) : X w mX1_addArc d Q 24 ls st P := X_iconst (M := mX1_addArc) (dX1_addArc_24) (by decide) k
theorem dX1_addArc_25 : decode cX1_addArc 25 = .ok (.iadd, 1) := by decide +kernel
theorem sX1_addArc_25 {x y : Int32} (k : X w mX1_addArc d Q 26 ls (.int (x + y) :: st) P) : X w mX1_addArc d Q 25 ls (.int y :: .int x :: st) P := X_iadd (M := mX1_addArc) (dX1_addArc_25) k
theorem dX1_addArc_26 : decode cX1_addArc 26 = .ok (.iload_n 2, 1) := by decide +kernel
theorem sX1_addArc_26 {l0 l1 l3 l4 l5 l6 : Option Value} {x : Int32} (k : X w mX1_addArc d Q 27 [l0, l1, some (.int x), l3, l4, l5, l6] (.int x :: st) P) : X w mX1_addArc d Q 26 [l0, l1, some (.int x), l3, l4, l5, l6] st P := X_iload_n (M := mX1_addArc) (dX1_addArc_26) rfl rfl k
theorem dX1_addArc_27 : decode cX1_addArc 27 = .ok (.iastore, 1) := by decide +kernel
theorem sX1_addArc_27 {a n : Nat} {f : Nat → Int32} {i x : Int32} (hP : P.1 a = some (xA 0 n f)) (hi : vp_in i n) (k : X w mX1_addArc d Q 28 ls st (xs P a (xA 0 n (upd f i.toNatClampNeg x)))) : X w mX1_addArc d Q 27 ls (.int x :: .int i :: .ref a :: st) P := X_iast (M := mX1_addArc) (dX1_addArc_27) hP hi k
theorem dX1_addArc_28 : decode cX1_addArc 28 = .ok (.aload_n 0, 1) := by decide +kernel
theorem sX1_addArc_28 {l1 l2 l3 l4 l5 l6 : Option Value} {x : Nat} (k : X w mX1_addArc d Q 29 [some (.ref x), l1, l2, l3, l4, l5, l6] (.ref x :: st) P) : X w mX1_addArc d Q 28 [some (.ref x), l1, l2, l3, l4, l5, l6] st P := X_aload_n (M := mX1_addArc) (dX1_addArc_28) rfl rfl k
theorem dX1_addArc_29 : decode cX1_addArc 29 = .ok (.getfield 29, 3) := by decide +kernel
theorem sX1_addArc_29 {a : Nat} {fs : List Value} {v : Nat} (hP : P.1 a = some (xO 1 fs)) (hv : fs[10]? = some (.ref v)) (k : X w mX1_addArc d Q 32 ls (.ref v :: st) P) : X w mX1_addArc d Q 29 ls (.ref a :: st) P := X_get (M := mX1_addArc) (j := 10) (T := TX1) (dX1_addArc_29) rfl (by decide) x_in1 xw_105 hP hv k
theorem dX1_addArc_32 : decode cX1_addArc 32 = .ok (.iload 6, 2) := by decide +kernel
theorem sX1_addArc_32 {l0 l1 l2 l3 l4 l5 : Option Value} {x : Int32} (k : X w mX1_addArc d Q 34 [l0, l1, l2, l3, l4, l5, some (.int x)] (.int x :: st) P) : X w mX1_addArc d Q 32 [l0, l1, l2, l3, l4, l5, some (.int x)] st P := X_iload (M := mX1_addArc) (dX1_addArc_32) rfl k
theorem dX1_addArc_34 : decode cX1_addArc 34 = .ok (.iconst 2, 1) := by decide +kernel
theorem sX1_addArc_34 (k : X w mX1_addArc d Q 35 ls (.int (2 : Int32) :: st) P) : X w mX1_addArc d Q 34 ls st P := X_iconst (M := mX1_addArc) (dX1_addArc_34) (by decide) k
theorem dX1_addArc_35 : decode cX1_addArc 35 = .ok (.iadd, 1) := by decide +kernel
theorem sX1_addArc_35 {x y : Int32} (k : X w mX1_addArc d Q 36 ls (.int (x + y) :: st) P) : X w mX1_addArc d Q 35 ls (.int y :: .int x :: st) P := X_iadd (M := mX1_addArc) (dX1_addArc_35) k
theorem dX1_addArc_36 : decode cX1_addArc 36 = .ok (.iload_n 3, 1) := by decide +kernel
theorem sX1_addArc_36 {l0 l1 l2 l4 l5 l6 : Option Value} {x : Int32} (k : X w mX1_addArc d Q 37 [l0, l1, l2, some (.int x), l4, l5, l6] (.int x :: st) P) : X w mX1_addArc d Q 36 [l0, l1, l2, some (.int x), l4, l5, l6] st P := X_iload_n (M := mX1_addArc) (dX1_addArc_36) rfl rfl k
theorem dX1_addArc_37 : decode cX1_addArc 37 = .ok (.iastore, 1) := by decide +kernel
theorem sX1_addArc_37 {a n : Nat} {f : Nat → Int32} {i x : Int32} (hP : P.1 a = some (xA 0 n f)) (hi : vp_in i n) (k : X w mX1_addArc d Q 38 ls st (xs P a (xA 0 n (upd f i.toNatClampNeg x)))) : X w mX1_addArc d Q 37 ls (.int x :: .int i :: .ref a :: st) P := X_iast (M := mX1_addArc) (dX1_addArc_37) hP hi k
theorem dX1_addArc_38 : decode cX1_addArc 38 = .ok (.aload_n 0, 1) := by decide +kernel
theorem sX1_addArc_38 {l1 l2 l3 l4 l5 l6 : Option Value} {x : Nat} (k : X w mX1_addArc d Q 39 [some (.ref x), l1, l2, l3, l4, l5, l6] (.ref x :: st) P) : X w mX1_addArc d Q 38 [some (.ref x), l1, l2, l3, l4, l5, l6] st P := X_aload_n (M := mX1_addArc) (dX1_addArc_38) rfl rfl k
theorem dX1_addArc_39 : decode cX1_addArc 39 = .ok (.getfield 29, 3) := by decide +kernel
theorem sX1_addArc_39 {a : Nat} {fs : List Value} {v : Nat} (hP : P.1 a = some (xO 1 fs)) (hv : fs[10]? = some (.ref v)) (k : X w mX1_addArc d Q 42 ls (.ref v :: st) P) : X w mX1_addArc d Q 39 ls (.ref a :: st) P := X_get (M := mX1_addArc) (j := 10) (T := TX1) (dX1_addArc_39) rfl (by decide) x_in1 xw_105 hP hv k
theorem dX1_addArc_42 : decode cX1_addArc 42 = .ok (.iload 6, 2) := by decide +kernel
theorem sX1_addArc_42 {l0 l1 l2 l3 l4 l5 : Option Value} {x : Int32} (k : X w mX1_addArc d Q 44 [l0, l1, l2, l3, l4, l5, some (.int x)] (.int x :: st) P) : X w mX1_addArc d Q 42 [l0, l1, l2, l3, l4, l5, some (.int x)] st P := X_iload (M := mX1_addArc) (dX1_addArc_42) rfl k
theorem dX1_addArc_44 : decode cX1_addArc 44 = .ok (.iconst 3, 1) := by decide +kernel
theorem sX1_addArc_44 (k : X w mX1_addArc d Q 45 ls (.int (3 : Int32) :: st) P) : X w mX1_addArc d Q 44 ls st P := X_iconst (M := mX1_addArc) (dX1_addArc_44) (by decide) k
theorem dX1_addArc_45 : decode cX1_addArc 45 = .ok (.iadd, 1) := by decide +kernel
theorem sX1_addArc_45 {x y : Int32} (k : X w mX1_addArc d Q 46 ls (.int (x + y) :: st) P) : X w mX1_addArc d Q 45 ls (.int y :: .int x :: st) P := X_iadd (M := mX1_addArc) (dX1_addArc_45) k
theorem dX1_addArc_46 : decode cX1_addArc 46 = .ok (.iload 4, 2) := by decide +kernel
theorem sX1_addArc_46 {l0 l1 l2 l3 l5 l6 : Option Value} {x : Int32} (k : X w mX1_addArc d Q 48 [l0, l1, l2, l3, some (.int x), l5, l6] (.int x :: st) P) : X w mX1_addArc d Q 46 [l0, l1, l2, l3, some (.int x), l5, l6] st P := X_iload (M := mX1_addArc) (dX1_addArc_46) rfl k
theorem dX1_addArc_48 : decode cX1_addArc 48 = .ok (.iastore, 1) := by decide +kernel
theorem sX1_addArc_48 {a n : Nat} {f : Nat → Int32} {i x : Int32} (hP : P.1 a = some (xA 0 n f)) (hi : vp_in i n) (k : X w mX1_addArc d Q 49 ls st (xs P a (xA 0 n (upd f i.toNatClampNeg x)))) : X w mX1_addArc d Q 48 ls (.int x :: .int i :: .ref a :: st) P := X_iast (M := mX1_addArc) (dX1_addArc_48) hP hi k
theorem dX1_addArc_49 : decode cX1_addArc 49 = .ok (.aload_n 0, 1) := by decide +kernel
theorem sX1_addArc_49 {l1 l2 l3 l4 l5 l6 : Option Value} {x : Nat} (k : X w mX1_addArc d Q 50 [some (.ref x), l1, l2, l3, l4, l5, l6] (.ref x :: st) P) : X w mX1_addArc d Q 49 [some (.ref x), l1, l2, l3, l4, l5, l6] st P := X_aload_n (M := mX1_addArc) (dX1_addArc_49) rfl rfl k
theorem dX1_addArc_50 : decode cX1_addArc 50 = .ok (.getfield 29, 3) := by decide +kernel
theorem sX1_addArc_50 {a : Nat} {fs : List Value} {v : Nat} (hP : P.1 a = some (xO 1 fs)) (hv : fs[10]? = some (.ref v)) (k : X w mX1_addArc d Q 53 ls (.ref v :: st) P) : X w mX1_addArc d Q 50 ls (.ref a :: st) P := X_get (M := mX1_addArc) (j := 10) (T := TX1) (dX1_addArc_50) rfl (by decide) x_in1 xw_105 hP hv k
theorem dX1_addArc_53 : decode cX1_addArc 53 = .ok (.iload 6, 2) := by decide +kernel
theorem sX1_addArc_53 {l0 l1 l2 l3 l4 l5 : Option Value} {x : Int32} (k : X w mX1_addArc d Q 55 [l0, l1, l2, l3, l4, l5, some (.int x)] (.int x :: st) P) : X w mX1_addArc d Q 53 [l0, l1, l2, l3, l4, l5, some (.int x)] st P := X_iload (M := mX1_addArc) (dX1_addArc_53) rfl k
theorem dX1_addArc_55 : decode cX1_addArc 55 = .ok (.iconst 4, 1) := by decide +kernel
theorem sX1_addArc_55 (k : X w mX1_addArc d Q 56 ls (.int (4 : Int32) :: st) P) : X w mX1_addArc d Q 55 ls st P := X_iconst (M := mX1_addArc) (dX1_addArc_55) (by decide) k
theorem dX1_addArc_56 : decode cX1_addArc 56 = .ok (.iadd, 1) := by decide +kernel
theorem sX1_addArc_56 {x y : Int32} (k : X w mX1_addArc d Q 57 ls (.int (x + y) :: st) P) : X w mX1_addArc d Q 56 ls (.int y :: .int x :: st) P := X_iadd (M := mX1_addArc) (dX1_addArc_56) k
theorem dX1_addArc_57 : decode cX1_addArc 57 = .ok (.iload 5, 2) := by decide +kernel
theorem sX1_addArc_57 {l0 l1 l2 l3 l4 l6 : Option Value} {x : Int32} (k : X w mX1_addArc d Q 59 [l0, l1, l2, l3, l4, some (.int x), l6] (.int x :: st) P) : X w mX1_addArc d Q 57 [l0, l1, l2, l3, l4, some (.int x), l6] st P := X_iload (M := mX1_addArc) (dX1_addArc_57) rfl k
theorem dX1_addArc_59 : decode cX1_addArc 59 = .ok (.iastore, 1) := by decide +kernel
theorem sX1_addArc_59 {a n : Nat} {f : Nat → Int32} {i x : Int32} (hP : P.1 a = some (xA 0 n f)) (hi : vp_in i n) (k : X w mX1_addArc d Q 60 ls st (xs P a (xA 0 n (upd f i.toNatClampNeg x)))) : X w mX1_addArc d Q 59 ls (.int x :: .int i :: .ref a :: st) P := X_iast (M := mX1_addArc) (dX1_addArc_59) hP hi k
theorem dX1_addArc_60 : decode cX1_addArc 60 = .ok (.aload_n 0, 1) := by decide +kernel
theorem sX1_addArc_60 {l1 l2 l3 l4 l5 l6 : Option Value} {x : Nat} (k : X w mX1_addArc d Q 61 [some (.ref x), l1, l2, l3, l4, l5, l6] (.ref x :: st) P) : X w mX1_addArc d Q 60 [some (.ref x), l1, l2, l3, l4, l5, l6] st P := X_aload_n (M := mX1_addArc) (dX1_addArc_60) rfl rfl k
theorem dX1_addArc_61 : decode cX1_addArc 61 = .ok (.dup, 1) := by decide +kernel
theorem sX1_addArc_61 {v : Value} (hv : v.category = 1) (k : X w mX1_addArc d Q 62 ls (v :: v :: st) P) : X w mX1_addArc d Q 61 ls (v :: st) P := X_dup (M := mX1_addArc) (dX1_addArc_61) hv k
theorem dX1_addArc_62 : decode cX1_addArc 62 = .ok (.getfield 46, 3) := by decide +kernel
theorem sX1_addArc_62 {a : Nat} {fs : List Value} {v : Int32} (hP : P.1 a = some (xO 1 fs)) (hv : fs[11]? = some (.int v)) (k : X w mX1_addArc d Q 65 ls (.int v :: st) P) : X w mX1_addArc d Q 62 ls (.ref a :: st) P := X_get (M := mX1_addArc) (j := 11) (T := TX1) (dX1_addArc_62) rfl (by decide) x_in1 xw_110 hP hv k
theorem dX1_addArc_65 : decode cX1_addArc 65 = .ok (.iconst 1, 1) := by decide +kernel
theorem sX1_addArc_65 (k : X w mX1_addArc d Q 66 ls (.int (1 : Int32) :: st) P) : X w mX1_addArc d Q 65 ls st P := X_iconst (M := mX1_addArc) (dX1_addArc_65) (by decide) k
theorem dX1_addArc_66 : decode cX1_addArc 66 = .ok (.iadd, 1) := by decide +kernel
theorem sX1_addArc_66 {x y : Int32} (k : X w mX1_addArc d Q 67 ls (.int (x + y) :: st) P) : X w mX1_addArc d Q 66 ls (.int y :: .int x :: st) P := X_iadd (M := mX1_addArc) (dX1_addArc_66) k
theorem dX1_addArc_67 : decode cX1_addArc 67 = .ok (.putfield 46, 3) := by decide +kernel
theorem sX1_addArc_67 {a : Nat} {fs : List Value} {v : Int32} (hP : P.1 a = some (xO 1 fs)) (hl : 11 < fs.length) (k : X w mX1_addArc d Q 70 ls st (xs P a (xO 1 (fs.set 11 (.int v))))) : X w mX1_addArc d Q 67 ls (.int v :: .ref a :: st) P := X_put (M := mX1_addArc) (j := 11) (T := TX1) (dX1_addArc_67) rfl (by decide) x_c1 xw_110 rfl hP rfl rfl hl k
theorem dX1_addArc_70 : decode cX1_addArc 70 = .ok (.return_, 1) := by decide +kernel
theorem sX1_addArc_70 (hq : Q (.returned none) P) : X w mX1_addArc d Q 70 ls [] P := X_vret (M := mX1_addArc) (dX1_addArc_70) rfl hq
theorem dX1_arcPart_0 : decode cX1_arcPart 0 = .ok (.aload_n 0, 1) := by decide +kernel
theorem sX1_arcPart_0 {l1 l2 : Option Value} {x : Nat} (k : X w mX1_arcPart d Q 1 [some (.ref x), l1, l2] (.ref x :: st) P) : X w mX1_arcPart d Q 0 [some (.ref x), l1, l2] st P := X_aload_n (M := mX1_arcPart) (dX1_arcPart_0) rfl rfl k
theorem dX1_arcPart_1 : decode cX1_arcPart 1 = .ok (.getfield 29, 3) := by decide +kernel
theorem sX1_arcPart_1 {a : Nat} {fs : List Value} {v : Nat} (hP : P.1 a = some (xO 1 fs)) (hv : fs[10]? = some (.ref v)) (k : X w mX1_arcPart d Q 4 ls (.ref v :: st) P) : X w mX1_arcPart d Q 1 ls (.ref a :: st) P := X_get (M := mX1_arcPart) (j := 10) (T := TX1) (dX1_arcPart_1) rfl (by decide) x_in1 xw_105 hP hv k
theorem dX1_arcPart_4 : decode cX1_arcPart 4 = .ok (.iload_n 1, 1) := by decide +kernel
theorem sX1_arcPart_4 {l0 l2 : Option Value} {x : Int32} (k : X w mX1_arcPart d Q 5 [l0, some (.int x), l2] (.int x :: st) P) : X w mX1_arcPart d Q 4 [l0, some (.int x), l2] st P := X_iload_n (M := mX1_arcPart) (dX1_arcPart_4) rfl rfl k
theorem dX1_arcPart_5 : decode cX1_arcPart 5 = .ok (.iconst 5, 1) := by decide +kernel
theorem sX1_arcPart_5 (k : X w mX1_arcPart d Q 6 ls (.int (5 : Int32) :: st) P) : X w mX1_arcPart d Q 5 ls st P := X_iconst (M := mX1_arcPart) (dX1_arcPart_5) (by decide) k
theorem dX1_arcPart_6 : decode cX1_arcPart 6 = .ok (.imul, 1) := by decide +kernel
theorem sX1_arcPart_6 {x y : Int32} (k : X w mX1_arcPart d Q 7 ls (.int (x * y) :: st) P) : X w mX1_arcPart d Q 6 ls (.int y :: .int x :: st) P := X_imul (M := mX1_arcPart) (dX1_arcPart_6) k
theorem dX1_arcPart_7 : decode cX1_arcPart 7 = .ok (.iload_n 2, 1) := by decide +kernel
theorem sX1_arcPart_7 {l0 l1 : Option Value} {x : Int32} (k : X w mX1_arcPart d Q 8 [l0, l1, some (.int x)] (.int x :: st) P) : X w mX1_arcPart d Q 7 [l0, l1, some (.int x)] st P := X_iload_n (M := mX1_arcPart) (dX1_arcPart_7) rfl rfl k
theorem dX1_arcPart_8 : decode cX1_arcPart 8 = .ok (.iadd, 1) := by decide +kernel
theorem sX1_arcPart_8 {x y : Int32} (k : X w mX1_arcPart d Q 9 ls (.int (x + y) :: st) P) : X w mX1_arcPart d Q 8 ls (.int y :: .int x :: st) P := X_iadd (M := mX1_arcPart) (dX1_arcPart_8) k
theorem dX1_arcPart_9 : decode cX1_arcPart 9 = .ok (.iaload, 1) := by decide +kernel
theorem sX1_arcPart_9 {a n : Nat} {f : Nat → Int32} {i : Int32} (hP : P.1 a = some (xA 0 n f)) (hi : vp_in i n) (k : X w mX1_arcPart d Q 10 ls (.int (f i.toNatClampNeg) :: st) P) : X w mX1_arcPart d Q 9 ls (.int i :: .ref a :: st) P := X_iald (M := mX1_arcPart) (dX1_arcPart_9) hP hi k
theorem dX1_arcPart_10 : decode cX1_arcPart 10 = .ok (.ireturn, 1) := by decide +kernel
theorem sX1_arcPart_10 {v : Int32} (hq : Q (.returned (some (.int v))) P) : X w mX1_arcPart d Q 10 ls [.int v] P := X_iret (M := mX1_arcPart) (dX1_arcPart_10) rfl hq
theorem dX1_hasArc_0 : decode cX1_hasArc 0 = .ok (.iconst 0, 1) := by decide +kernel
theorem sX1_hasArc_0 (k : X w mX1_hasArc d Q 1 ls (.int (0 : Int32) :: st) P) : X w mX1_hasArc d Q 0 ls st P := X_iconst (M := mX1_hasArc) (dX1_hasArc_0) (by decide) k
theorem dX1_hasArc_1 : decode cX1_hasArc 1 = .ok (.istore_n 3, 1) := by decide +kernel
theorem sX1_hasArc_1 {l0 l1 l2 l3 : Option Value} {x : Int32} (hn : xnl l2 = true) (k : X w mX1_hasArc d Q 2 [l0, l1, l2, some (.int x)] st P) : X w mX1_hasArc d Q 1 [l0, l1, l2, l3] (.int x :: st) P := X_istore_n (M := mX1_hasArc) (dX1_hasArc_1) rfl (by decide) rfl (xnl_p (ls := [l0, l1, l2, l3]) (j := 2) rfl hn) k
theorem dX1_hasArc_2 : decode cX1_hasArc 2 = .ok (.iload_n 3, 1) := by decide +kernel
theorem sX1_hasArc_2 {l0 l1 l2 : Option Value} {x : Int32} (k : X w mX1_hasArc d Q 3 [l0, l1, l2, some (.int x)] (.int x :: st) P) : X w mX1_hasArc d Q 2 [l0, l1, l2, some (.int x)] st P := X_iload_n (M := mX1_hasArc) (dX1_hasArc_2) rfl rfl k
theorem dX1_hasArc_3 : decode cX1_hasArc 3 = .ok (.aload_n 0, 1) := by decide +kernel
theorem sX1_hasArc_3 {l1 l2 l3 : Option Value} {x : Nat} (k : X w mX1_hasArc d Q 4 [some (.ref x), l1, l2, l3] (.ref x :: st) P) : X w mX1_hasArc d Q 3 [some (.ref x), l1, l2, l3] st P := X_aload_n (M := mX1_hasArc) (dX1_hasArc_3) rfl rfl k
theorem dX1_hasArc_4 : decode cX1_hasArc 4 = .ok (.getfield 46, 3) := by decide +kernel
theorem sX1_hasArc_4 {a : Nat} {fs : List Value} {v : Int32} (hP : P.1 a = some (xO 1 fs)) (hv : fs[11]? = some (.int v)) (k : X w mX1_hasArc d Q 7 ls (.int v :: st) P) : X w mX1_hasArc d Q 4 ls (.ref a :: st) P := X_get (M := mX1_hasArc) (j := 11) (T := TX1) (dX1_hasArc_4) rfl (by decide) x_in1 xw_110 hP hv k
theorem dX1_hasArc_7 : decode cX1_hasArc 7 = .ok (.if_icmp .ge 31, 3) := by decide +kernel
theorem sX1_hasArc_7 {x y : Int32} (kt : y ≤ x → X w mX1_hasArc d Q 38 ls st P) (kf : ¬ y ≤ x → X w mX1_hasArc d Q 10 ls st P) : X w mX1_hasArc d Q 7 ls (.int y :: .int x :: st) P := X_icmp_ge (M := mX1_hasArc) (dX1_hasArc_7) (by decide) kt kf
theorem dX1_hasArc_10 : decode cX1_hasArc 10 = .ok (.aload_n 0, 1) := by decide +kernel
theorem sX1_hasArc_10 {l1 l2 l3 : Option Value} {x : Nat} (k : X w mX1_hasArc d Q 11 [some (.ref x), l1, l2, l3] (.ref x :: st) P) : X w mX1_hasArc d Q 10 [some (.ref x), l1, l2, l3] st P := X_aload_n (M := mX1_hasArc) (dX1_hasArc_10) rfl rfl k
theorem dX1_hasArc_11 : decode cX1_hasArc 11 = .ok (.iload_n 3, 1) := by decide +kernel
theorem sX1_hasArc_11 {l0 l1 l2 : Option Value} {x : Int32} (k : X w mX1_hasArc d Q 12 [l0, l1, l2, some (.int x)] (.int x :: st) P) : X w mX1_hasArc d Q 11 [l0, l1, l2, some (.int x)] st P := X_iload_n (M := mX1_hasArc) (dX1_hasArc_11) rfl rfl k
theorem dX1_hasArc_12 : decode cX1_hasArc 12 = .ok (.iconst 0, 1) := by decide +kernel
theorem sX1_hasArc_12 (k : X w mX1_hasArc d Q 13 ls (.int (0 : Int32) :: st) P) : X w mX1_hasArc d Q 12 ls st P := X_iconst (M := mX1_hasArc) (dX1_hasArc_12) (by decide) k
theorem dX1_hasArc_13 : decode cX1_hasArc 13 = .ok (.invokevirtual 59, 3) := by decide +kernel
theorem sX1_hasArc_13_g {b : Nat} {fs : List Value} {a0 : Int32} {a1 : Int32} {Qc : Outcome → xH → Prop} (hst : (st.map fun v => v.category).sum ≤ 8) (hP : P.1 b = some (xO 1 fs)) (hC : xC w d mX1_arcPart [.ref b, .int a0, .int a1] P Qc) (kr : ∀ v P1, Qc (.returned v) P1 → X w mX1_hasArc (d + 1) Q 16 ls (v.toList ++ st) P1) (kt : ∀ q P1, Qc (.threw q) P1 → Xt w mX1_hasArc (d + 1) Q 13 ls st P1 q) : X w mX1_hasArc (d + 1) Q 13 ls (.int a1 :: .int a0 :: .ref b :: st) P := X_callV (M := mX1_hasArc) (MC := mX1_arcPart) (As := [.int a0, .int a1]) (T := TX1) (dX1_hasArc_13) calX1_arcPart xw_114 xw_115 xw_116 rfl rfl hP hC hst kr kt
theorem sX1_hasArc_13 {b : Nat} {fs : List Value} {a0 : Int32} {a1 : Int32} {r : Int32} {P1 : xH} (hst : (st.map fun v => v.category).sum ≤ 8) (hP : P.1 b = some (xO 1 fs)) (hC : xC w d mX1_arcPart [.ref b, .int a0, .int a1] P (xRet (some (.int r)) P1)) (k : X w mX1_hasArc (d + 1) Q 16 ls (.int r :: st) P1) : X w mX1_hasArc (d + 1) Q 13 ls (.int a1 :: .int a0 :: .ref b :: st) P := X_callV (M := mX1_hasArc) (MC := mX1_arcPart) (As := [.int a0, .int a1]) (T := TX1) (dX1_hasArc_13) calX1_arcPart xw_114 xw_115 xw_116 rfl rfl hP hC hst (fun v P2 h => by obtain ⟨h1, rfl⟩ := h; cases h1; exact k) (fun q P2 h => by cases h.1)
theorem sX1_hasArc_13_r {b : Nat} {fs : List Value} {a0 : Int32} {a1 : Int32} {r : Int32} {Rp : xH → Prop} (hst : (st.map fun v => v.category).sum ≤ 8) (hP : P.1 b = some (xO 1 fs)) (hC : xC w d mX1_arcPart [.ref b, .int a0, .int a1] P (xRl (some (.int r)) Rp)) (k : ∀ P1, Rp P1 → X w mX1_hasArc (d + 1) Q 16 ls (.int r :: st) P1) : X w mX1_hasArc (d + 1) Q 13 ls (.int a1 :: .int a0 :: .ref b :: st) P := X_callV (M := mX1_hasArc) (MC := mX1_arcPart) (As := [.int a0, .int a1]) (T := TX1) (dX1_hasArc_13) calX1_arcPart xw_114 xw_115 xw_116 rfl rfl hP hC hst (fun v P2 h => by obtain ⟨h1, hR⟩ := h; cases h1; exact k P2 hR) (fun q P2 h => by cases h.1)
theorem sX1_hasArc_13_t {b : Nat} {fs : List Value} {a0 : Int32} {a1 : Int32} {q : Nat} {P1 : xH} (hst : (st.map fun v => v.category).sum ≤ 8) (hP : P.1 b = some (xO 1 fs)) (hC : xC w d mX1_arcPart [.ref b, .int a0, .int a1] P (xThr q P1)) (hq : Q (.threw q) P1) : X w mX1_hasArc (d + 1) Q 13 ls (.int a1 :: .int a0 :: .ref b :: st) P := X_callV (M := mX1_hasArc) (MC := mX1_arcPart) (As := [.int a0, .int a1]) (T := TX1) (dX1_hasArc_13) calX1_arcPart xw_114 xw_115 xw_116 rfl rfl hP hC hst (fun v P2 h => by cases h.1) (fun q2 P2 h => by obtain ⟨h1, rfl⟩ := h; cases h1; exact Xt_out rfl hq)
theorem dX1_hasArc_16 : decode cX1_hasArc 16 = .ok (.iload_n 1, 1) := by decide +kernel
theorem sX1_hasArc_16 {l0 l2 l3 : Option Value} {x : Int32} (k : X w mX1_hasArc d Q 17 [l0, some (.int x), l2, l3] (.int x :: st) P) : X w mX1_hasArc d Q 16 [l0, some (.int x), l2, l3] st P := X_iload_n (M := mX1_hasArc) (dX1_hasArc_16) rfl rfl k
theorem dX1_hasArc_17 : decode cX1_hasArc 17 = .ok (.if_icmp .ne 15, 3) := by decide +kernel
theorem sX1_hasArc_17 {x y : Int32} (kt : ¬ x = y → X w mX1_hasArc d Q 32 ls st P) (kf : x = y → X w mX1_hasArc d Q 20 ls st P) : X w mX1_hasArc d Q 17 ls (.int y :: .int x :: st) P := X_icmp_ne (M := mX1_hasArc) (dX1_hasArc_17) (by decide) kt kf
theorem dX1_hasArc_20 : decode cX1_hasArc 20 = .ok (.aload_n 0, 1) := by decide +kernel
theorem sX1_hasArc_20 {l1 l2 l3 : Option Value} {x : Nat} (k : X w mX1_hasArc d Q 21 [some (.ref x), l1, l2, l3] (.ref x :: st) P) : X w mX1_hasArc d Q 20 [some (.ref x), l1, l2, l3] st P := X_aload_n (M := mX1_hasArc) (dX1_hasArc_20) rfl rfl k
theorem dX1_hasArc_21 : decode cX1_hasArc 21 = .ok (.iload_n 3, 1) := by decide +kernel
theorem sX1_hasArc_21 {l0 l1 l2 : Option Value} {x : Int32} (k : X w mX1_hasArc d Q 22 [l0, l1, l2, some (.int x)] (.int x :: st) P) : X w mX1_hasArc d Q 21 [l0, l1, l2, some (.int x)] st P := X_iload_n (M := mX1_hasArc) (dX1_hasArc_21) rfl rfl k
theorem dX1_hasArc_22 : decode cX1_hasArc 22 = .ok (.iconst 1, 1) := by decide +kernel
theorem sX1_hasArc_22 (k : X w mX1_hasArc d Q 23 ls (.int (1 : Int32) :: st) P) : X w mX1_hasArc d Q 22 ls st P := X_iconst (M := mX1_hasArc) (dX1_hasArc_22) (by decide) k
theorem dX1_hasArc_23 : decode cX1_hasArc 23 = .ok (.invokevirtual 59, 3) := by decide +kernel
theorem sX1_hasArc_23_g {b : Nat} {fs : List Value} {a0 : Int32} {a1 : Int32} {Qc : Outcome → xH → Prop} (hst : (st.map fun v => v.category).sum ≤ 8) (hP : P.1 b = some (xO 1 fs)) (hC : xC w d mX1_arcPart [.ref b, .int a0, .int a1] P Qc) (kr : ∀ v P1, Qc (.returned v) P1 → X w mX1_hasArc (d + 1) Q 26 ls (v.toList ++ st) P1) (kt : ∀ q P1, Qc (.threw q) P1 → Xt w mX1_hasArc (d + 1) Q 23 ls st P1 q) : X w mX1_hasArc (d + 1) Q 23 ls (.int a1 :: .int a0 :: .ref b :: st) P := X_callV (M := mX1_hasArc) (MC := mX1_arcPart) (As := [.int a0, .int a1]) (T := TX1) (dX1_hasArc_23) calX1_arcPart xw_114 xw_115 xw_116 rfl rfl hP hC hst kr kt
theorem sX1_hasArc_23 {b : Nat} {fs : List Value} {a0 : Int32} {a1 : Int32} {r : Int32} {P1 : xH} (hst : (st.map fun v => v.category).sum ≤ 8) (hP : P.1 b = some (xO 1 fs)) (hC : xC w d mX1_arcPart [.ref b, .int a0, .int a1] P (xRet (some (.int r)) P1)) (k : X w mX1_hasArc (d + 1) Q 26 ls (.int r :: st) P1) : X w mX1_hasArc (d + 1) Q 23 ls (.int a1 :: .int a0 :: .ref b :: st) P := X_callV (M := mX1_hasArc) (MC := mX1_arcPart) (As := [.int a0, .int a1]) (T := TX1) (dX1_hasArc_23) calX1_arcPart xw_114 xw_115 xw_116 rfl rfl hP hC hst (fun v P2 h => by obtain ⟨h1, rfl⟩ := h; cases h1; exact k) (fun q P2 h => by cases h.1)
theorem sX1_hasArc_23_r {b : Nat} {fs : List Value} {a0 : Int32} {a1 : Int32} {r : Int32} {Rp : xH → Prop} (hst : (st.map fun v => v.category).sum ≤ 8) (hP : P.1 b = some (xO 1 fs)) (hC : xC w d mX1_arcPart [.ref b, .int a0, .int a1] P (xRl (some (.int r)) Rp)) (k : ∀ P1, Rp P1 → X w mX1_hasArc (d + 1) Q 26 ls (.int r :: st) P1) : X w mX1_hasArc (d + 1) Q 23 ls (.int a1 :: .int a0 :: .ref b :: st) P := X_callV (M := mX1_hasArc) (MC := mX1_arcPart) (As := [.int a0, .int a1]) (T := TX1) (dX1_hasArc_23) calX1_arcPart xw_114 xw_115 xw_116 rfl rfl hP hC hst (fun v P2 h => by obtain ⟨h1, hR⟩ := h; cases h1; exact k P2 hR) (fun q P2 h => by cases h.1)
theorem sX1_hasArc_23_t {b : Nat} {fs : List Value} {a0 : Int32} {a1 : Int32} {q : Nat} {P1 : xH} (hst : (st.map fun v => v.category).sum ≤ 8) (hP : P.1 b = some (xO 1 fs)) (hC : xC w d mX1_arcPart [.ref b, .int a0, .int a1] P (xThr q P1)) (hq : Q (.threw q) P1) : X w mX1_hasArc (d + 1) Q 23 ls (.int a1 :: .int a0 :: .ref b :: st) P := X_callV (M := mX1_hasArc) (MC := mX1_arcPart) (As := [.int a0, .int a1]) (T := TX1) (dX1_hasArc_23) calX1_arcPart xw_114 xw_115 xw_116 rfl rfl hP hC hst (fun v P2 h => by cases h.1) (fun q2 P2 h => by obtain ⟨h1, rfl⟩ := h; cases h1; exact Xt_out rfl hq)
theorem dX1_hasArc_26 : decode cX1_hasArc 26 = .ok (.iload_n 2, 1) := by decide +kernel
theorem sX1_hasArc_26 {l0 l1 l3 : Option Value} {x : Int32} (k : X w mX1_hasArc d Q 27 [l0, l1, some (.int x), l3] (.int x :: st) P) : X w mX1_hasArc d Q 26 [l0, l1, some (.int x), l3] st P := X_iload_n (M := mX1_hasArc) (dX1_hasArc_26) rfl rfl k
theorem dX1_hasArc_27 : decode cX1_hasArc 27 = .ok (.if_icmp .ne 5, 3) := by decide +kernel
theorem sX1_hasArc_27 {x y : Int32} (kt : ¬ x = y → X w mX1_hasArc d Q 32 ls st P) (kf : x = y → X w mX1_hasArc d Q 30 ls st P) : X w mX1_hasArc d Q 27 ls (.int y :: .int x :: st) P := X_icmp_ne (M := mX1_hasArc) (dX1_hasArc_27) (by decide) kt kf
theorem dX1_hasArc_30 : decode cX1_hasArc 30 = .ok (.iconst 1, 1) := by decide +kernel
theorem sX1_hasArc_30 (k : X w mX1_hasArc d Q 31 ls (.int (1 : Int32) :: st) P) : X w mX1_hasArc d Q 30 ls st P := X_iconst (M := mX1_hasArc) (dX1_hasArc_30) (by decide) k
theorem dX1_hasArc_31 : decode cX1_hasArc 31 = .ok (.ireturn, 1) := by decide +kernel
theorem sX1_hasArc_31 {v : Int32} (hb : v = 0 ∨ v = 1) (hq : Q (.returned (some (.int v))) P) : X w mX1_hasArc d Q 31 ls [.int v] P := X_zret (M := mX1_hasArc) (ty := .boolean) (dX1_hasArc_31) rfl (xz_n hb) hq
theorem dX1_hasArc_32 : decode cX1_hasArc 32 = .ok (.iinc 3 1, 3) := by decide +kernel
theorem sX1_hasArc_32 {l0 l1 l2 : Option Value} {x : Int32} (hn : xnl l2 = true) (k : X w mX1_hasArc d Q 35 [l0, l1, l2, some (.int (x + (1 : Int32)))] st P) : X w mX1_hasArc d Q 32 [l0, l1, l2, some (.int x)] st P := X_iinc (M := mX1_hasArc) (dX1_hasArc_32) rfl (by rfl) (by decide) rfl (xnl_p (ls := [l0, l1, l2, some (.int x)]) (j := 2) rfl hn) k
theorem dX1_hasArc_35 : decode cX1_hasArc 35 = .ok (.goto (-33), 3) := by decide +kernel
theorem sX1_hasArc_35 (k : X w mX1_hasArc d Q 2 ls st P) : X w mX1_hasArc d Q 35 ls st P := X_goto (M := mX1_hasArc) (dX1_hasArc_35) (by decide) k
theorem dX1_hasArc_38 : decode cX1_hasArc 38 = .ok (.iconst 0, 1) := by decide +kernel
theorem sX1_hasArc_38 (k : X w mX1_hasArc d Q 39 ls (.int (0 : Int32) :: st) P) : X w mX1_hasArc d Q 38 ls st P := X_iconst (M := mX1_hasArc) (dX1_hasArc_38) (by decide) k
theorem dX1_hasArc_39 : decode cX1_hasArc 39 = .ok (.ireturn, 1) := by decide +kernel
theorem sX1_hasArc_39 {v : Int32} (hb : v = 0 ∨ v = 1) (hq : Q (.returned (some (.int v))) P) : X w mX1_hasArc d Q 39 ls [.int v] P := X_zret (M := mX1_hasArc) (ty := .boolean) (dX1_hasArc_39) rfl (xz_n hb) hq
theorem dX1_agrees_0 : decode cX1_agrees 0 = .ok (.aload_n 0, 1) := by decide +kernel
theorem sX1_agrees_0 {l1 l2 l3 : Option Value} {x : Nat} (k : X w mX1_agrees d Q 1 [some (.ref x), l1, l2, l3] (.ref x :: st) P) : X w mX1_agrees d Q 0 [some (.ref x), l1, l2, l3] st P := X_aload_n (M := mX1_agrees) (dX1_agrees_0) rfl rfl k
theorem dX1_agrees_1 : decode cX1_agrees 1 = .ok (.iload_n 1, 1) := by decide +kernel
theorem sX1_agrees_1 {l0 l2 l3 : Option Value} {x : Int32} (k : X w mX1_agrees d Q 2 [l0, some (.int x), l2, l3] (.int x :: st) P) : X w mX1_agrees d Q 1 [l0, some (.int x), l2, l3] st P := X_iload_n (M := mX1_agrees) (dX1_agrees_1) rfl rfl k
theorem dX1_agrees_2 : decode cX1_agrees 2 = .ok (.iconst 2, 1) := by decide +kernel
theorem sX1_agrees_2 (k : X w mX1_agrees d Q 3 ls (.int (2 : Int32) :: st) P) : X w mX1_agrees d Q 2 ls st P := X_iconst (M := mX1_agrees) (dX1_agrees_2) (by decide) k
theorem dX1_agrees_3 : decode cX1_agrees 3 = .ok (.invokevirtual 59, 3) := by decide +kernel
theorem sX1_agrees_3_g {b : Nat} {fs : List Value} {a0 : Int32} {a1 : Int32} {Qc : Outcome → xH → Prop} (hst : (st.map fun v => v.category).sum ≤ 8) (hP : P.1 b = some (xO 1 fs)) (hC : xC w d mX1_arcPart [.ref b, .int a0, .int a1] P Qc) (kr : ∀ v P1, Qc (.returned v) P1 → X w mX1_agrees (d + 1) Q 6 ls (v.toList ++ st) P1) (kt : ∀ q P1, Qc (.threw q) P1 → Xt w mX1_agrees (d + 1) Q 3 ls st P1 q) : X w mX1_agrees (d + 1) Q 3 ls (.int a1 :: .int a0 :: .ref b :: st) P := X_callV (M := mX1_agrees) (MC := mX1_arcPart) (As := [.int a0, .int a1]) (T := TX1) (dX1_agrees_3) calX1_arcPart xw_114 xw_115 xw_116 rfl rfl hP hC hst kr kt
theorem sX1_agrees_3 {b : Nat} {fs : List Value} {a0 : Int32} {a1 : Int32} {r : Int32} {P1 : xH} (hst : (st.map fun v => v.category).sum ≤ 8) (hP : P.1 b = some (xO 1 fs)) (hC : xC w d mX1_arcPart [.ref b, .int a0, .int a1] P (xRet (some (.int r)) P1)) (k : X w mX1_agrees (d + 1) Q 6 ls (.int r :: st) P1) : X w mX1_agrees (d + 1) Q 3 ls (.int a1 :: .int a0 :: .ref b :: st) P := X_callV (M := mX1_agrees) (MC := mX1_arcPart) (As := [.int a0, .int a1]) (T := TX1) (dX1_agrees_3) calX1_arcPart xw_114 xw_115 xw_116 rfl rfl hP hC hst (fun v P2 h => by obtain ⟨h1, rfl⟩ := h; cases h1; exact k) (fun q P2 h => by cases h.1)
theorem sX1_agrees_3_r {b : Nat} {fs : List Value} {a0 : Int32} {a1 : Int32} {r : Int32} {Rp : xH → Prop} (hst : (st.map fun v => v.category).sum ≤ 8) (hP : P.1 b = some (xO 1 fs)) (hC : xC w d mX1_arcPart [.ref b, .int a0, .int a1] P (xRl (some (.int r)) Rp)) (k : ∀ P1, Rp P1 → X w mX1_agrees (d + 1) Q 6 ls (.int r :: st) P1) : X w mX1_agrees (d + 1) Q 3 ls (.int a1 :: .int a0 :: .ref b :: st) P := X_callV (M := mX1_agrees) (MC := mX1_arcPart) (As := [.int a0, .int a1]) (T := TX1) (dX1_agrees_3) calX1_arcPart xw_114 xw_115 xw_116 rfl rfl hP hC hst (fun v P2 h => by obtain ⟨h1, hR⟩ := h; cases h1; exact k P2 hR) (fun q P2 h => by cases h.1)
theorem sX1_agrees_3_t {b : Nat} {fs : List Value} {a0 : Int32} {a1 : Int32} {q : Nat} {P1 : xH} (hst : (st.map fun v => v.category).sum ≤ 8) (hP : P.1 b = some (xO 1 fs)) (hC : xC w d mX1_arcPart [.ref b, .int a0, .int a1] P (xThr q P1)) (hq : Q (.threw q) P1) : X w mX1_agrees (d + 1) Q 3 ls (.int a1 :: .int a0 :: .ref b :: st) P := X_callV (M := mX1_agrees) (MC := mX1_arcPart) (As := [.int a0, .int a1]) (T := TX1) (dX1_agrees_3) calX1_arcPart xw_114 xw_115 xw_116 rfl rfl hP hC hst (fun v P2 h => by cases h.1) (fun q2 P2 h => by obtain ⟨h1, rfl⟩ := h; cases h1; exact Xt_out rfl hq)
theorem dX1_agrees_6 : decode cX1_agrees 6 = .ok (.istore_n 2, 1) := by decide +kernel
theorem sX1_agrees_6 {l0 l1 l2 l3 : Option Value} {x : Int32} (hn : xnl l1 = true) (k : X w mX1_agrees d Q 7 [l0, l1, some (.int x), l3] st P) : X w mX1_agrees d Q 6 [l0, l1, l2, l3] (.int x :: st) P := X_istore_n (M := mX1_agrees) (dX1_agrees_6) rfl (by decide) rfl (xnl_p (ls := [l0, l1, l2, l3]) (j := 1) rfl hn) k
theorem dX1_agrees_7 : decode cX1_agrees 7 = .ok (.aload_n 0, 1) := by decide +kernel
theorem sX1_agrees_7 {l1 l2 l3 : Option Value} {x : Nat} (k : X w mX1_agrees d Q 8 [some (.ref x), l1, l2, l3] (.ref x :: st) P) : X w mX1_agrees d Q 7 [some (.ref x), l1, l2, l3] st P := X_aload_n (M := mX1_agrees) (dX1_agrees_7) rfl rfl k
theorem dX1_agrees_8 : decode cX1_agrees 8 = .ok (.getfield 15, 3) := by decide +kernel
theorem sX1_agrees_8 {a : Nat} {fs : List Value} {v : Nat} (hP : P.1 a = some (xO 1 fs)) (hv : fs[5]? = some (.ref v)) (k : X w mX1_agrees d Q 11 ls (.ref v :: st) P) : X w mX1_agrees d Q 8 ls (.ref a :: st) P := X_get (M := mX1_agrees) (j := 5) (T := TX1) (dX1_agrees_8) rfl (by decide) x_in1 xw_100 hP hv k
theorem dX1_agrees_11 : decode cX1_agrees 11 = .ok (.aload_n 0, 1) := by decide +kernel
theorem sX1_agrees_11 {l1 l2 l3 : Option Value} {x : Nat} (k : X w mX1_agrees d Q 12 [some (.ref x), l1, l2, l3] (.ref x :: st) P) : X w mX1_agrees d Q 11 [some (.ref x), l1, l2, l3] st P := X_aload_n (M := mX1_agrees) (dX1_agrees_11) rfl rfl k
theorem dX1_agrees_12 : decode cX1_agrees 12 = .ok (.iload_n 1, 1) := by decide +kernel
theorem sX1_agrees_12 {l0 l2 l3 : Option Value} {x : Int32} (k : X w mX1_agrees d Q 13 [l0, some (.int x), l2, l3] (.int x :: st) P) : X w mX1_agrees d Q 12 [l0, some (.int x), l2, l3] st P := X_iload_n (M := mX1_agrees) (dX1_agrees_12) rfl rfl k
theorem dX1_agrees_13 : decode cX1_agrees 13 = .ok (.iconst 1, 1) := by decide +kernel
theorem sX1_agrees_13 (k : X w mX1_agrees d Q 14 ls (.int (1 : Int32) :: st) P) : X w mX1_agrees d Q 13 ls st P := X_iconst (M := mX1_agrees) (dX1_agrees_13) (by decide) k
theorem dX1_agrees_14 : decode cX1_agrees 14 = .ok (.invokevirtual 59, 3) := by decide +kernel
theorem sX1_agrees_14_g {b : Nat} {fs : List Value} {a0 : Int32} {a1 : Int32} {Qc : Outcome → xH → Prop} (hst : (st.map fun v => v.category).sum ≤ 8) (hP : P.1 b = some (xO 1 fs)) (hC : xC w d mX1_arcPart [.ref b, .int a0, .int a1] P Qc) (kr : ∀ v P1, Qc (.returned v) P1 → X w mX1_agrees (d + 1) Q 17 ls (v.toList ++ st) P1) (kt : ∀ q P1, Qc (.threw q) P1 → Xt w mX1_agrees (d + 1) Q 14 ls st P1 q) : X w mX1_agrees (d + 1) Q 14 ls (.int a1 :: .int a0 :: .ref b :: st) P := X_callV (M := mX1_agrees) (MC := mX1_arcPart) (As := [.int a0, .int a1]) (T := TX1) (dX1_agrees_14) calX1_arcPart xw_114 xw_115 xw_116 rfl rfl hP hC hst kr kt
theorem sX1_agrees_14 {b : Nat} {fs : List Value} {a0 : Int32} {a1 : Int32} {r : Int32} {P1 : xH} (hst : (st.map fun v => v.category).sum ≤ 8) (hP : P.1 b = some (xO 1 fs)) (hC : xC w d mX1_arcPart [.ref b, .int a0, .int a1] P (xRet (some (.int r)) P1)) (k : X w mX1_agrees (d + 1) Q 17 ls (.int r :: st) P1) : X w mX1_agrees (d + 1) Q 14 ls (.int a1 :: .int a0 :: .ref b :: st) P := X_callV (M := mX1_agrees) (MC := mX1_arcPart) (As := [.int a0, .int a1]) (T := TX1) (dX1_agrees_14) calX1_arcPart xw_114 xw_115 xw_116 rfl rfl hP hC hst (fun v P2 h => by obtain ⟨h1, rfl⟩ := h; cases h1; exact k) (fun q P2 h => by cases h.1)
theorem sX1_agrees_14_r {b : Nat} {fs : List Value} {a0 : Int32} {a1 : Int32} {r : Int32} {Rp : xH → Prop} (hst : (st.map fun v => v.category).sum ≤ 8) (hP : P.1 b = some (xO 1 fs)) (hC : xC w d mX1_arcPart [.ref b, .int a0, .int a1] P (xRl (some (.int r)) Rp)) (k : ∀ P1, Rp P1 → X w mX1_agrees (d + 1) Q 17 ls (.int r :: st) P1) : X w mX1_agrees (d + 1) Q 14 ls (.int a1 :: .int a0 :: .ref b :: st) P := X_callV (M := mX1_agrees) (MC := mX1_arcPart) (As := [.int a0, .int a1]) (T := TX1) (dX1_agrees_14) calX1_arcPart xw_114 xw_115 xw_116 rfl rfl hP hC hst (fun v P2 h => by obtain ⟨h1, hR⟩ := h; cases h1; exact k P2 hR) (fun q P2 h => by cases h.1)
theorem sX1_agrees_14_t {b : Nat} {fs : List Value} {a0 : Int32} {a1 : Int32} {q : Nat} {P1 : xH} (hst : (st.map fun v => v.category).sum ≤ 8) (hP : P.1 b = some (xO 1 fs)) (hC : xC w d mX1_arcPart [.ref b, .int a0, .int a1] P (xThr q P1)) (hq : Q (.threw q) P1) : X w mX1_agrees (d + 1) Q 14 ls (.int a1 :: .int a0 :: .ref b :: st) P := X_callV (M := mX1_agrees) (MC := mX1_arcPart) (As := [.int a0, .int a1]) (T := TX1) (dX1_agrees_14) calX1_arcPart xw_114 xw_115 xw_116 rfl rfl hP hC hst (fun v P2 h => by cases h.1) (fun q2 P2 h => by obtain ⟨h1, rfl⟩ := h; cases h1; exact Xt_out rfl hq)
theorem dX1_agrees_17 : decode cX1_agrees 17 = .ok (.laload, 1) := by decide +kernel
theorem sX1_agrees_17 {a n : Nat} {f : Nat → Int64} {i : Int32} (hP : P.1 a = some (xJ n f)) (hi : vp_in i n) (k : X w mX1_agrees d Q 18 ls (.long (f i.toNatClampNeg) :: st) P) : X w mX1_agrees d Q 17 ls (.int i :: .ref a :: st) P := X_lald (M := mX1_agrees) (dX1_agrees_17) hP hi k
theorem dX1_agrees_18 : decode cX1_agrees 18 = .ok (.aload_n 0, 1) := by decide +kernel
theorem sX1_agrees_18 {l1 l2 l3 : Option Value} {x : Nat} (k : X w mX1_agrees d Q 19 [some (.ref x), l1, l2, l3] (.ref x :: st) P) : X w mX1_agrees d Q 18 [some (.ref x), l1, l2, l3] st P := X_aload_n (M := mX1_agrees) (dX1_agrees_18) rfl rfl k
theorem dX1_agrees_19 : decode cX1_agrees 19 = .ok (.iload_n 1, 1) := by decide +kernel
theorem sX1_agrees_19 {l0 l2 l3 : Option Value} {x : Int32} (k : X w mX1_agrees d Q 20 [l0, some (.int x), l2, l3] (.int x :: st) P) : X w mX1_agrees d Q 19 [l0, some (.int x), l2, l3] st P := X_iload_n (M := mX1_agrees) (dX1_agrees_19) rfl rfl k
theorem dX1_agrees_20 : decode cX1_agrees 20 = .ok (.iconst 0, 1) := by decide +kernel
theorem sX1_agrees_20 (k : X w mX1_agrees d Q 21 ls (.int (0 : Int32) :: st) P) : X w mX1_agrees d Q 20 ls st P := X_iconst (M := mX1_agrees) (dX1_agrees_20) (by decide) k
theorem dX1_agrees_21 : decode cX1_agrees 21 = .ok (.invokevirtual 59, 3) := by decide +kernel
theorem sX1_agrees_21_g {b : Nat} {fs : List Value} {a0 : Int32} {a1 : Int32} {Qc : Outcome → xH → Prop} (hst : (st.map fun v => v.category).sum ≤ 8) (hP : P.1 b = some (xO 1 fs)) (hC : xC w d mX1_arcPart [.ref b, .int a0, .int a1] P Qc) (kr : ∀ v P1, Qc (.returned v) P1 → X w mX1_agrees (d + 1) Q 24 ls (v.toList ++ st) P1) (kt : ∀ q P1, Qc (.threw q) P1 → Xt w mX1_agrees (d + 1) Q 21 ls st P1 q) : X w mX1_agrees (d + 1) Q 21 ls (.int a1 :: .int a0 :: .ref b :: st) P := X_callV (M := mX1_agrees) (MC := mX1_arcPart) (As := [.int a0, .int a1]) (T := TX1) (dX1_agrees_21) calX1_arcPart xw_114 xw_115 xw_116 rfl rfl hP hC hst kr kt
theorem sX1_agrees_21 {b : Nat} {fs : List Value} {a0 : Int32} {a1 : Int32} {r : Int32} {P1 : xH} (hst : (st.map fun v => v.category).sum ≤ 8) (hP : P.1 b = some (xO 1 fs)) (hC : xC w d mX1_arcPart [.ref b, .int a0, .int a1] P (xRet (some (.int r)) P1)) (k : X w mX1_agrees (d + 1) Q 24 ls (.int r :: st) P1) : X w mX1_agrees (d + 1) Q 21 ls (.int a1 :: .int a0 :: .ref b :: st) P := X_callV (M := mX1_agrees) (MC := mX1_arcPart) (As := [.int a0, .int a1]) (T := TX1) (dX1_agrees_21) calX1_arcPart xw_114 xw_115 xw_116 rfl rfl hP hC hst (fun v P2 h => by obtain ⟨h1, rfl⟩ := h; cases h1; exact k) (fun q P2 h => by cases h.1)
theorem sX1_agrees_21_r {b : Nat} {fs : List Value} {a0 : Int32} {a1 : Int32} {r : Int32} {Rp : xH → Prop} (hst : (st.map fun v => v.category).sum ≤ 8) (hP : P.1 b = some (xO 1 fs)) (hC : xC w d mX1_arcPart [.ref b, .int a0, .int a1] P (xRl (some (.int r)) Rp)) (k : ∀ P1, Rp P1 → X w mX1_agrees (d + 1) Q 24 ls (.int r :: st) P1) : X w mX1_agrees (d + 1) Q 21 ls (.int a1 :: .int a0 :: .ref b :: st) P := X_callV (M := mX1_agrees) (MC := mX1_arcPart) (As := [.int a0, .int a1]) (T := TX1) (dX1_agrees_21) calX1_arcPart xw_114 xw_115 xw_116 rfl rfl hP hC hst (fun v P2 h => by obtain ⟨h1, hR⟩ := h; cases h1; exact k P2 hR) (fun q P2 h => by cases h.1)
theorem sX1_agrees_21_t {b : Nat} {fs : List Value} {a0 : Int32} {a1 : Int32} {q : Nat} {P1 : xH} (hst : (st.map fun v => v.category).sum ≤ 8) (hP : P.1 b = some (xO 1 fs)) (hC : xC w d mX1_arcPart [.ref b, .int a0, .int a1] P (xThr q P1)) (hq : Q (.threw q) P1) : X w mX1_agrees (d + 1) Q 21 ls (.int a1 :: .int a0 :: .ref b :: st) P := X_callV (M := mX1_agrees) (MC := mX1_arcPart) (As := [.int a0, .int a1]) (T := TX1) (dX1_agrees_21) calX1_arcPart xw_114 xw_115 xw_116 rfl rfl hP hC hst (fun v P2 h => by cases h.1) (fun q2 P2 h => by obtain ⟨h1, rfl⟩ := h; cases h1; exact Xt_out rfl hq)
theorem dX1_agrees_24 : decode cX1_agrees 24 = .ok (.invokestatic 63, 3) := by decide +kernel
theorem sX1_agrees_24_g {a0 : Int64} {a1 : Int32} {Qc : Outcome → xH → Prop} (hst : (st.map fun v => v.category).sum ≤ 8) (hC : xC w d mX2_senseOf [.long a0, .int a1] P Qc) (kr : ∀ v P1, Qc (.returned v) P1 → X w mX1_agrees (d + 1) Q 27 ls (v.toList ++ st) P1) (kt : ∀ q P1, Qc (.threw q) P1 → Xt w mX1_agrees (d + 1) Q 24 ls st P1 q) : X w mX1_agrees (d + 1) Q 24 ls (.int a1 :: .long a0 :: st) P := X_callS (M := mX1_agrees) (MC := mX2_senseOf) (As := [.long a0, .int a1]) (dX1_agrees_24) calX2_senseOf xw_117 xw_118 rfl hC hst kr kt
theorem sX1_agrees_24 {a0 : Int64} {a1 : Int32} {r : Int32} {P1 : xH} (hst : (st.map fun v => v.category).sum ≤ 8) (hC : xC w d mX2_senseOf [.long a0, .int a1] P (xRet (some (.int r)) P1)) (k : X w mX1_agrees (d + 1) Q 27 ls (.int r :: st) P1) : X w mX1_agrees (d + 1) Q 24 ls (.int a1 :: .long a0 :: st) P := X_callS (M := mX1_agrees) (MC := mX2_senseOf) (As := [.long a0, .int a1]) (dX1_agrees_24) calX2_senseOf xw_117 xw_118 rfl hC hst (fun v P2 h => by obtain ⟨h1, rfl⟩ := h; cases h1; exact k) (fun q P2 h => by cases h.1)
theorem sX1_agrees_24_r {a0 : Int64} {a1 : Int32} {r : Int32} {Rp : xH → Prop} (hst : (st.map fun v => v.category).sum ≤ 8) (hC : xC w d mX2_senseOf [.long a0, .int a1] P (xRl (some (.int r)) Rp)) (k : ∀ P1, Rp P1 → X w mX1_agrees (d + 1) Q 27 ls (.int r :: st) P1) : X w mX1_agrees (d + 1) Q 24 ls (.int a1 :: .long a0 :: st) P := X_callS (M := mX1_agrees) (MC := mX2_senseOf) (As := [.long a0, .int a1]) (dX1_agrees_24) calX2_senseOf xw_117 xw_118 rfl hC hst (fun v P2 h => by obtain ⟨h1, hR⟩ := h; cases h1; exact k P2 hR) (fun q P2 h => by cases h.1)
theorem sX1_agrees_24_t {a0 : Int64} {a1 : Int32} {q : Nat} {P1 : xH} (hst : (st.map fun v => v.category).sum ≤ 8) (hC : xC w d mX2_senseOf [.long a0, .int a1] P (xThr q P1)) (hq : Q (.threw q) P1) : X w mX1_agrees (d + 1) Q 24 ls (.int a1 :: .long a0 :: st) P := X_callS (M := mX1_agrees) (MC := mX2_senseOf) (As := [.long a0, .int a1]) (dX1_agrees_24) calX2_senseOf xw_117 xw_118 rfl hC hst (fun v P2 h => by cases h.1) (fun q2 P2 h => by obtain ⟨h1, rfl⟩ := h; cases h1; exact Xt_out rfl hq)
theorem dX1_agrees_27 : decode cX1_agrees 27 = .ok (.istore_n 3, 1) := by decide +kernel
theorem sX1_agrees_27 {l0 l1 l2 l3 : Option Value} {x : Int32} (hn : xnl l2 = true) (k : X w mX1_agrees d Q 28 [l0, l1, l2, some (.int x)] st P) : X w mX1_agrees d Q 27 [l0, l1, l2, l3] (.int x :: st) P := X_istore_n (M := mX1_agrees) (dX1_agrees_27) rfl (by decide) rfl (xnl_p (ls := [l0, l1, l2, l3]) (j := 2) rfl hn) k
theorem dX1_agrees_28 : decode cX1_agrees 28 = .ok (.iload_n 2, 1) := by decide +kernel
theorem sX1_agrees_28 {l0 l1 l3 : Option Value} {x : Int32} (k : X w mX1_agrees d Q 29 [l0, l1, some (.int x), l3] (.int x :: st) P) : X w mX1_agrees d Q 28 [l0, l1, some (.int x), l3] st P := X_iload_n (M := mX1_agrees) (dX1_agrees_28) rfl rfl k
theorem dX1_agrees_29 : decode cX1_agrees 29 = .ok (.ifCond .eq 13, 3) := by decide +kernel
theorem sX1_agrees_29 {x : Int32} (kt : x = 0 → X w mX1_agrees d Q 42 ls st P) (kf : ¬ x = 0 → X w mX1_agrees d Q 32 ls st P) : X w mX1_agrees d Q 29 ls (.int x :: st) P := X_if_eq (M := mX1_agrees) (dX1_agrees_29) (by decide) kt kf
theorem dX1_agrees_32 : decode cX1_agrees 32 = .ok (.iload_n 3, 1) := by decide +kernel
theorem sX1_agrees_32 {l0 l1 l2 : Option Value} {x : Int32} (k : X w mX1_agrees d Q 33 [l0, l1, l2, some (.int x)] (.int x :: st) P) : X w mX1_agrees d Q 32 [l0, l1, l2, some (.int x)] st P := X_iload_n (M := mX1_agrees) (dX1_agrees_32) rfl rfl k
theorem dX1_agrees_33 : decode cX1_agrees 33 = .ok (.iload_n 2, 1) := by decide +kernel
theorem sX1_agrees_33 {l0 l1 l3 : Option Value} {x : Int32} (k : X w mX1_agrees d Q 34 [l0, l1, some (.int x), l3] (.int x :: st) P) : X w mX1_agrees d Q 33 [l0, l1, some (.int x), l3] st P := X_iload_n (M := mX1_agrees) (dX1_agrees_33) rfl rfl k
theorem dX1_agrees_34 : decode cX1_agrees 34 = .ok (.if_icmp .eq 8, 3) := by decide +kernel
theorem sX1_agrees_34 {x y : Int32} (kt : x = y → X w mX1_agrees d Q 42 ls st P) (kf : ¬ x = y → X w mX1_agrees d Q 37 ls st P) : X w mX1_agrees d Q 34 ls (.int y :: .int x :: st) P := X_icmp_eq (M := mX1_agrees) (dX1_agrees_34) (by decide) kt kf
theorem dX1_agrees_37 : decode cX1_agrees 37 = .ok (.iload_n 3, 1) := by decide +kernel
theorem sX1_agrees_37 {l0 l1 l2 : Option Value} {x : Int32} (k : X w mX1_agrees d Q 38 [l0, l1, l2, some (.int x)] (.int x :: st) P) : X w mX1_agrees d Q 37 [l0, l1, l2, some (.int x)] st P := X_iload_n (M := mX1_agrees) (dX1_agrees_37) rfl rfl k
theorem dX1_agrees_38 : decode cX1_agrees 38 = .ok (.iconst 2, 1) := by decide +kernel
theorem sX1_agrees_38 (k : X w mX1_agrees d Q 39 ls (.int (2 : Int32) :: st) P) : X w mX1_agrees d Q 38 ls st P := X_iconst (M := mX1_agrees) (dX1_agrees_38) (by decide) k
theorem dX1_agrees_39 : decode cX1_agrees 39 = .ok (.if_icmp .ne 7, 3) := by decide +kernel
theorem sX1_agrees_39 {x y : Int32} (kt : ¬ x = y → X w mX1_agrees d Q 46 ls st P) (kf : x = y → X w mX1_agrees d Q 42 ls st P) : X w mX1_agrees d Q 39 ls (.int y :: .int x :: st) P := X_icmp_ne (M := mX1_agrees) (dX1_agrees_39) (by decide) kt kf
theorem dX1_agrees_42 : decode cX1_agrees 42 = .ok (.iconst 1, 1) := by decide +kernel
theorem sX1_agrees_42 (k : X w mX1_agrees d Q 43 ls (.int (1 : Int32) :: st) P) : X w mX1_agrees d Q 42 ls st P := X_iconst (M := mX1_agrees) (dX1_agrees_42) (by decide) k
theorem dX1_agrees_43 : decode cX1_agrees 43 = .ok (.goto 4, 3) := by decide +kernel
theorem sX1_agrees_43 (k : X w mX1_agrees d Q 47 ls st P) : X w mX1_agrees d Q 43 ls st P := X_goto (M := mX1_agrees) (dX1_agrees_43) (by decide) k
theorem dX1_agrees_46 : decode cX1_agrees 46 = .ok (.iconst 0, 1) := by decide +kernel
theorem sX1_agrees_46 (k : X w mX1_agrees d Q 47 ls (.int (0 : Int32) :: st) P) : X w mX1_agrees d Q 46 ls st P := X_iconst (M := mX1_agrees) (dX1_agrees_46) (by decide) k
theorem dX1_agrees_47 : decode cX1_agrees 47 = .ok (.ireturn, 1) := by decide +kernel
theorem sX1_agrees_47 {v : Int32} (hb : v = 0 ∨ v = 1) (hq : Q (.returned (some (.int v))) P) : X w mX1_agrees d Q 47 ls [.int v] P := X_zret (M := mX1_agrees) (ty := .boolean) (dX1_agrees_47) rfl (xz_n hb) hq
theorem dX1_disagreeing_0 : decode cX1_disagreeing 0 = .ok (.iconst 0, 1) := by decide +kernel
theorem sX1_disagreeing_0 (k : X w mX1_disagreeing d Q 1 ls (.int (0 : Int32) :: st) P) : X w mX1_disagreeing d Q 0 ls st P := X_iconst (M := mX1_disagreeing) (dX1_disagreeing_0) (by decide) k
theorem dX1_disagreeing_1 : decode cX1_disagreeing 1 = .ok (.istore_n 1, 1) := by decide +kernel
theorem sX1_disagreeing_1 {l0 l1 l2 : Option Value} {x : Int32} (hn : xnl l0 = true) (k : X w mX1_disagreeing d Q 2 [l0, some (.int x), l2] st P) : X w mX1_disagreeing d Q 1 [l0, l1, l2] (.int x :: st) P := X_istore_n (M := mX1_disagreeing) (dX1_disagreeing_1) rfl (by decide) rfl (xnl_p (ls := [l0, l1, l2]) (j := 0) rfl hn) k
theorem dX1_disagreeing_2 : decode cX1_disagreeing 2 = .ok (.iconst 0, 1) := by decide +kernel
theorem sX1_disagreeing_2 (k : X w mX1_disagreeing d Q 3 ls (.int (0 : Int32) :: st) P) : X w mX1_disagreeing d Q 2 ls st P := X_iconst (M := mX1_disagreeing) (dX1_disagreeing_2) (by decide) k
theorem dX1_disagreeing_3 : decode cX1_disagreeing 3 = .ok (.istore_n 2, 1) := by decide +kernel
theorem sX1_disagreeing_3 {l0 l1 l2 : Option Value} {x : Int32} (hn : xnl l1 = true) (k : X w mX1_disagreeing d Q 4 [l0, l1, some (.int x)] st P) : X w mX1_disagreeing d Q 3 [l0, l1, l2] (.int x :: st) P := X_istore_n (M := mX1_disagreeing) (dX1_disagreeing_3) rfl (by decide) rfl (xnl_p (ls := [l0, l1, l2]) (j := 1) rfl hn) k
theorem dX1_disagreeing_4 : decode cX1_disagreeing 4 = .ok (.iload_n 2, 1) := by decide +kernel
theorem sX1_disagreeing_4 {l0 l1 : Option Value} {x : Int32} (k : X w mX1_disagreeing d Q 5 [l0, l1, some (.int x)] (.int x :: st) P) : X w mX1_disagreeing d Q 4 [l0, l1, some (.int x)] st P := X_iload_n (M := mX1_disagreeing) (dX1_disagreeing_4) rfl rfl k
theorem dX1_disagreeing_5 : decode cX1_disagreeing 5 = .ok (.aload_n 0, 1) := by decide +kernel
theorem sX1_disagreeing_5 {l1 l2 : Option Value} {x : Nat} (k : X w mX1_disagreeing d Q 6 [some (.ref x), l1, l2] (.ref x :: st) P) : X w mX1_disagreeing d Q 5 [some (.ref x), l1, l2] st P := X_aload_n (M := mX1_disagreeing) (dX1_disagreeing_5) rfl rfl k
theorem dX1_disagreeing_6 : decode cX1_disagreeing 6 = .ok (.getfield 46, 3) := by decide +kernel
theorem sX1_disagreeing_6 {a : Nat} {fs : List Value} {v : Int32} (hP : P.1 a = some (xO 1 fs)) (hv : fs[11]? = some (.int v)) (k : X w mX1_disagreeing d Q 9 ls (.int v :: st) P) : X w mX1_disagreeing d Q 6 ls (.ref a :: st) P := X_get (M := mX1_disagreeing) (j := 11) (T := TX1) (dX1_disagreeing_6) rfl (by decide) x_in1 xw_110 hP hv k
theorem dX1_disagreeing_9 : decode cX1_disagreeing 9 = .ok (.if_icmp .ge 20, 3) := by decide +kernel
theorem sX1_disagreeing_9 {x y : Int32} (kt : y ≤ x → X w mX1_disagreeing d Q 29 ls st P) (kf : ¬ y ≤ x → X w mX1_disagreeing d Q 12 ls st P) : X w mX1_disagreeing d Q 9 ls (.int y :: .int x :: st) P := X_icmp_ge (M := mX1_disagreeing) (dX1_disagreeing_9) (by decide) kt kf
theorem dX1_disagreeing_12 : decode cX1_disagreeing 12 = .ok (.aload_n 0, 1) := by decide +kernel
theorem sX1_disagreeing_12 {l1 l2 : Option Value} {x : Nat} (k : X w mX1_disagreeing d Q 13 [some (.ref x), l1, l2] (.ref x :: st) P) : X w mX1_disagreeing d Q 12 [some (.ref x), l1, l2] st P := X_aload_n (M := mX1_disagreeing) (dX1_disagreeing_12) rfl rfl k
theorem dX1_disagreeing_13 : decode cX1_disagreeing 13 = .ok (.iload_n 2, 1) := by decide +kernel
theorem sX1_disagreeing_13 {l0 l1 : Option Value} {x : Int32} (k : X w mX1_disagreeing d Q 14 [l0, l1, some (.int x)] (.int x :: st) P) : X w mX1_disagreeing d Q 13 [l0, l1, some (.int x)] st P := X_iload_n (M := mX1_disagreeing) (dX1_disagreeing_13) rfl rfl k
theorem dX1_disagreeing_14 : decode cX1_disagreeing 14 = .ok (.invokevirtual 69, 3) := by decide +kernel
theorem sX1_disagreeing_14_g {b : Nat} {fs : List Value} {a0 : Int32} {Qc : Outcome → xH → Prop} (hst : (st.map fun v => v.category).sum ≤ 8) (hP : P.1 b = some (xO 1 fs)) (hC : xC w d mX1_agrees [.ref b, .int a0] P Qc) (kr : ∀ v P1, Qc (.returned v) P1 → X w mX1_disagreeing (d + 1) Q 17 ls (v.toList ++ st) P1) (kt : ∀ q P1, Qc (.threw q) P1 → Xt w mX1_disagreeing (d + 1) Q 14 ls st P1 q) : X w mX1_disagreeing (d + 1) Q 14 ls (.int a0 :: .ref b :: st) P := X_callV (M := mX1_disagreeing) (MC := mX1_agrees) (As := [.int a0]) (T := TX1) (dX1_disagreeing_14) calX1_agrees xw_119 xw_120 xw_121 rfl rfl hP hC hst kr kt
theorem sX1_disagreeing_14 {b : Nat} {fs : List Value} {a0 : Int32} {r : Int32} {P1 : xH} (hst : (st.map fun v => v.category).sum ≤ 8) (hP : P.1 b = some (xO 1 fs)) (hC : xC w d mX1_agrees [.ref b, .int a0] P (xRet (some (.int r)) P1)) (k : X w mX1_disagreeing (d + 1) Q 17 ls (.int r :: st) P1) : X w mX1_disagreeing (d + 1) Q 14 ls (.int a0 :: .ref b :: st) P := X_callV (M := mX1_disagreeing) (MC := mX1_agrees) (As := [.int a0]) (T := TX1) (dX1_disagreeing_14) calX1_agrees xw_119 xw_120 xw_121 rfl rfl hP hC hst (fun v P2 h => by obtain ⟨h1, rfl⟩ := h; cases h1; exact k) (fun q P2 h => by cases h.1)
theorem sX1_disagreeing_14_r {b : Nat} {fs : List Value} {a0 : Int32} {r : Int32} {Rp : xH → Prop} (hst : (st.map fun v => v.category).sum ≤ 8) (hP : P.1 b = some (xO 1 fs)) (hC : xC w d mX1_agrees [.ref b, .int a0] P (xRl (some (.int r)) Rp)) (k : ∀ P1, Rp P1 → X w mX1_disagreeing (d + 1) Q 17 ls (.int r :: st) P1) : X w mX1_disagreeing (d + 1) Q 14 ls (.int a0 :: .ref b :: st) P := X_callV (M := mX1_disagreeing) (MC := mX1_agrees) (As := [.int a0]) (T := TX1) (dX1_disagreeing_14) calX1_agrees xw_119 xw_120 xw_121 rfl rfl hP hC hst (fun v P2 h => by obtain ⟨h1, hR⟩ := h; cases h1; exact k P2 hR) (fun q P2 h => by cases h.1)
theorem sX1_disagreeing_14_t {b : Nat} {fs : List Value} {a0 : Int32} {q : Nat} {P1 : xH} (hst : (st.map fun v => v.category).sum ≤ 8) (hP : P.1 b = some (xO 1 fs)) (hC : xC w d mX1_agrees [.ref b, .int a0] P (xThr q P1)) (hq : Q (.threw q) P1) : X w mX1_disagreeing (d + 1) Q 14 ls (.int a0 :: .ref b :: st) P := X_callV (M := mX1_disagreeing) (MC := mX1_agrees) (As := [.int a0]) (T := TX1) (dX1_disagreeing_14) calX1_agrees xw_119 xw_120 xw_121 rfl rfl hP hC hst (fun v P2 h => by cases h.1) (fun q2 P2 h => by obtain ⟨h1, rfl⟩ := h; cases h1; exact Xt_out rfl hq)
theorem dX1_disagreeing_17 : decode cX1_disagreeing 17 = .ok (.ifCond .ne 6, 3) := by decide +kernel
theorem sX1_disagreeing_17 {x : Int32} (kt : ¬ x = 0 → X w mX1_disagreeing d Q 23 ls st P) (kf : x = 0 → X w mX1_disagreeing d Q 20 ls st P) : X w mX1_disagreeing d Q 17 ls (.int x :: st) P := X_if_ne (M := mX1_disagreeing) (dX1_disagreeing_17) (by decide) kt kf
theorem dX1_disagreeing_20 : decode cX1_disagreeing 20 = .ok (.iinc 1 1, 3) := by decide +kernel
theorem sX1_disagreeing_20 {l0 l2 : Option Value} {x : Int32} (hn : xnl l0 = true) (k : X w mX1_disagreeing d Q 23 [l0, some (.int (x + (1 : Int32))), l2] st P) : X w mX1_disagreeing d Q 20 [l0, some (.int x), l2] st P := X_iinc (M := mX1_disagreeing) (dX1_disagreeing_20) rfl (by rfl) (by decide) rfl (xnl_p (ls := [l0, some (.int x), l2]) (j := 0) rfl hn) k
theorem dX1_disagreeing_23 : decode cX1_disagreeing 23 = .ok (.iinc 2 1, 3) := by decide +kernel
theorem sX1_disagreeing_23 {l0 l1 : Option Value} {x : Int32} (hn : xnl l1 = true) (k : X w mX1_disagreeing d Q 26 [l0, l1, some (.int (x + (1 : Int32)))] st P) : X w mX1_disagreeing d Q 23 [l0, l1, some (.int x)] st P := X_iinc (M := mX1_disagreeing) (dX1_disagreeing_23) rfl (by rfl) (by decide) rfl (xnl_p (ls := [l0, l1, some (.int x)]) (j := 1) rfl hn) k
theorem dX1_disagreeing_26 : decode cX1_disagreeing 26 = .ok (.goto (-22), 3) := by decide +kernel
theorem sX1_disagreeing_26 (k : X w mX1_disagreeing d Q 4 ls st P) : X w mX1_disagreeing d Q 26 ls st P := X_goto (M := mX1_disagreeing) (dX1_disagreeing_26) (by decide) k
theorem dX1_disagreeing_29 : decode cX1_disagreeing 29 = .ok (.iload_n 1, 1) := by decide +kernel
theorem sX1_disagreeing_29 {l0 l2 : Option Value} {x : Int32} (k : X w mX1_disagreeing d Q 30 [l0, some (.int x), l2] (.int x :: st) P) : X w mX1_disagreeing d Q 29 [l0, some (.int x), l2] st P := X_iload_n (M := mX1_disagreeing) (dX1_disagreeing_29) rfl rfl k
theorem dX1_disagreeing_30 : decode cX1_disagreeing 30 = .ok (.ireturn, 1) := by decide +kernel
theorem sX1_disagreeing_30 {v : Int32} (hq : Q (.returned (some (.int v))) P) : X w mX1_disagreeing d Q 30 ls [.int v] P := X_iret (M := mX1_disagreeing) (dX1_disagreeing_30) rfl hq
theorem dX1_comesBefore_0 : decode cX1_comesBefore 0 = .ok (.aload_n 0, 1) := by decide +kernel
theorem sX1_comesBefore_0 {l1 : Option Value} {x : Nat} (k : X w mX1_comesBefore d Q 1 [some (.ref x), l1] (.ref x :: st) P) : X w mX1_comesBefore d Q 0 [some (.ref x), l1] st P := X_aload_n (M := mX1_comesBefore) (dX1_comesBefore_0) rfl rfl k
theorem dX1_comesBefore_1 : decode cX1_comesBefore 1 = .ok (.getfield 18, 3) := by decide +kernel
theorem sX1_comesBefore_1 {a : Nat} {fs : List Value} {v : Nat} (hP : P.1 a = some (xO 1 fs)) (hv : fs[6]? = some (.ref v)) (k : X w mX1_comesBefore d Q 4 ls (.ref v :: st) P) : X w mX1_comesBefore d Q 1 ls (.ref a :: st) P := X_get (M := mX1_comesBefore) (j := 6) (T := TX1) (dX1_comesBefore_1) rfl (by decide) x_in1 xw_101 hP hv k
theorem dX1_comesBefore_4 : decode cX1_comesBefore 4 = .ok (.iconst 0, 1) := by decide +kernel
theorem sX1_comesBefore_4 (k : X w mX1_comesBefore d Q 5 ls (.int (0 : Int32) :: st) P) : X w mX1_comesBefore d Q 4 ls st P := X_iconst (M := mX1_comesBefore) (dX1_comesBefore_4) (by decide) k
theorem dX1_comesBefore_5 : decode cX1_comesBefore 5 = .ok (.iaload, 1) := by decide +kernel
theorem sX1_comesBefore_5 {a n : Nat} {f : Nat → Int32} {i : Int32} (hP : P.1 a = some (xA 0 n f)) (hi : vp_in i n) (k : X w mX1_comesBefore d Q 6 ls (.int (f i.toNatClampNeg) :: st) P) : X w mX1_comesBefore d Q 5 ls (.int i :: .ref a :: st) P := X_iald (M := mX1_comesBefore) (dX1_comesBefore_5) hP hi k
theorem dX1_comesBefore_6 : decode cX1_comesBefore 6 = .ok (.aload_n 1, 1) := by decide +kernel
theorem sX1_comesBefore_6 {l0 : Option Value} {x : Nat} (k : X w mX1_comesBefore d Q 7 [l0, some (.ref x)] (.ref x :: st) P) : X w mX1_comesBefore d Q 6 [l0, some (.ref x)] st P := X_aload_n (M := mX1_comesBefore) (dX1_comesBefore_6) rfl rfl k
theorem dX1_comesBefore_7 : decode cX1_comesBefore 7 = .ok (.getfield 18, 3) := by decide +kernel
theorem sX1_comesBefore_7 {a : Nat} {fs : List Value} {v : Nat} (hP : P.1 a = some (xO 1 fs)) (hv : fs[6]? = some (.ref v)) (k : X w mX1_comesBefore d Q 10 ls (.ref v :: st) P) : X w mX1_comesBefore d Q 7 ls (.ref a :: st) P := X_get (M := mX1_comesBefore) (j := 6) (T := TX1) (dX1_comesBefore_7) rfl (by decide) x_in1 xw_101 hP hv k
theorem dX1_comesBefore_10 : decode cX1_comesBefore 10 = .ok (.iconst 0, 1) := by decide +kernel
theorem sX1_comesBefore_10 (k : X w mX1_comesBefore d Q 11 ls (.int (0 : Int32) :: st) P) : X w mX1_comesBefore d Q 10 ls st P := X_iconst (M := mX1_comesBefore) (dX1_comesBefore_10) (by decide) k
theorem dX1_comesBefore_11 : decode cX1_comesBefore 11 = .ok (.iaload, 1) := by decide +kernel
theorem sX1_comesBefore_11 {a n : Nat} {f : Nat → Int32} {i : Int32} (hP : P.1 a = some (xA 0 n f)) (hi : vp_in i n) (k : X w mX1_comesBefore d Q 12 ls (.int (f i.toNatClampNeg) :: st) P) : X w mX1_comesBefore d Q 11 ls (.int i :: .ref a :: st) P := X_iald (M := mX1_comesBefore) (dX1_comesBefore_11) hP hi k
theorem dX1_comesBefore_12 : decode cX1_comesBefore 12 = .ok (.if_icmp .eq 24, 3) := by decide +kernel
theorem sX1_comesBefore_12 {x y : Int32} (kt : x = y → X w mX1_comesBefore d Q 36 ls st P) (kf : ¬ x = y → X w mX1_comesBefore d Q 15 ls st P) : X w mX1_comesBefore d Q 12 ls (.int y :: .int x :: st) P := X_icmp_eq (M := mX1_comesBefore) (dX1_comesBefore_12) (by decide) kt kf
theorem dX1_comesBefore_15 : decode cX1_comesBefore 15 = .ok (.aload_n 0, 1) := by decide +kernel
theorem sX1_comesBefore_15 {l1 : Option Value} {x : Nat} (k : X w mX1_comesBefore d Q 16 [some (.ref x), l1] (.ref x :: st) P) : X w mX1_comesBefore d Q 15 [some (.ref x), l1] st P := X_aload_n (M := mX1_comesBefore) (dX1_comesBefore_15) rfl rfl k
theorem dX1_comesBefore_16 : decode cX1_comesBefore 16 = .ok (.getfield 18, 3) := by decide +kernel
theorem sX1_comesBefore_16 {a : Nat} {fs : List Value} {v : Nat} (hP : P.1 a = some (xO 1 fs)) (hv : fs[6]? = some (.ref v)) (k : X w mX1_comesBefore d Q 19 ls (.ref v :: st) P) : X w mX1_comesBefore d Q 16 ls (.ref a :: st) P := X_get (M := mX1_comesBefore) (j := 6) (T := TX1) (dX1_comesBefore_16) rfl (by decide) x_in1 xw_101 hP hv k
theorem dX1_comesBefore_19 : decode cX1_comesBefore 19 = .ok (.iconst 0, 1) := by decide +kernel
theorem sX1_comesBefore_19 (k : X w mX1_comesBefore d Q 20 ls (.int (0 : Int32) :: st) P) : X w mX1_comesBefore d Q 19 ls st P := X_iconst (M := mX1_comesBefore) (dX1_comesBefore_19) (by decide) k
theorem dX1_comesBefore_20 : decode cX1_comesBefore 20 = .ok (.iaload, 1) := by decide +kernel
theorem sX1_comesBefore_20 {a n : Nat} {f : Nat → Int32} {i : Int32} (hP : P.1 a = some (xA 0 n f)) (hi : vp_in i n) (k : X w mX1_comesBefore d Q 21 ls (.int (f i.toNatClampNeg) :: st) P) : X w mX1_comesBefore d Q 20 ls (.int i :: .ref a :: st) P := X_iald (M := mX1_comesBefore) (dX1_comesBefore_20) hP hi k
theorem dX1_comesBefore_21 : decode cX1_comesBefore 21 = .ok (.aload_n 1, 1) := by decide +kernel
theorem sX1_comesBefore_21 {l0 : Option Value} {x : Nat} (k : X w mX1_comesBefore d Q 22 [l0, some (.ref x)] (.ref x :: st) P) : X w mX1_comesBefore d Q 21 [l0, some (.ref x)] st P := X_aload_n (M := mX1_comesBefore) (dX1_comesBefore_21) rfl rfl k
theorem dX1_comesBefore_22 : decode cX1_comesBefore 22 = .ok (.getfield 18, 3) := by decide +kernel
theorem sX1_comesBefore_22 {a : Nat} {fs : List Value} {v : Nat} (hP : P.1 a = some (xO 1 fs)) (hv : fs[6]? = some (.ref v)) (k : X w mX1_comesBefore d Q 25 ls (.ref v :: st) P) : X w mX1_comesBefore d Q 22 ls (.ref a :: st) P := X_get (M := mX1_comesBefore) (j := 6) (T := TX1) (dX1_comesBefore_22) rfl (by decide) x_in1 xw_101 hP hv k
theorem dX1_comesBefore_25 : decode cX1_comesBefore 25 = .ok (.iconst 0, 1) := by decide +kernel
theorem sX1_comesBefore_25 (k : X w mX1_comesBefore d Q 26 ls (.int (0 : Int32) :: st) P) : X w mX1_comesBefore d Q 25 ls st P := X_iconst (M := mX1_comesBefore) (dX1_comesBefore_25) (by decide) k
theorem dX1_comesBefore_26 : decode cX1_comesBefore 26 = .ok (.iaload, 1) := by decide +kernel
theorem sX1_comesBefore_26 {a n : Nat} {f : Nat → Int32} {i : Int32} (hP : P.1 a = some (xA 0 n f)) (hi : vp_in i n) (k : X w mX1_comesBefore d Q 27 ls (.int (f i.toNatClampNeg) :: st) P) : X w mX1_comesBefore d Q 26 ls (.int i :: .ref a :: st) P := X_iald (M := mX1_comesBefore) (dX1_comesBefore_26) hP hi k
theorem dX1_comesBefore_27 : decode cX1_comesBefore 27 = .ok (.if_icmp .ge 7, 3) := by decide +kernel
theorem sX1_comesBefore_27 {x y : Int32} (kt : y ≤ x → X w mX1_comesBefore d Q 34 ls st P) (kf : ¬ y ≤ x → X w mX1_comesBefore d Q 30 ls st P) : X w mX1_comesBefore d Q 27 ls (.int y :: .int x :: st) P := X_icmp_ge (M := mX1_comesBefore) (dX1_comesBefore_27) (by decide) kt kf
theorem dX1_comesBefore_30 : decode cX1_comesBefore 30 = .ok (.iconst 1, 1) := by decide +kernel
theorem sX1_comesBefore_30 (k : X w mX1_comesBefore d Q 31 ls (.int (1 : Int32) :: st) P) : X w mX1_comesBefore d Q 30 ls st P := X_iconst (M := mX1_comesBefore) (dX1_comesBefore_30) (by decide) k
theorem dX1_comesBefore_31 : decode cX1_comesBefore 31 = .ok (.goto 4, 3) := by decide +kernel
theorem sX1_comesBefore_31 (k : X w mX1_comesBefore d Q 35 ls st P) : X w mX1_comesBefore d Q 31 ls st P := X_goto (M := mX1_comesBefore) (dX1_comesBefore_31) (by decide) k
theorem dX1_comesBefore_34 : decode cX1_comesBefore 34 = .ok (.iconst 0, 1) := by decide +kernel
theorem sX1_comesBefore_34 (k : X w mX1_comesBefore d Q 35 ls (.int (0 : Int32) :: st) P) : X w mX1_comesBefore d Q 34 ls st P := X_iconst (M := mX1_comesBefore) (dX1_comesBefore_34) (by decide) k
theorem dX1_comesBefore_35 : decode cX1_comesBefore 35 = .ok (.ireturn, 1) := by decide +kernel
theorem sX1_comesBefore_35 {v : Int32} (hb : v = 0 ∨ v = 1) (hq : Q (.returned (some (.int v))) P) : X w mX1_comesBefore d Q 35 ls [.int v] P := X_zret (M := mX1_comesBefore) (ty := .boolean) (dX1_comesBefore_35) rfl (xz_n hb) hq
theorem dX1_comesBefore_36 : decode cX1_comesBefore 36 = .ok (.aload_n 0, 1) := by decide +kernel
theorem sX1_comesBefore_36 {l1 : Option Value} {x : Nat} (k : X w mX1_comesBefore d Q 37 [some (.ref x), l1] (.ref x :: st) P) : X w mX1_comesBefore d Q 36 [some (.ref x), l1] st P := X_aload_n (M := mX1_comesBefore) (dX1_comesBefore_36) rfl rfl k
theorem dX1_comesBefore_37 : decode cX1_comesBefore 37 = .ok (.getfield 32, 3) := by decide +kernel
theorem sX1_comesBefore_37 {a : Nat} {fs : List Value} {v : Int64} (hP : P.1 a = some (xO 1 fs)) (hv : fs[0]? = some (.long v)) (k : X w mX1_comesBefore d Q 40 ls (.long v :: st) P) : X w mX1_comesBefore d Q 37 ls (.ref a :: st) P := X_get (M := mX1_comesBefore) (j := 0) (T := TX1) (dX1_comesBefore_37) rfl (by decide) x_in1 xw_106 hP hv k
theorem dX1_comesBefore_40 : decode cX1_comesBefore 40 = .ok (.aload_n 1, 1) := by decide +kernel
theorem sX1_comesBefore_40 {l0 : Option Value} {x : Nat} (k : X w mX1_comesBefore d Q 41 [l0, some (.ref x)] (.ref x :: st) P) : X w mX1_comesBefore d Q 40 [l0, some (.ref x)] st P := X_aload_n (M := mX1_comesBefore) (dX1_comesBefore_40) rfl rfl k
theorem dX1_comesBefore_41 : decode cX1_comesBefore 41 = .ok (.getfield 32, 3) := by decide +kernel
theorem sX1_comesBefore_41 {a : Nat} {fs : List Value} {v : Int64} (hP : P.1 a = some (xO 1 fs)) (hv : fs[0]? = some (.long v)) (k : X w mX1_comesBefore d Q 44 ls (.long v :: st) P) : X w mX1_comesBefore d Q 41 ls (.ref a :: st) P := X_get (M := mX1_comesBefore) (j := 0) (T := TX1) (dX1_comesBefore_41) rfl (by decide) x_in1 xw_106 hP hv k
theorem dX1_comesBefore_44 : decode cX1_comesBefore 44 = .ok (.lcmp, 1) := by decide +kernel
theorem sX1_comesBefore_44 {x y : Int64} (k : X w mX1_comesBefore d Q 45 ls (.int (lg_cmp x y) :: st) P) : X w mX1_comesBefore d Q 44 ls (.long y :: .long x :: st) P := X_lcmp (M := mX1_comesBefore) (dX1_comesBefore_44) k
theorem dX1_comesBefore_45 : decode cX1_comesBefore 45 = .ok (.ifCond .ge 7, 3) := by decide +kernel
theorem sX1_comesBefore_45 {x : Int32} (kt : 0 ≤ x → X w mX1_comesBefore d Q 52 ls st P) (kf : ¬ 0 ≤ x → X w mX1_comesBefore d Q 48 ls st P) : X w mX1_comesBefore d Q 45 ls (.int x :: st) P := X_if_ge (M := mX1_comesBefore) (dX1_comesBefore_45) (by decide) kt kf
theorem dX1_comesBefore_48 : decode cX1_comesBefore 48 = .ok (.iconst 1, 1) := by decide +kernel
theorem sX1_comesBefore_48 (k : X w mX1_comesBefore d Q 49 ls (.int (1 : Int32) :: st) P) : X w mX1_comesBefore d Q 48 ls st P := X_iconst (M := mX1_comesBefore) (dX1_comesBefore_48) (by decide) k
theorem dX1_comesBefore_49 : decode cX1_comesBefore 49 = .ok (.goto 4, 3) := by decide +kernel
theorem sX1_comesBefore_49 (k : X w mX1_comesBefore d Q 53 ls st P) : X w mX1_comesBefore d Q 49 ls st P := X_goto (M := mX1_comesBefore) (dX1_comesBefore_49) (by decide) k
theorem dX1_comesBefore_52 : decode cX1_comesBefore 52 = .ok (.iconst 0, 1) := by decide +kernel
theorem sX1_comesBefore_52 (k : X w mX1_comesBefore d Q 53 ls (.int (0 : Int32) :: st) P) : X w mX1_comesBefore d Q 52 ls st P := X_iconst (M := mX1_comesBefore) (dX1_comesBefore_52) (by decide) k
theorem dX1_comesBefore_53 : decode cX1_comesBefore 53 = .ok (.ireturn, 1) := by decide +kernel
theorem sX1_comesBefore_53 {v : Int32} (hb : v = 0 ∨ v = 1) (hq : Q (.returned (some (.int v))) P) : X w mX1_comesBefore d Q 53 ls [.int v] P := X_zret (M := mX1_comesBefore) (ty := .boolean) (dX1_comesBefore_53) rfl (xz_n hb) hq
theorem dX3_init_0 : decode cX3_init 0 = .ok (.aload_n 0, 1) := by decide +kernel
theorem sX3_init_0 {x : Nat} (k : X w mX3_init d Q 1 [some (.ref x)] (.ref x :: st) P) : X w mX3_init d Q 0 [some (.ref x)] st P := X_aload_n (M := mX3_init) (dX3_init_0) rfl rfl k
theorem dX3_init_1 : decode cX3_init 1 = .ok (.invokespecial 3, 3) := by decide +kernel
theorem sX3_init_1 {a : Nat} (hst : (st.map fun v => v.category).sum ≤ 8) (k : X w mX3_init d Q 4 ls st P) : X w mX3_init d Q 1 ls (.ref a :: st) P := X_objInit (M := mX3_init) (dX3_init_1) xw_122 xw_20 xw_21 hst k
theorem dX3_init_4 : decode cX3_init 4 = .ok (.aload_n 0, 1) := by decide +kernel
theorem sX3_init_4 {x : Nat} (k : X w mX3_init d Q 5 [some (.ref x)] (.ref x :: st) P) : X w mX3_init d Q 4 [some (.ref x)] st P := X_aload_n (M := mX3_init) (dX3_init_4) rfl rfl k
theorem dX3_init_5 : decode cX3_init 5 = .ok (.bipush 6, 2) := by decide +kernel
theorem sX3_init_5 (k : X w mX3_init d Q 7 ls (.int (6 : Int32) :: st) P) : X w mX3_init d Q 5 ls st P := X_bipush (M := mX3_init) (dX3_init_5) (by decide) k
theorem dX3_init_7 : decode cX3_init 7 = .ok (.newarray .int, 2) := by decide +kernel
theorem sX3_init_7 {n : Int32} {N : Nat} (hn : ¬ n < 0) (hN : n.toNatClampNeg = N) (hb : N ≤ 10000) (hr1 : P.2.1 + 1 ≤ w.z + 601024) (hr2 : P.2.2 + N ≤ 7293034) (k : X w mX3_init d Q 9 ls (.ref P.2.1 :: st) (xal P (xA 0 N (fun _ => 0)) N)) : X w mX3_init d Q 7 ls (.int n :: st) P := X_newaI (M := mX3_init) (dX3_init_7) (Or.inl ⟨rfl, rfl⟩) xw_22 hn hN hb hr1 hr2 k
theorem dX3_init_9 : decode cX3_init 9 = .ok (.putfield 9, 3) := by decide +kernel
theorem sX3_init_9 {a : Nat} {fs : List Value} {v : Nat} (hP : P.1 a = some (xO 2 fs)) (hl : 0 < fs.length) (k : X w mX3_init d Q 12 ls st (xs P a (xO 2 (fs.set 0 (.ref v))))) : X w mX3_init d Q 9 ls (.ref v :: .ref a :: st) P := X_putF (M := mX3_init) (j := 0) (T := TX3) (dX3_init_9) rfl (by decide) x_c3 xw_123 rfl rfl rfl hP rfl rfl hl k
theorem dX3_init_12 : decode cX3_init 12 = .ok (.aload_n 0, 1) := by decide +kernel
theorem sX3_init_12 {x : Nat} (k : X w mX3_init d Q 13 [some (.ref x)] (.ref x :: st) P) : X w mX3_init d Q 12 [some (.ref x)] st P := X_aload_n (M := mX3_init) (dX3_init_12) rfl rfl k
theorem dX3_init_13 : decode cX3_init 13 = .ok (.sipush 128, 3) := by decide +kernel
theorem sX3_init_13 (k : X w mX3_init d Q 16 ls (.int (128 : Int32) :: st) P) : X w mX3_init d Q 13 ls st P := X_sipush (M := mX3_init) (dX3_init_13) (by decide) k
theorem dX3_init_16 : decode cX3_init 16 = .ok (.newarray .long, 2) := by decide +kernel
theorem sX3_init_16 {n : Int32} {N : Nat} (hn : ¬ n < 0) (hN : n.toNatClampNeg = N) (hb : N ≤ 10000) (hr1 : P.2.1 + 1 ≤ w.z + 601024) (hr2 : P.2.2 + N ≤ 7293034) (k : X w mX3_init d Q 18 ls (.ref P.2.1 :: st) (xal P (xJ N (fun _ => 0)) N)) : X w mX3_init d Q 16 ls (.int n :: st) P := X_newaJ (M := mX3_init) (dX3_init_16) xw_60 hn hN hb hr1 hr2 k
theorem dX3_init_18 : decode cX3_init 18 = .ok (.putfield 15, 3) := by decide +kernel
theorem sX3_init_18 {a : Nat} {fs : List Value} {v : Nat} (hP : P.1 a = some (xO 2 fs)) (hl : 1 < fs.length) (k : X w mX3_init d Q 21 ls st (xs P a (xO 2 (fs.set 1 (.ref v))))) : X w mX3_init d Q 18 ls (.ref v :: .ref a :: st) P := X_putF (M := mX3_init) (j := 1) (T := TX3) (dX3_init_18) rfl (by decide) x_c3 xw_124 rfl rfl rfl hP rfl rfl hl k
theorem dX3_init_21 : decode cX3_init 21 = .ok (.aload_n 0, 1) := by decide +kernel
theorem sX3_init_21 {x : Nat} (k : X w mX3_init d Q 22 [some (.ref x)] (.ref x :: st) P) : X w mX3_init d Q 21 [some (.ref x)] st P := X_aload_n (M := mX3_init) (dX3_init_21) rfl rfl k
theorem dX3_init_22 : decode cX3_init 22 = .ok (.sipush 128, 3) := by decide +kernel
theorem sX3_init_22 (k : X w mX3_init d Q 25 ls (.int (128 : Int32) :: st) P) : X w mX3_init d Q 22 ls st P := X_sipush (M := mX3_init) (dX3_init_22) (by decide) k
theorem dX3_init_25 : decode cX3_init 25 = .ok (.newarray .long, 2) := by decide +kernel
theorem sX3_init_25 {n : Int32} {N : Nat} (hn : ¬ n < 0) (hN : n.toNatClampNeg = N) (hb : N ≤ 10000) (hr1 : P.2.1 + 1 ≤ w.z + 601024) (hr2 : P.2.2 + N ≤ 7293034) (k : X w mX3_init d Q 27 ls (.ref P.2.1 :: st) (xal P (xJ N (fun _ => 0)) N)) : X w mX3_init d Q 25 ls (.int n :: st) P := X_newaJ (M := mX3_init) (dX3_init_25) xw_60 hn hN hb hr1 hr2 k
theorem dX3_init_27 : decode cX3_init 27 = .ok (.putfield 19, 3) := by decide +kernel
theorem sX3_init_27 {a : Nat} {fs : List Value} {v : Nat} (hP : P.1 a = some (xO 2 fs)) (hl : 2 < fs.length) (k : X w mX3_init d Q 30 ls st (xs P a (xO 2 (fs.set 2 (.ref v))))) : X w mX3_init d Q 27 ls (.ref v :: .ref a :: st) P := X_putF (M := mX3_init) (j := 2) (T := TX3) (dX3_init_27) rfl (by decide) x_c3 xw_125 rfl rfl rfl hP rfl rfl hl k
theorem dX3_init_30 : decode cX3_init 30 = .ok (.return_, 1) := by decide +kernel
theorem sX3_init_30 (hq : Q (.returned none) P) : X w mX3_init d Q 30 ls [] P := X_vret (M := mX3_init) (dX3_init_30) rfl hq
theorem dX3_match_0 : decode cX3_match 0 = .ok (.aload_n 1, 1) := by decide +kernel
theorem sX3_match_0 {l0 l2 l3 : Option Value} {x : Nat} (k : X w mX3_match d Q 1 [l0, some (.ref x), l2, l3] (.ref x :: st) P) : X w mX3_match d Q 0 [l0, some (.ref x), l2, l3] st P := X_aload_n (M := mX3_match) (dX3_match_0) rfl rfl k
theorem dX3_match_1 : decode cX3_match 1 = .ok (.getfield 22, 3) := by decide +kernel
theorem sX3_match_1 {a : Nat} {fs : List Value} {v : Int32} (hP : P.1 a = some (xO 1 fs)) (hv : fs[3]? = some (.int v)) (k : X w mX3_match d Q 4 ls (.int v :: st) P) : X w mX3_match d Q 1 ls (.ref a :: st) P := X_getN (M := mX3_match) (j := 3) (T := TX1) (dX3_match_1) rfl (by decide) x_in1 xw_126 hP hv k
theorem dX3_match_4 : decode cX3_match 4 = .ok (.aload_n 2, 1) := by decide +kernel
theorem sX3_match_4 {l0 l1 l3 : Option Value} {x : Nat} (k : X w mX3_match d Q 5 [l0, l1, some (.ref x), l3] (.ref x :: st) P) : X w mX3_match d Q 4 [l0, l1, some (.ref x), l3] st P := X_aload_n (M := mX3_match) (dX3_match_4) rfl rfl k
theorem dX3_match_5 : decode cX3_match 5 = .ok (.getfield 22, 3) := by decide +kernel
theorem sX3_match_5 {a : Nat} {fs : List Value} {v : Int32} (hP : P.1 a = some (xO 1 fs)) (hv : fs[3]? = some (.int v)) (k : X w mX3_match d Q 8 ls (.int v :: st) P) : X w mX3_match d Q 5 ls (.ref a :: st) P := X_getN (M := mX3_match) (j := 3) (T := TX1) (dX3_match_5) rfl (by decide) x_in1 xw_126 hP hv k
theorem dX3_match_8 : decode cX3_match 8 = .ok (.if_icmp .eq 5, 3) := by decide +kernel
theorem sX3_match_8 {x y : Int32} (kt : x = y → X w mX3_match d Q 13 ls st P) (kf : ¬ x = y → X w mX3_match d Q 11 ls st P) : X w mX3_match d Q 8 ls (.int y :: .int x :: st) P := X_icmp_eq (M := mX3_match) (dX3_match_8) (by decide) kt kf
theorem dX3_match_11 : decode cX3_match 11 = .ok (.iconst 0, 1) := by decide +kernel
theorem sX3_match_11 (k : X w mX3_match d Q 12 ls (.int (0 : Int32) :: st) P) : X w mX3_match d Q 11 ls st P := X_iconst (M := mX3_match) (dX3_match_11) (by decide) k
theorem dX3_match_12 : decode cX3_match 12 = .ok (.ireturn, 1) := by decide +kernel
theorem sX3_match_12 {v : Int32} (hb : v = 0 ∨ v = 1) (hq : Q (.returned (some (.int v))) P) : X w mX3_match d Q 12 ls [.int v] P := X_zret (M := mX3_match) (ty := .boolean) (dX3_match_12) rfl (xz_n hb) hq
theorem dX3_match_13 : decode cX3_match 13 = .ok (.aload_n 0, 1) := by decide +kernel
theorem sX3_match_13 {l1 l2 l3 : Option Value} {x : Nat} (k : X w mX3_match d Q 14 [some (.ref x), l1, l2, l3] (.ref x :: st) P) : X w mX3_match d Q 13 [some (.ref x), l1, l2, l3] st P := X_aload_n (M := mX3_match) (dX3_match_13) rfl rfl k
theorem dX3_match_14 : decode cX3_match 14 = .ok (.aload_n 1, 1) := by decide +kernel
theorem sX3_match_14 {l0 l2 l3 : Option Value} {x : Nat} (k : X w mX3_match d Q 15 [l0, some (.ref x), l2, l3] (.ref x :: st) P) : X w mX3_match d Q 14 [l0, some (.ref x), l2, l3] st P := X_aload_n (M := mX3_match) (dX3_match_14) rfl rfl k
theorem dX3_match_15 : decode cX3_match 15 = .ok (.getfield 22, 3) := by decide +kernel
theorem sX3_match_15 {a : Nat} {fs : List Value} {v : Int32} (hP : P.1 a = some (xO 1 fs)) (hv : fs[3]? = some (.int v)) (k : X w mX3_match d Q 18 ls (.int v :: st) P) : X w mX3_match d Q 15 ls (.ref a :: st) P := X_getN (M := mX3_match) (j := 3) (T := TX1) (dX3_match_15) rfl (by decide) x_in1 xw_126 hP hv k
theorem dX3_match_18 : decode cX3_match 18 = .ok (.putfield 28, 3) := by decide +kernel
theorem sX3_match_18 {a : Nat} {fs : List Value} {v : Int32} (hP : P.1 a = some (xO 2 fs)) (hl : 3 < fs.length) (k : X w mX3_match d Q 21 ls st (xs P a (xO 2 (fs.set 3 (.int v))))) : X w mX3_match d Q 18 ls (.int v :: .ref a :: st) P := X_put (M := mX3_match) (j := 3) (T := TX3) (dX3_match_18) rfl (by decide) x_c3 xw_127 rfl hP rfl rfl hl k
theorem dX3_match_21 : decode cX3_match 21 = .ok (.aload_n 0, 1) := by decide +kernel
theorem sX3_match_21 {l1 l2 l3 : Option Value} {x : Nat} (k : X w mX3_match d Q 22 [some (.ref x), l1, l2, l3] (.ref x :: st) P) : X w mX3_match d Q 21 [some (.ref x), l1, l2, l3] st P := X_aload_n (M := mX3_match) (dX3_match_21) rfl rfl k
theorem dX3_match_22 : decode cX3_match 22 = .ok (.getfield 15, 3) := by decide +kernel
theorem sX3_match_22 {a : Nat} {fs : List Value} {v : Nat} (hP : P.1 a = some (xO 2 fs)) (hv : fs[1]? = some (.ref v)) (k : X w mX3_match d Q 25 ls (.ref v :: st) P) : X w mX3_match d Q 22 ls (.ref a :: st) P := X_get (M := mX3_match) (j := 1) (T := TX3) (dX3_match_22) rfl (by decide) x_in3 xw_124 hP hv k
theorem dX3_match_25 : decode cX3_match 25 = .ok (.iconst 1, 1) := by decide +kernel
theorem sX3_match_25 (k : X w mX3_match d Q 26 ls (.int (1 : Int32) :: st) P) : X w mX3_match d Q 25 ls st P := X_iconst (M := mX3_match) (dX3_match_25) (by decide) k
theorem dX3_match_26 : decode cX3_match 26 = .ok (.aload_n 1, 1) := by decide +kernel
theorem sX3_match_26 {l0 l2 l3 : Option Value} {x : Nat} (k : X w mX3_match d Q 27 [l0, some (.ref x), l2, l3] (.ref x :: st) P) : X w mX3_match d Q 26 [l0, some (.ref x), l2, l3] st P := X_aload_n (M := mX3_match) (dX3_match_26) rfl rfl k
theorem dX3_match_27 : decode cX3_match 27 = .ok (.getfield 29, 3) := by decide +kernel
theorem sX3_match_27 {a : Nat} {fs : List Value} {v : Nat} (hP : P.1 a = some (xO 1 fs)) (hv : fs[5]? = some (.ref v)) (k : X w mX3_match d Q 30 ls (.ref v :: st) P) : X w mX3_match d Q 27 ls (.ref a :: st) P := X_getN (M := mX3_match) (j := 5) (T := TX1) (dX3_match_27) rfl (by decide) x_in1 xw_128 hP hv k
theorem dX3_match_30 : decode cX3_match 30 = .ok (.iconst 0, 1) := by decide +kernel
theorem sX3_match_30 (k : X w mX3_match d Q 31 ls (.int (0 : Int32) :: st) P) : X w mX3_match d Q 30 ls st P := X_iconst (M := mX3_match) (dX3_match_30) (by decide) k
theorem dX3_match_31 : decode cX3_match 31 = .ok (.laload, 1) := by decide +kernel
theorem sX3_match_31 {a n : Nat} {f : Nat → Int64} {i : Int32} (hP : P.1 a = some (xJ n f)) (hi : vp_in i n) (k : X w mX3_match d Q 32 ls (.long (f i.toNatClampNeg) :: st) P) : X w mX3_match d Q 31 ls (.int i :: .ref a :: st) P := X_lald (M := mX3_match) (dX3_match_31) hP hi k
theorem sX3_match_31_in {i : Int32} (hi : vp_in i 6) (k : X w mX3_match d Q 32 ls (.long (xN i.toNatClampNeg) :: st) P) : X w mX3_match d Q 31 ls (.int i :: .ref (w.ad 1) :: st) P := X_inld (M := mX3_match) (dX3_match_31) hi k
theorem dX3_match_32 : decode cX3_match 32 = .ok (.lastore, 1) := by decide +kernel
theorem sX3_match_32 {a n : Nat} {f : Nat → Int64} {i : Int32} {x : Int64} (hP : P.1 a = some (xJ n f)) (hi : vp_in i n) (k : X w mX3_match d Q 33 ls st (xs P a (xJ n (vp_updL f i.toNatClampNeg x)))) : X w mX3_match d Q 32 ls (.long x :: .int i :: .ref a :: st) P := X_last (M := mX3_match) (dX3_match_32) hP hi k
theorem dX3_match_33 : decode cX3_match 33 = .ok (.aload_n 0, 1) := by decide +kernel
theorem sX3_match_33 {l1 l2 l3 : Option Value} {x : Nat} (k : X w mX3_match d Q 34 [some (.ref x), l1, l2, l3] (.ref x :: st) P) : X w mX3_match d Q 33 [some (.ref x), l1, l2, l3] st P := X_aload_n (M := mX3_match) (dX3_match_33) rfl rfl k
theorem dX3_match_34 : decode cX3_match 34 = .ok (.getfield 19, 3) := by decide +kernel
theorem sX3_match_34 {a : Nat} {fs : List Value} {v : Nat} (hP : P.1 a = some (xO 2 fs)) (hv : fs[2]? = some (.ref v)) (k : X w mX3_match d Q 37 ls (.ref v :: st) P) : X w mX3_match d Q 34 ls (.ref a :: st) P := X_get (M := mX3_match) (j := 2) (T := TX3) (dX3_match_34) rfl (by decide) x_in3 xw_125 hP hv k
theorem dX3_match_37 : decode cX3_match 37 = .ok (.iconst 1, 1) := by decide +kernel
theorem sX3_match_37 (k : X w mX3_match d Q 38 ls (.int (1 : Int32) :: st) P) : X w mX3_match d Q 37 ls st P := X_iconst (M := mX3_match) (dX3_match_37) (by decide) k
theorem dX3_match_38 : decode cX3_match 38 = .ok (.aload_n 2, 1) := by decide +kernel
theorem sX3_match_38 {l0 l1 l3 : Option Value} {x : Nat} (k : X w mX3_match d Q 39 [l0, l1, some (.ref x), l3] (.ref x :: st) P) : X w mX3_match d Q 38 [l0, l1, some (.ref x), l3] st P := X_aload_n (M := mX3_match) (dX3_match_38) rfl rfl k
theorem dX3_match_39 : decode cX3_match 39 = .ok (.getfield 29, 3) := by decide +kernel
theorem sX3_match_39 {a : Nat} {fs : List Value} {v : Nat} (hP : P.1 a = some (xO 1 fs)) (hv : fs[5]? = some (.ref v)) (k : X w mX3_match d Q 42 ls (.ref v :: st) P) : X w mX3_match d Q 39 ls (.ref a :: st) P := X_getN (M := mX3_match) (j := 5) (T := TX1) (dX3_match_39) rfl (by decide) x_in1 xw_128 hP hv k
theorem dX3_match_42 : decode cX3_match 42 = .ok (.iconst 0, 1) := by decide +kernel
theorem sX3_match_42 (k : X w mX3_match d Q 43 ls (.int (0 : Int32) :: st) P) : X w mX3_match d Q 42 ls st P := X_iconst (M := mX3_match) (dX3_match_42) (by decide) k
theorem dX3_match_43 : decode cX3_match 43 = .ok (.laload, 1) := by decide +kernel
theorem sX3_match_43 {a n : Nat} {f : Nat → Int64} {i : Int32} (hP : P.1 a = some (xJ n f)) (hi : vp_in i n) (k : X w mX3_match d Q 44 ls (.long (f i.toNatClampNeg) :: st) P) : X w mX3_match d Q 43 ls (.int i :: .ref a :: st) P := X_lald (M := mX3_match) (dX3_match_43) hP hi k
theorem sX3_match_43_in {i : Int32} (hi : vp_in i 6) (k : X w mX3_match d Q 44 ls (.long (xN i.toNatClampNeg) :: st) P) : X w mX3_match d Q 43 ls (.int i :: .ref (w.ad 1) :: st) P := X_inld (M := mX3_match) (dX3_match_43) hi k
theorem dX3_match_44 : decode cX3_match 44 = .ok (.lastore, 1) := by decide +kernel
theorem sX3_match_44 {a n : Nat} {f : Nat → Int64} {i : Int32} {x : Int64} (hP : P.1 a = some (xJ n f)) (hi : vp_in i n) (k : X w mX3_match d Q 45 ls st (xs P a (xJ n (vp_updL f i.toNatClampNeg x)))) : X w mX3_match d Q 44 ls (.long x :: .int i :: .ref a :: st) P := X_last (M := mX3_match) (dX3_match_44) hP hi k
theorem dX3_match_45 : decode cX3_match 45 = .ok (.aload_n 0, 1) := by decide +kernel
theorem sX3_match_45 {l1 l2 l3 : Option Value} {x : Nat} (k : X w mX3_match d Q 46 [some (.ref x), l1, l2, l3] (.ref x :: st) P) : X w mX3_match d Q 45 [some (.ref x), l1, l2, l3] st P := X_aload_n (M := mX3_match) (dX3_match_45) rfl rfl k
theorem dX3_match_46 : decode cX3_match 46 = .ok (.getfield 15, 3) := by decide +kernel
theorem sX3_match_46 {a : Nat} {fs : List Value} {v : Nat} (hP : P.1 a = some (xO 2 fs)) (hv : fs[1]? = some (.ref v)) (k : X w mX3_match d Q 49 ls (.ref v :: st) P) : X w mX3_match d Q 46 ls (.ref a :: st) P := X_get (M := mX3_match) (j := 1) (T := TX3) (dX3_match_46) rfl (by decide) x_in3 xw_124 hP hv k
theorem dX3_match_49 : decode cX3_match 49 = .ok (.iconst 1, 1) := by decide +kernel
theorem sX3_match_49 (k : X w mX3_match d Q 50 ls (.int (1 : Int32) :: st) P) : X w mX3_match d Q 49 ls st P := X_iconst (M := mX3_match) (dX3_match_49) (by decide) k
theorem dX3_match_50 : decode cX3_match 50 = .ok (.laload, 1) := by decide +kernel
theorem sX3_match_50 {a n : Nat} {f : Nat → Int64} {i : Int32} (hP : P.1 a = some (xJ n f)) (hi : vp_in i n) (k : X w mX3_match d Q 51 ls (.long (f i.toNatClampNeg) :: st) P) : X w mX3_match d Q 50 ls (.int i :: .ref a :: st) P := X_lald (M := mX3_match) (dX3_match_50) hP hi k
theorem sX3_match_50_in {i : Int32} (hi : vp_in i 6) (k : X w mX3_match d Q 51 ls (.long (xN i.toNatClampNeg) :: st) P) : X w mX3_match d Q 50 ls (.int i :: .ref (w.ad 1) :: st) P := X_inld (M := mX3_match) (dX3_match_50) hi k
theorem dX3_match_51 : decode cX3_match 51 = .ok (.invokestatic 32, 3) := by decide +kernel
theorem sX3_match_51_g {a0 : Int64} {Qc : Outcome → xH → Prop} (hst : (st.map fun v => v.category).sum ≤ 8) (hC : xC w d mJ13_bitCount_95d88 [.long a0] P Qc) (kr : ∀ v P1, Qc (.returned v) P1 → X w mX3_match (d + 1) Q 54 ls (v.toList ++ st) P1) (kt : ∀ q P1, Qc (.threw q) P1 → Xt w mX3_match (d + 1) Q 51 ls st P1 q) : X w mX3_match (d + 1) Q 51 ls (.long a0 :: st) P := X_callS (M := mX3_match) (MC := mJ13_bitCount_95d88) (As := [.long a0]) (dX3_match_51) calJ13_bitCount_95d88 xw_129 xw_130 rfl hC hst kr kt
theorem sX3_match_51 {a0 : Int64} {r : Int32} {P1 : xH} (hst : (st.map fun v => v.category).sum ≤ 8) (hC : xC w d mJ13_bitCount_95d88 [.long a0] P (xRet (some (.int r)) P1)) (k : X w mX3_match (d + 1) Q 54 ls (.int r :: st) P1) : X w mX3_match (d + 1) Q 51 ls (.long a0 :: st) P := X_callS (M := mX3_match) (MC := mJ13_bitCount_95d88) (As := [.long a0]) (dX3_match_51) calJ13_bitCount_95d88 xw_129 xw_130 rfl hC hst (fun v P2 h => by obtain ⟨h1, rfl⟩ := h; cases h1; exact k) (fun q P2 h => by cases h.1)
theorem sX3_match_51_r {a0 : Int64} {r : Int32} {Rp : xH → Prop} (hst : (st.map fun v => v.category).sum ≤ 8) (hC : xC w d mJ13_bitCount_95d88 [.long a0] P (xRl (some (.int r)) Rp)) (k : ∀ P1, Rp P1 → X w mX3_match (d + 1) Q 54 ls (.int r :: st) P1) : X w mX3_match (d + 1) Q 51 ls (.long a0 :: st) P := X_callS (M := mX3_match) (MC := mJ13_bitCount_95d88) (As := [.long a0]) (dX3_match_51) calJ13_bitCount_95d88 xw_129 xw_130 rfl hC hst (fun v P2 h => by obtain ⟨h1, hR⟩ := h; cases h1; exact k P2 hR) (fun q P2 h => by cases h.1)
theorem sX3_match_51_t {a0 : Int64} {q : Nat} {P1 : xH} (hst : (st.map fun v => v.category).sum ≤ 8) (hC : xC w d mJ13_bitCount_95d88 [.long a0] P (xThr q P1)) (hq : Q (.threw q) P1) : X w mX3_match (d + 1) Q 51 ls (.long a0 :: st) P := X_callS (M := mX3_match) (MC := mJ13_bitCount_95d88) (As := [.long a0]) (dX3_match_51) calJ13_bitCount_95d88 xw_129 xw_130 rfl hC hst (fun v P2 h => by cases h.1) (fun q2 P2 h => by obtain ⟨h1, rfl⟩ := h; cases h1; exact Xt_out rfl hq)
theorem dX3_match_54 : decode cX3_match 54 = .ok (.aload_n 0, 1) := by decide +kernel
theorem sX3_match_54 {l1 l2 l3 : Option Value} {x : Nat} (k : X w mX3_match d Q 55 [some (.ref x), l1, l2, l3] (.ref x :: st) P) : X w mX3_match d Q 54 [some (.ref x), l1, l2, l3] st P := X_aload_n (M := mX3_match) (dX3_match_54) rfl rfl k
theorem dX3_match_55 : decode cX3_match 55 = .ok (.getfield 19, 3) := by decide +kernel
theorem sX3_match_55 {a : Nat} {fs : List Value} {v : Nat} (hP : P.1 a = some (xO 2 fs)) (hv : fs[2]? = some (.ref v)) (k : X w mX3_match d Q 58 ls (.ref v :: st) P) : X w mX3_match d Q 55 ls (.ref a :: st) P := X_get (M := mX3_match) (j := 2) (T := TX3) (dX3_match_55) rfl (by decide) x_in3 xw_125 hP hv k
theorem dX3_match_58 : decode cX3_match 58 = .ok (.iconst 1, 1) := by decide +kernel
theorem sX3_match_58 (k : X w mX3_match d Q 59 ls (.int (1 : Int32) :: st) P) : X w mX3_match d Q 58 ls st P := X_iconst (M := mX3_match) (dX3_match_58) (by decide) k
theorem dX3_match_59 : decode cX3_match 59 = .ok (.laload, 1) := by decide +kernel
theorem sX3_match_59 {a n : Nat} {f : Nat → Int64} {i : Int32} (hP : P.1 a = some (xJ n f)) (hi : vp_in i n) (k : X w mX3_match d Q 60 ls (.long (f i.toNatClampNeg) :: st) P) : X w mX3_match d Q 59 ls (.int i :: .ref a :: st) P := X_lald (M := mX3_match) (dX3_match_59) hP hi k
theorem sX3_match_59_in {i : Int32} (hi : vp_in i 6) (k : X w mX3_match d Q 60 ls (.long (xN i.toNatClampNeg) :: st) P) : X w mX3_match d Q 59 ls (.int i :: .ref (w.ad 1) :: st) P := X_inld (M := mX3_match) (dX3_match_59) hi k
theorem dX3_match_60 : decode cX3_match 60 = .ok (.invokestatic 32, 3) := by decide +kernel
theorem sX3_match_60_g {a0 : Int64} {Qc : Outcome → xH → Prop} (hst : (st.map fun v => v.category).sum ≤ 8) (hC : xC w d mJ13_bitCount_95d88 [.long a0] P Qc) (kr : ∀ v P1, Qc (.returned v) P1 → X w mX3_match (d + 1) Q 63 ls (v.toList ++ st) P1) (kt : ∀ q P1, Qc (.threw q) P1 → Xt w mX3_match (d + 1) Q 60 ls st P1 q) : X w mX3_match (d + 1) Q 60 ls (.long a0 :: st) P := X_callS (M := mX3_match) (MC := mJ13_bitCount_95d88) (As := [.long a0]) (dX3_match_60) calJ13_bitCount_95d88 xw_129 xw_130 rfl hC hst kr kt
theorem sX3_match_60 {a0 : Int64} {r : Int32} {P1 : xH} (hst : (st.map fun v => v.category).sum ≤ 8) (hC : xC w d mJ13_bitCount_95d88 [.long a0] P (xRet (some (.int r)) P1)) (k : X w mX3_match (d + 1) Q 63 ls (.int r :: st) P1) : X w mX3_match (d + 1) Q 60 ls (.long a0 :: st) P := X_callS (M := mX3_match) (MC := mJ13_bitCount_95d88) (As := [.long a0]) (dX3_match_60) calJ13_bitCount_95d88 xw_129 xw_130 rfl hC hst (fun v P2 h => by obtain ⟨h1, rfl⟩ := h; cases h1; exact k) (fun q P2 h => by cases h.1)
theorem sX3_match_60_r {a0 : Int64} {r : Int32} {Rp : xH → Prop} (hst : (st.map fun v => v.category).sum ≤ 8) (hC : xC w d mJ13_bitCount_95d88 [.long a0] P (xRl (some (.int r)) Rp)) (k : ∀ P1, Rp P1 → X w mX3_match (d + 1) Q 63 ls (.int r :: st) P1) : X w mX3_match (d + 1) Q 60 ls (.long a0 :: st) P := X_callS (M := mX3_match) (MC := mJ13_bitCount_95d88) (As := [.long a0]) (dX3_match_60) calJ13_bitCount_95d88 xw_129 xw_130 rfl hC hst (fun v P2 h => by obtain ⟨h1, hR⟩ := h; cases h1; exact k P2 hR) (fun q P2 h => by cases h.1)
theorem sX3_match_60_t {a0 : Int64} {q : Nat} {P1 : xH} (hst : (st.map fun v => v.category).sum ≤ 8) (hC : xC w d mJ13_bitCount_95d88 [.long a0] P (xThr q P1)) (hq : Q (.threw q) P1) : X w mX3_match (d + 1) Q 60 ls (.long a0 :: st) P := X_callS (M := mX3_match) (MC := mJ13_bitCount_95d88) (As := [.long a0]) (dX3_match_60) calJ13_bitCount_95d88 xw_129 xw_130 rfl hC hst (fun v P2 h => by cases h.1) (fun q2 P2 h => by obtain ⟨h1, rfl⟩ := h; cases h1; exact Xt_out rfl hq)
theorem dX3_match_63 : decode cX3_match 63 = .ok (.if_icmp .eq 5, 3) := by decide +kernel
theorem sX3_match_63 {x y : Int32} (kt : x = y → X w mX3_match d Q 68 ls st P) (kf : ¬ x = y → X w mX3_match d Q 66 ls st P) : X w mX3_match d Q 63 ls (.int y :: .int x :: st) P := X_icmp_eq (M := mX3_match) (dX3_match_63) (by decide) kt kf
theorem dX3_match_66 : decode cX3_match 66 = .ok (.iconst 0, 1) := by decide +kernel
theorem sX3_match_66 (k : X w mX3_match d Q 67 ls (.int (0 : Int32) :: st) P) : X w mX3_match d Q 66 ls st P := X_iconst (M := mX3_match) (dX3_match_66) (by decide) k
theorem dX3_match_67 : decode cX3_match 67 = .ok (.ireturn, 1) := by decide +kernel
theorem sX3_match_67 {v : Int32} (hb : v = 0 ∨ v = 1) (hq : Q (.returned (some (.int v))) P) : X w mX3_match d Q 67 ls [.int v] P := X_zret (M := mX3_match) (ty := .boolean) (dX3_match_67) rfl (xz_n hb) hq
theorem dX3_match_68 : decode cX3_match 68 = .ok (.iconst 0, 1) := by decide +kernel
theorem sX3_match_68 (k : X w mX3_match d Q 69 ls (.int (0 : Int32) :: st) P) : X w mX3_match d Q 68 ls st P := X_iconst (M := mX3_match) (dX3_match_68) (by decide) k
theorem dX3_match_69 : decode cX3_match 69 = .ok (.istore_n 3, 1) := by decide +kernel
theorem sX3_match_69 {l0 l1 l2 l3 : Option Value} {x : Int32} (hn : xnl l2 = true) (k : X w mX3_match d Q 70 [l0, l1, l2, some (.int x)] st P) : X w mX3_match d Q 69 [l0, l1, l2, l3] (.int x :: st) P := X_istore_n (M := mX3_match) (dX3_match_69) rfl (by decide) rfl (xnl_p (ls := [l0, l1, l2, l3]) (j := 2) rfl hn) k
theorem dX3_match_70 : decode cX3_match 70 = .ok (.iload_n 3, 1) := by decide +kernel
theorem sX3_match_70 {l0 l1 l2 : Option Value} {x : Int32} (k : X w mX3_match d Q 71 [l0, l1, l2, some (.int x)] (.int x :: st) P) : X w mX3_match d Q 70 [l0, l1, l2, some (.int x)] st P := X_iload_n (M := mX3_match) (dX3_match_70) rfl rfl k
theorem dX3_match_71 : decode cX3_match 71 = .ok (.aload_n 0, 1) := by decide +kernel
theorem sX3_match_71 {l1 l2 l3 : Option Value} {x : Nat} (k : X w mX3_match d Q 72 [some (.ref x), l1, l2, l3] (.ref x :: st) P) : X w mX3_match d Q 71 [some (.ref x), l1, l2, l3] st P := X_aload_n (M := mX3_match) (dX3_match_71) rfl rfl k
theorem dX3_match_72 : decode cX3_match 72 = .ok (.getfield 28, 3) := by decide +kernel
theorem sX3_match_72 {a : Nat} {fs : List Value} {v : Int32} (hP : P.1 a = some (xO 2 fs)) (hv : fs[3]? = some (.int v)) (k : X w mX3_match d Q 75 ls (.int v :: st) P) : X w mX3_match d Q 72 ls (.ref a :: st) P := X_get (M := mX3_match) (j := 3) (T := TX3) (dX3_match_72) rfl (by decide) x_in3 xw_127 hP hv k
theorem dX3_match_75 : decode cX3_match 75 = .ok (.if_icmp .ge 18, 3) := by decide +kernel
theorem sX3_match_75 {x y : Int32} (kt : y ≤ x → X w mX3_match d Q 93 ls st P) (kf : ¬ y ≤ x → X w mX3_match d Q 78 ls st P) : X w mX3_match d Q 75 ls (.int y :: .int x :: st) P := X_icmp_ge (M := mX3_match) (dX3_match_75) (by decide) kt kf
theorem dX3_match_78 : decode cX3_match 78 = .ok (.aload_n 0, 1) := by decide +kernel
theorem sX3_match_78 {l1 l2 l3 : Option Value} {x : Nat} (k : X w mX3_match d Q 79 [some (.ref x), l1, l2, l3] (.ref x :: st) P) : X w mX3_match d Q 78 [some (.ref x), l1, l2, l3] st P := X_aload_n (M := mX3_match) (dX3_match_78) rfl rfl k
theorem dX3_match_79 : decode cX3_match 79 = .ok (.getfield 15, 3) := by decide +kernel
theorem sX3_match_79 {a : Nat} {fs : List Value} {v : Nat} (hP : P.1 a = some (xO 2 fs)) (hv : fs[1]? = some (.ref v)) (k : X w mX3_match d Q 82 ls (.ref v :: st) P) : X w mX3_match d Q 79 ls (.ref a :: st) P := X_get (M := mX3_match) (j := 1) (T := TX3) (dX3_match_79) rfl (by decide) x_in3 xw_124 hP hv k
theorem dX3_match_82 : decode cX3_match 82 = .ok (.iload_n 3, 1) := by decide +kernel
theorem sX3_match_82 {l0 l1 l2 : Option Value} {x : Int32} (k : X w mX3_match d Q 83 [l0, l1, l2, some (.int x)] (.int x :: st) P) : X w mX3_match d Q 82 [l0, l1, l2, some (.int x)] st P := X_iload_n (M := mX3_match) (dX3_match_82) rfl rfl k
theorem dX3_match_83 : decode cX3_match 83 = .ok (.iload_n 3, 1) := by decide +kernel
theorem sX3_match_83 {l0 l1 l2 : Option Value} {x : Int32} (k : X w mX3_match d Q 84 [l0, l1, l2, some (.int x)] (.int x :: st) P) : X w mX3_match d Q 83 [l0, l1, l2, some (.int x)] st P := X_iload_n (M := mX3_match) (dX3_match_83) rfl rfl k
theorem dX3_match_84 : decode cX3_match 84 = .ok (.invokestatic 38, 3) := by decide +kernel
theorem sX3_match_84_g {a0 : Nat} {a1 : Int32} {a2 : Int32} {Qc : Outcome → xH → Prop} (hst : (st.map fun v => v.category).sum ≤ 8) (hC : xC w d mX3_split [.ref a0, .int a1, .int a2] P Qc) (kr : ∀ v P1, Qc (.returned v) P1 → X w mX3_match (d + 1) Q 87 ls (v.toList ++ st) P1) (kt : ∀ q P1, Qc (.threw q) P1 → Xt w mX3_match (d + 1) Q 84 ls st P1 q) : X w mX3_match (d + 1) Q 84 ls (.int a2 :: .int a1 :: .ref a0 :: st) P := X_callS (M := mX3_match) (MC := mX3_split) (As := [.ref a0, .int a1, .int a2]) (dX3_match_84) calX3_split xw_131 xw_132 rfl hC hst kr kt
theorem sX3_match_84 {a0 : Nat} {a1 : Int32} {a2 : Int32} {P1 : xH} (hst : (st.map fun v => v.category).sum ≤ 8) (hC : xC w d mX3_split [.ref a0, .int a1, .int a2] P (xRet none P1)) (k : X w mX3_match (d + 1) Q 87 ls st P1) : X w mX3_match (d + 1) Q 84 ls (.int a2 :: .int a1 :: .ref a0 :: st) P := X_callS (M := mX3_match) (MC := mX3_split) (As := [.ref a0, .int a1, .int a2]) (dX3_match_84) calX3_split xw_131 xw_132 rfl hC hst (fun v P2 h => by obtain ⟨h1, rfl⟩ := h; cases h1; exact k) (fun q P2 h => by cases h.1)
theorem sX3_match_84_r {a0 : Nat} {a1 : Int32} {a2 : Int32} {Rp : xH → Prop} (hst : (st.map fun v => v.category).sum ≤ 8) (hC : xC w d mX3_split [.ref a0, .int a1, .int a2] P (xRl none Rp)) (k : ∀ P1, Rp P1 → X w mX3_match (d + 1) Q 87 ls st P1) : X w mX3_match (d + 1) Q 84 ls (.int a2 :: .int a1 :: .ref a0 :: st) P := X_callS (M := mX3_match) (MC := mX3_split) (As := [.ref a0, .int a1, .int a2]) (dX3_match_84) calX3_split xw_131 xw_132 rfl hC hst (fun v P2 h => by obtain ⟨h1, hR⟩ := h; cases h1; exact k P2 hR) (fun q P2 h => by cases h.1)
theorem sX3_match_84_t {a0 : Nat} {a1 : Int32} {a2 : Int32} {q : Nat} {P1 : xH} (hst : (st.map fun v => v.category).sum ≤ 8) (hC : xC w d mX3_split [.ref a0, .int a1, .int a2] P (xThr q P1)) (hq : Q (.threw q) P1) : X w mX3_match (d + 1) Q 84 ls (.int a2 :: .int a1 :: .ref a0 :: st) P := X_callS (M := mX3_match) (MC := mX3_split) (As := [.ref a0, .int a1, .int a2]) (dX3_match_84) calX3_split xw_131 xw_132 rfl hC hst (fun v P2 h => by cases h.1) (fun q2 P2 h => by obtain ⟨h1, rfl⟩ := h; cases h1; exact Xt_out rfl hq)
theorem dX3_match_87 : decode cX3_match 87 = .ok (.iinc 3 1, 3) := by decide +kernel
theorem sX3_match_87 {l0 l1 l2 : Option Value} {x : Int32} (hn : xnl l2 = true) (k : X w mX3_match d Q 90 [l0, l1, l2, some (.int (x + (1 : Int32)))] st P) : X w mX3_match d Q 87 [l0, l1, l2, some (.int x)] st P := X_iinc (M := mX3_match) (dX3_match_87) rfl (by rfl) (by decide) rfl (xnl_p (ls := [l0, l1, l2, some (.int x)]) (j := 2) rfl hn) k
theorem dX3_match_90 : decode cX3_match 90 = .ok (.goto (-20), 3) := by decide +kernel
theorem sX3_match_90 (k : X w mX3_match d Q 70 ls st P) : X w mX3_match d Q 90 ls st P := X_goto (M := mX3_match) (dX3_match_90) (by decide) k
theorem dX3_match_93 : decode cX3_match 93 = .ok (.aload_n 0, 1) := by decide +kernel
theorem sX3_match_93 {l1 l2 l3 : Option Value} {x : Nat} (k : X w mX3_match d Q 94 [some (.ref x), l1, l2, l3] (.ref x :: st) P) : X w mX3_match d Q 93 [some (.ref x), l1, l2, l3] st P := X_aload_n (M := mX3_match) (dX3_match_93) rfl rfl k
theorem dX3_match_94 : decode cX3_match 94 = .ok (.iconst 0, 1) := by decide +kernel
theorem sX3_match_94 (k : X w mX3_match d Q 95 ls (.int (0 : Int32) :: st) P) : X w mX3_match d Q 94 ls st P := X_iconst (M := mX3_match) (dX3_match_94) (by decide) k
theorem dX3_match_95 : decode cX3_match 95 = .ok (.iconst 0, 1) := by decide +kernel
theorem sX3_match_95 (k : X w mX3_match d Q 96 ls (.int (0 : Int32) :: st) P) : X w mX3_match d Q 95 ls st P := X_iconst (M := mX3_match) (dX3_match_95) (by decide) k
theorem dX3_match_96 : decode cX3_match 96 = .ok (.invokevirtual 42, 3) := by decide +kernel
theorem sX3_match_96_g {b : Nat} {fs : List Value} {a0 : Int32} {a1 : Int32} {Qc : Outcome → xH → Prop} (hst : (st.map fun v => v.category).sum ≤ 8) (hP : P.1 b = some (xO 2 fs)) (hC : xC w d mX3_placeFrom [.ref b, .int a0, .int a1] P Qc) (kr : ∀ v P1, Qc (.returned v) P1 → X w mX3_match (d + 1) Q 99 ls (v.toList ++ st) P1) (kt : ∀ q P1, Qc (.threw q) P1 → Xt w mX3_match (d + 1) Q 96 ls st P1 q) : X w mX3_match (d + 1) Q 96 ls (.int a1 :: .int a0 :: .ref b :: st) P := X_callV (M := mX3_match) (MC := mX3_placeFrom) (As := [.int a0, .int a1]) (T := TX3) (dX3_match_96) calX3_placeFrom xw_133 xw_134 xw_135 rfl rfl hP hC hst kr kt
theorem sX3_match_96 {b : Nat} {fs : List Value} {a0 : Int32} {a1 : Int32} {r : Int32} {P1 : xH} (hst : (st.map fun v => v.category).sum ≤ 8) (hP : P.1 b = some (xO 2 fs)) (hC : xC w d mX3_placeFrom [.ref b, .int a0, .int a1] P (xRet (some (.int r)) P1)) (k : X w mX3_match (d + 1) Q 99 ls (.int r :: st) P1) : X w mX3_match (d + 1) Q 96 ls (.int a1 :: .int a0 :: .ref b :: st) P := X_callV (M := mX3_match) (MC := mX3_placeFrom) (As := [.int a0, .int a1]) (T := TX3) (dX3_match_96) calX3_placeFrom xw_133 xw_134 xw_135 rfl rfl hP hC hst (fun v P2 h => by obtain ⟨h1, rfl⟩ := h; cases h1; exact k) (fun q P2 h => by cases h.1)
theorem sX3_match_96_r {b : Nat} {fs : List Value} {a0 : Int32} {a1 : Int32} {r : Int32} {Rp : xH → Prop} (hst : (st.map fun v => v.category).sum ≤ 8) (hP : P.1 b = some (xO 2 fs)) (hC : xC w d mX3_placeFrom [.ref b, .int a0, .int a1] P (xRl (some (.int r)) Rp)) (k : ∀ P1, Rp P1 → X w mX3_match (d + 1) Q 99 ls (.int r :: st) P1) : X w mX3_match (d + 1) Q 96 ls (.int a1 :: .int a0 :: .ref b :: st) P := X_callV (M := mX3_match) (MC := mX3_placeFrom) (As := [.int a0, .int a1]) (T := TX3) (dX3_match_96) calX3_placeFrom xw_133 xw_134 xw_135 rfl rfl hP hC hst (fun v P2 h => by obtain ⟨h1, hR⟩ := h; cases h1; exact k P2 hR) (fun q P2 h => by cases h.1)
theorem sX3_match_96_t {b : Nat} {fs : List Value} {a0 : Int32} {a1 : Int32} {q : Nat} {P1 : xH} (hst : (st.map fun v => v.category).sum ≤ 8) (hP : P.1 b = some (xO 2 fs)) (hC : xC w d mX3_placeFrom [.ref b, .int a0, .int a1] P (xThr q P1)) (hq : Q (.threw q) P1) : X w mX3_match (d + 1) Q 96 ls (.int a1 :: .int a0 :: .ref b :: st) P := X_callV (M := mX3_match) (MC := mX3_placeFrom) (As := [.int a0, .int a1]) (T := TX3) (dX3_match_96) calX3_placeFrom xw_133 xw_134 xw_135 rfl rfl hP hC hst (fun v P2 h => by cases h.1) (fun q2 P2 h => by obtain ⟨h1, rfl⟩ := h; cases h1; exact Xt_out rfl hq)
theorem dX3_match_99 : decode cX3_match 99 = .ok (.ireturn, 1) := by decide +kernel
theorem sX3_match_99 {v : Int32} (hb : v = 0 ∨ v = 1) (hq : Q (.returned (some (.int v))) P) : X w mX3_match d Q 99 ls [.int v] P := X_zret (M := mX3_match) (ty := .boolean) (dX3_match_99) rfl (xz_n hb) hq
theorem dX3_placeFrom_0 : decode cX3_placeFrom 0 = .ok (.iload_n 1, 1) := by decide +kernel
theorem sX3_placeFrom_0 {l0 l2 l3 : Option Value} {x : Int32} (k : X w mX3_placeFrom d Q 1 [l0, some (.int x), l2, l3] (.int x :: st) P) : X w mX3_placeFrom d Q 0 [l0, some (.int x), l2, l3] st P := X_iload_n (M := mX3_placeFrom) (dX3_placeFrom_0) rfl rfl k
theorem dX3_placeFrom_1 : decode cX3_placeFrom 1 = .ok (.aload_n 0, 1) := by decide +kernel
theorem sX3_placeFrom_1 {l1 l2 l3 : Option Value} {x : Nat} (k : X w mX3_placeFrom d Q 2 [some (.ref x), l1, l2, l3] (.ref x :: st) P) : X w mX3_placeFrom d Q 1 [some (.ref x), l1, l2, l3] st P := X_aload_n (M := mX3_placeFrom) (dX3_placeFrom_1) rfl rfl k
theorem dX3_placeFrom_2 : decode cX3_placeFrom 2 = .ok (.getfield 28, 3) := by decide +kernel
theorem sX3_placeFrom_2 {a : Nat} {fs : List Value} {v : Int32} (hP : P.1 a = some (xO 2 fs)) (hv : fs[3]? = some (.int v)) (k : X w mX3_placeFrom d Q 5 ls (.int v :: st) P) : X w mX3_placeFrom d Q 2 ls (.ref a :: st) P := X_get (M := mX3_placeFrom) (j := 3) (T := TX3) (dX3_placeFrom_2) rfl (by decide) x_in3 xw_127 hP hv k
theorem dX3_placeFrom_5 : decode cX3_placeFrom 5 = .ok (.if_icmp .lt 5, 3) := by decide +kernel
theorem sX3_placeFrom_5 {x y : Int32} (kt : x < y → X w mX3_placeFrom d Q 10 ls st P) (kf : ¬ x < y → X w mX3_placeFrom d Q 8 ls st P) : X w mX3_placeFrom d Q 5 ls (.int y :: .int x :: st) P := X_icmp_lt (M := mX3_placeFrom) (dX3_placeFrom_5) (by decide) kt kf
theorem dX3_placeFrom_8 : decode cX3_placeFrom 8 = .ok (.iconst 1, 1) := by decide +kernel
theorem sX3_placeFrom_8 (k : X w mX3_placeFrom d Q 9 ls (.int (1 : Int32) :: st) P) : X w mX3_placeFrom d Q 8 ls st P := X_iconst (M := mX3_placeFrom) (dX3_placeFrom_8) (by decide) k
theorem dX3_placeFrom_9 : decode cX3_placeFrom 9 = .ok (.ireturn, 1) := by decide +kernel
theorem sX3_placeFrom_9 {v : Int32} (hb : v = 0 ∨ v = 1) (hq : Q (.returned (some (.int v))) P) : X w mX3_placeFrom d Q 9 ls [.int v] P := X_zret (M := mX3_placeFrom) (ty := .boolean) (dX3_placeFrom_9) rfl (xz_n hb) hq
theorem dX3_placeFrom_10 : decode cX3_placeFrom 10 = .ok (.iconst 0, 1) := by decide +kernel
theorem sX3_placeFrom_10 (k : X w mX3_placeFrom d Q 11 ls (.int (0 : Int32) :: st) P) : X w mX3_placeFrom d Q 10 ls st P := X_iconst (M := mX3_placeFrom) (dX3_placeFrom_10) (by decide) k
theorem dX3_placeFrom_11 : decode cX3_placeFrom 11 = .ok (.istore_n 3, 1) := by decide +kernel
theorem sX3_placeFrom_11 {l0 l1 l2 l3 : Option Value} {x : Int32} (hn : xnl l2 = true) (k : X w mX3_placeFrom d Q 12 [l0, l1, l2, some (.int x)] st P) : X w mX3_placeFrom d Q 11 [l0, l1, l2, l3] (.int x :: st) P := X_istore_n (M := mX3_placeFrom) (dX3_placeFrom_11) rfl (by decide) rfl (xnl_p (ls := [l0, l1, l2, l3]) (j := 2) rfl hn) k
theorem dX3_placeFrom_12 : decode cX3_placeFrom 12 = .ok (.iload_n 3, 1) := by decide +kernel
theorem sX3_placeFrom_12 {l0 l1 l2 : Option Value} {x : Int32} (k : X w mX3_placeFrom d Q 13 [l0, l1, l2, some (.int x)] (.int x :: st) P) : X w mX3_placeFrom d Q 12 [l0, l1, l2, some (.int x)] st P := X_iload_n (M := mX3_placeFrom) (dX3_placeFrom_12) rfl rfl k
theorem dX3_placeFrom_13 : decode cX3_placeFrom 13 = .ok (.aload_n 0, 1) := by decide +kernel
theorem sX3_placeFrom_13 {l1 l2 l3 : Option Value} {x : Nat} (k : X w mX3_placeFrom d Q 14 [some (.ref x), l1, l2, l3] (.ref x :: st) P) : X w mX3_placeFrom d Q 13 [some (.ref x), l1, l2, l3] st P := X_aload_n (M := mX3_placeFrom) (dX3_placeFrom_13) rfl rfl k
theorem dX3_placeFrom_14 : decode cX3_placeFrom 14 = .ok (.getfield 28, 3) := by decide +kernel
theorem sX3_placeFrom_14 {a : Nat} {fs : List Value} {v : Int32} (hP : P.1 a = some (xO 2 fs)) (hv : fs[3]? = some (.int v)) (k : X w mX3_placeFrom d Q 17 ls (.int v :: st) P) : X w mX3_placeFrom d Q 14 ls (.ref a :: st) P := X_get (M := mX3_placeFrom) (j := 3) (T := TX3) (dX3_placeFrom_14) rfl (by decide) x_in3 xw_127 hP hv k
theorem dX3_placeFrom_17 : decode cX3_placeFrom 17 = .ok (.if_icmp .ge 29, 3) := by decide +kernel
theorem sX3_placeFrom_17 {x y : Int32} (kt : y ≤ x → X w mX3_placeFrom d Q 46 ls st P) (kf : ¬ y ≤ x → X w mX3_placeFrom d Q 20 ls st P) : X w mX3_placeFrom d Q 17 ls (.int y :: .int x :: st) P := X_icmp_ge (M := mX3_placeFrom) (dX3_placeFrom_17) (by decide) kt kf
theorem dX3_placeFrom_20 : decode cX3_placeFrom 20 = .ok (.iload_n 2, 1) := by decide +kernel
theorem sX3_placeFrom_20 {l0 l1 l3 : Option Value} {x : Int32} (k : X w mX3_placeFrom d Q 21 [l0, l1, some (.int x), l3] (.int x :: st) P) : X w mX3_placeFrom d Q 20 [l0, l1, some (.int x), l3] st P := X_iload_n (M := mX3_placeFrom) (dX3_placeFrom_20) rfl rfl k
theorem dX3_placeFrom_21 : decode cX3_placeFrom 21 = .ok (.iload_n 3, 1) := by decide +kernel
theorem sX3_placeFrom_21 {l0 l1 l2 : Option Value} {x : Int32} (k : X w mX3_placeFrom d Q 22 [l0, l1, l2, some (.int x)] (.int x :: st) P) : X w mX3_placeFrom d Q 21 [l0, l1, l2, some (.int x)] st P := X_iload_n (M := mX3_placeFrom) (dX3_placeFrom_21) rfl rfl k
theorem dX3_placeFrom_22 : decode cX3_placeFrom 22 = .ok (.ishr, 1) := by decide +kernel
theorem sX3_placeFrom_22 {x y : Int32} (k : X w mX3_placeFrom d Q 23 ls (.int (x >>> (y &&& 31)) :: st) P) : X w mX3_placeFrom d Q 22 ls (.int y :: .int x :: st) P := X_ishr (M := mX3_placeFrom) (dX3_placeFrom_22) k
theorem dX3_placeFrom_23 : decode cX3_placeFrom 23 = .ok (.iconst 1, 1) := by decide +kernel
theorem sX3_placeFrom_23 (k : X w mX3_placeFrom d Q 24 ls (.int (1 : Int32) :: st) P) : X w mX3_placeFrom d Q 23 ls st P := X_iconst (M := mX3_placeFrom) (dX3_placeFrom_23) (by decide) k
theorem dX3_placeFrom_24 : decode cX3_placeFrom 24 = .ok (.iand, 1) := by decide +kernel
theorem sX3_placeFrom_24 {x y : Int32} (k : X w mX3_placeFrom d Q 25 ls (.int (x &&& y) :: st) P) : X w mX3_placeFrom d Q 24 ls (.int y :: .int x :: st) P := X_iand (M := mX3_placeFrom) (dX3_placeFrom_24) k
theorem dX3_placeFrom_25 : decode cX3_placeFrom 25 = .ok (.ifCond .ne 15, 3) := by decide +kernel
theorem sX3_placeFrom_25 {x : Int32} (kt : ¬ x = 0 → X w mX3_placeFrom d Q 40 ls st P) (kf : x = 0 → X w mX3_placeFrom d Q 28 ls st P) : X w mX3_placeFrom d Q 25 ls (.int x :: st) P := X_if_ne (M := mX3_placeFrom) (dX3_placeFrom_25) (by decide) kt kf
theorem dX3_placeFrom_28 : decode cX3_placeFrom 28 = .ok (.aload_n 0, 1) := by decide +kernel
theorem sX3_placeFrom_28 {l1 l2 l3 : Option Value} {x : Nat} (k : X w mX3_placeFrom d Q 29 [some (.ref x), l1, l2, l3] (.ref x :: st) P) : X w mX3_placeFrom d Q 28 [some (.ref x), l1, l2, l3] st P := X_aload_n (M := mX3_placeFrom) (dX3_placeFrom_28) rfl rfl k
theorem dX3_placeFrom_29 : decode cX3_placeFrom 29 = .ok (.iload_n 1, 1) := by decide +kernel
theorem sX3_placeFrom_29 {l0 l2 l3 : Option Value} {x : Int32} (k : X w mX3_placeFrom d Q 30 [l0, some (.int x), l2, l3] (.int x :: st) P) : X w mX3_placeFrom d Q 29 [l0, some (.int x), l2, l3] st P := X_iload_n (M := mX3_placeFrom) (dX3_placeFrom_29) rfl rfl k
theorem dX3_placeFrom_30 : decode cX3_placeFrom 30 = .ok (.iload_n 3, 1) := by decide +kernel
theorem sX3_placeFrom_30 {l0 l1 l2 : Option Value} {x : Int32} (k : X w mX3_placeFrom d Q 31 [l0, l1, l2, some (.int x)] (.int x :: st) P) : X w mX3_placeFrom d Q 30 [l0, l1, l2, some (.int x)] st P := X_iload_n (M := mX3_placeFrom) (dX3_placeFrom_30) rfl rfl k
theorem dX3_placeFrom_31 : decode cX3_placeFrom 31 = .ok (.iload_n 2, 1) := by decide +kernel
theorem sX3_placeFrom_31 {l0 l1 l3 : Option Value} {x : Int32} (k : X w mX3_placeFrom d Q 32 [l0, l1, some (.int x), l3] (.int x :: st) P) : X w mX3_placeFrom d Q 31 [l0, l1, some (.int x), l3] st P := X_iload_n (M := mX3_placeFrom) (dX3_placeFrom_31) rfl rfl k
theorem dX3_placeFrom_32 : decode cX3_placeFrom 32 = .ok (.invokevirtual 46, 3) := by decide +kernel
theorem sX3_placeFrom_32_g {b : Nat} {fs : List Value} {a0 : Int32} {a1 : Int32} {a2 : Int32} {Qc : Outcome → xH → Prop} (hst : (st.map fun v => v.category).sum ≤ 8) (hP : P.1 b = some (xO 2 fs)) (hC : xC w d mX3_goesOnWith [.ref b, .int a0, .int a1, .int a2] P Qc) (kr : ∀ v P1, Qc (.returned v) P1 → X w mX3_placeFrom (d + 1) Q 35 ls (v.toList ++ st) P1) (kt : ∀ q P1, Qc (.threw q) P1 → Xt w mX3_placeFrom (d + 1) Q 32 ls st P1 q) : X w mX3_placeFrom (d + 1) Q 32 ls (.int a2 :: .int a1 :: .int a0 :: .ref b :: st) P := X_callV (M := mX3_placeFrom) (MC := mX3_goesOnWith) (As := [.int a0, .int a1, .int a2]) (T := TX3) (dX3_placeFrom_32) calX3_goesOnWith xw_136 xw_137 xw_138 rfl rfl hP hC hst kr kt
theorem sX3_placeFrom_32 {b : Nat} {fs : List Value} {a0 : Int32} {a1 : Int32} {a2 : Int32} {r : Int32} {P1 : xH} (hst : (st.map fun v => v.category).sum ≤ 8) (hP : P.1 b = some (xO 2 fs)) (hC : xC w d mX3_goesOnWith [.ref b, .int a0, .int a1, .int a2] P (xRet (some (.int r)) P1)) (k : X w mX3_placeFrom (d + 1) Q 35 ls (.int r :: st) P1) : X w mX3_placeFrom (d + 1) Q 32 ls (.int a2 :: .int a1 :: .int a0 :: .ref b :: st) P := X_callV (M := mX3_placeFrom) (MC := mX3_goesOnWith) (As := [.int a0, .int a1, .int a2]) (T := TX3) (dX3_placeFrom_32) calX3_goesOnWith xw_136 xw_137 xw_138 rfl rfl hP hC hst (fun v P2 h => by obtain ⟨h1, rfl⟩ := h; cases h1; exact k) (fun q P2 h => by cases h.1)
theorem sX3_placeFrom_32_r {b : Nat} {fs : List Value} {a0 : Int32} {a1 : Int32} {a2 : Int32} {r : Int32} {Rp : xH → Prop} (hst : (st.map fun v => v.category).sum ≤ 8) (hP : P.1 b = some (xO 2 fs)) (hC : xC w d mX3_goesOnWith [.ref b, .int a0, .int a1, .int a2] P (xRl (some (.int r)) Rp)) (k : ∀ P1, Rp P1 → X w mX3_placeFrom (d + 1) Q 35 ls (.int r :: st) P1) : X w mX3_placeFrom (d + 1) Q 32 ls (.int a2 :: .int a1 :: .int a0 :: .ref b :: st) P := X_callV (M := mX3_placeFrom) (MC := mX3_goesOnWith) (As := [.int a0, .int a1, .int a2]) (T := TX3) (dX3_placeFrom_32) calX3_goesOnWith xw_136 xw_137 xw_138 rfl rfl hP hC hst (fun v P2 h => by obtain ⟨h1, hR⟩ := h; cases h1; exact k P2 hR) (fun q P2 h => by cases h.1)
theorem sX3_placeFrom_32_t {b : Nat} {fs : List Value} {a0 : Int32} {a1 : Int32} {a2 : Int32} {q : Nat} {P1 : xH} (hst : (st.map fun v => v.category).sum ≤ 8) (hP : P.1 b = some (xO 2 fs)) (hC : xC w d mX3_goesOnWith [.ref b, .int a0, .int a1, .int a2] P (xThr q P1)) (hq : Q (.threw q) P1) : X w mX3_placeFrom (d + 1) Q 32 ls (.int a2 :: .int a1 :: .int a0 :: .ref b :: st) P := X_callV (M := mX3_placeFrom) (MC := mX3_goesOnWith) (As := [.int a0, .int a1, .int a2]) (T := TX3) (dX3_placeFrom_32) calX3_goesOnWith xw_136 xw_137 xw_138 rfl rfl hP hC hst (fun v P2 h => by cases h.1) (fun q2 P2 h => by obtain ⟨h1, rfl⟩ := h; cases h1; exact Xt_out rfl hq)
theorem dX3_placeFrom_35 : decode cX3_placeFrom 35 = .ok (.ifCond .eq 5, 3) := by decide +kernel
theorem sX3_placeFrom_35 {x : Int32} (kt : x = 0 → X w mX3_placeFrom d Q 40 ls st P) (kf : ¬ x = 0 → X w mX3_placeFrom d Q 38 ls st P) : X w mX3_placeFrom d Q 35 ls (.int x :: st) P := X_if_eq (M := mX3_placeFrom) (dX3_placeFrom_35) (by decide) kt kf
theorem dX3_placeFrom_38 : decode cX3_placeFrom 38 = .ok (.iconst 1, 1) := by decide +kernel
theorem sX3_placeFrom_38 (k : X w mX3_placeFrom d Q 39 ls (.int (1 : Int32) :: st) P) : X w mX3_placeFrom d Q 38 ls st P := X_iconst (M := mX3_placeFrom) (dX3_placeFrom_38) (by decide) k
theorem dX3_placeFrom_39 : decode cX3_placeFrom 39 = .ok (.ireturn, 1) := by decide +kernel
theorem sX3_placeFrom_39 {v : Int32} (hb : v = 0 ∨ v = 1) (hq : Q (.returned (some (.int v))) P) : X w mX3_placeFrom d Q 39 ls [.int v] P := X_zret (M := mX3_placeFrom) (ty := .boolean) (dX3_placeFrom_39) rfl (xz_n hb) hq
theorem dX3_placeFrom_40 : decode cX3_placeFrom 40 = .ok (.iinc 3 1, 3) := by decide +kernel
theorem sX3_placeFrom_40 {l0 l1 l2 : Option Value} {x : Int32} (hn : xnl l2 = true) (k : X w mX3_placeFrom d Q 43 [l0, l1, l2, some (.int (x + (1 : Int32)))] st P) : X w mX3_placeFrom d Q 40 [l0, l1, l2, some (.int x)] st P := X_iinc (M := mX3_placeFrom) (dX3_placeFrom_40) rfl (by rfl) (by decide) rfl (xnl_p (ls := [l0, l1, l2, some (.int x)]) (j := 2) rfl hn) k
theorem dX3_placeFrom_43 : decode cX3_placeFrom 43 = .ok (.goto (-31), 3) := by decide +kernel
theorem sX3_placeFrom_43 (k : X w mX3_placeFrom d Q 12 ls st P) : X w mX3_placeFrom d Q 43 ls st P := X_goto (M := mX3_placeFrom) (dX3_placeFrom_43) (by decide) k
theorem dX3_placeFrom_46 : decode cX3_placeFrom 46 = .ok (.iconst 0, 1) := by decide +kernel
theorem sX3_placeFrom_46 (k : X w mX3_placeFrom d Q 47 ls (.int (0 : Int32) :: st) P) : X w mX3_placeFrom d Q 46 ls st P := X_iconst (M := mX3_placeFrom) (dX3_placeFrom_46) (by decide) k
theorem dX3_placeFrom_47 : decode cX3_placeFrom 47 = .ok (.ireturn, 1) := by decide +kernel
theorem sX3_placeFrom_47 {v : Int32} (hb : v = 0 ∨ v = 1) (hq : Q (.returned (some (.int v))) P) : X w mX3_placeFrom d Q 47 ls [.int v] P := X_zret (M := mX3_placeFrom) (ty := .boolean) (dX3_placeFrom_47) rfl (xz_n hb) hq
theorem dX3_goesOnWith_0 : decode cX3_goesOnWith 0 = .ok (.aload_n 0, 1) := by decide +kernel
theorem sX3_goesOnWith_0 {l1 l2 l3 : Option Value} {x : Nat} (k : X w mX3_goesOnWith d Q 1 [some (.ref x), l1, l2, l3] (.ref x :: st) P) : X w mX3_goesOnWith d Q 0 [some (.ref x), l1, l2, l3] st P := X_aload_n (M := mX3_goesOnWith) (dX3_goesOnWith_0) rfl rfl k
theorem dX3_goesOnWith_1 : decode cX3_goesOnWith 1 = .ok (.iload_n 1, 1) := by decide +kernel
theorem sX3_goesOnWith_1 {l0 l2 l3 : Option Value} {x : Int32} (k : X w mX3_goesOnWith d Q 2 [l0, some (.int x), l2, l3] (.int x :: st) P) : X w mX3_goesOnWith d Q 1 [l0, some (.int x), l2, l3] st P := X_iload_n (M := mX3_goesOnWith) (dX3_goesOnWith_1) rfl rfl k
theorem dX3_goesOnWith_2 : decode cX3_goesOnWith 2 = .ok (.iload_n 2, 1) := by decide +kernel
theorem sX3_goesOnWith_2 {l0 l1 l3 : Option Value} {x : Int32} (k : X w mX3_goesOnWith d Q 3 [l0, l1, some (.int x), l3] (.int x :: st) P) : X w mX3_goesOnWith d Q 2 [l0, l1, some (.int x), l3] st P := X_iload_n (M := mX3_goesOnWith) (dX3_goesOnWith_2) rfl rfl k
theorem dX3_goesOnWith_3 : decode cX3_goesOnWith 3 = .ok (.invokevirtual 50, 3) := by decide +kernel
theorem sX3_goesOnWith_3_g {b : Nat} {fs : List Value} {a0 : Int32} {a1 : Int32} {Qc : Outcome → xH → Prop} (hst : (st.map fun v => v.category).sum ≤ 8) (hP : P.1 b = some (xO 2 fs)) (hC : xC w d mX3_fits [.ref b, .int a0, .int a1] P Qc) (kr : ∀ v P1, Qc (.returned v) P1 → X w mX3_goesOnWith (d + 1) Q 6 ls (v.toList ++ st) P1) (kt : ∀ q P1, Qc (.threw q) P1 → Xt w mX3_goesOnWith (d + 1) Q 3 ls st P1 q) : X w mX3_goesOnWith (d + 1) Q 3 ls (.int a1 :: .int a0 :: .ref b :: st) P := X_callV (M := mX3_goesOnWith) (MC := mX3_fits) (As := [.int a0, .int a1]) (T := TX3) (dX3_goesOnWith_3) calX3_fits xw_139 xw_140 xw_141 rfl rfl hP hC hst kr kt
theorem sX3_goesOnWith_3 {b : Nat} {fs : List Value} {a0 : Int32} {a1 : Int32} {r : Int32} {P1 : xH} (hst : (st.map fun v => v.category).sum ≤ 8) (hP : P.1 b = some (xO 2 fs)) (hC : xC w d mX3_fits [.ref b, .int a0, .int a1] P (xRet (some (.int r)) P1)) (k : X w mX3_goesOnWith (d + 1) Q 6 ls (.int r :: st) P1) : X w mX3_goesOnWith (d + 1) Q 3 ls (.int a1 :: .int a0 :: .ref b :: st) P := X_callV (M := mX3_goesOnWith) (MC := mX3_fits) (As := [.int a0, .int a1]) (T := TX3) (dX3_goesOnWith_3) calX3_fits xw_139 xw_140 xw_141 rfl rfl hP hC hst (fun v P2 h => by obtain ⟨h1, rfl⟩ := h; cases h1; exact k) (fun q P2 h => by cases h.1)
theorem sX3_goesOnWith_3_r {b : Nat} {fs : List Value} {a0 : Int32} {a1 : Int32} {r : Int32} {Rp : xH → Prop} (hst : (st.map fun v => v.category).sum ≤ 8) (hP : P.1 b = some (xO 2 fs)) (hC : xC w d mX3_fits [.ref b, .int a0, .int a1] P (xRl (some (.int r)) Rp)) (k : ∀ P1, Rp P1 → X w mX3_goesOnWith (d + 1) Q 6 ls (.int r :: st) P1) : X w mX3_goesOnWith (d + 1) Q 3 ls (.int a1 :: .int a0 :: .ref b :: st) P := X_callV (M := mX3_goesOnWith) (MC := mX3_fits) (As := [.int a0, .int a1]) (T := TX3) (dX3_goesOnWith_3) calX3_fits xw_139 xw_140 xw_141 rfl rfl hP hC hst (fun v P2 h => by obtain ⟨h1, hR⟩ := h; cases h1; exact k P2 hR) (fun q P2 h => by cases h.1)
theorem sX3_goesOnWith_3_t {b : Nat} {fs : List Value} {a0 : Int32} {a1 : Int32} {q : Nat} {P1 : xH} (hst : (st.map fun v => v.category).sum ≤ 8) (hP : P.1 b = some (xO 2 fs)) (hC : xC w d mX3_fits [.ref b, .int a0, .int a1] P (xThr q P1)) (hq : Q (.threw q) P1) : X w mX3_goesOnWith (d + 1) Q 3 ls (.int a1 :: .int a0 :: .ref b :: st) P := X_callV (M := mX3_goesOnWith) (MC := mX3_fits) (As := [.int a0, .int a1]) (T := TX3) (dX3_goesOnWith_3) calX3_fits xw_139 xw_140 xw_141 rfl rfl hP hC hst (fun v P2 h => by cases h.1) (fun q2 P2 h => by obtain ⟨h1, rfl⟩ := h; cases h1; exact Xt_out rfl hq)
theorem dX3_goesOnWith_6 : decode cX3_goesOnWith 6 = .ok (.ifCond .ne 5, 3) := by decide +kernel
theorem sX3_goesOnWith_6 {x : Int32} (kt : ¬ x = 0 → X w mX3_goesOnWith d Q 11 ls st P) (kf : x = 0 → X w mX3_goesOnWith d Q 9 ls st P) : X w mX3_goesOnWith d Q 6 ls (.int x :: st) P := X_if_ne (M := mX3_goesOnWith) (dX3_goesOnWith_6) (by decide) kt kf
theorem dX3_goesOnWith_9 : decode cX3_goesOnWith 9 = .ok (.iconst 0, 1) := by decide +kernel
theorem sX3_goesOnWith_9 (k : X w mX3_goesOnWith d Q 10 ls (.int (0 : Int32) :: st) P) : X w mX3_goesOnWith d Q 9 ls st P := X_iconst (M := mX3_goesOnWith) (dX3_goesOnWith_9) (by decide) k
theorem dX3_goesOnWith_10 : decode cX3_goesOnWith 10 = .ok (.ireturn, 1) := by decide +kernel
theorem sX3_goesOnWith_10 {v : Int32} (hb : v = 0 ∨ v = 1) (hq : Q (.returned (some (.int v))) P) : X w mX3_goesOnWith d Q 10 ls [.int v] P := X_zret (M := mX3_goesOnWith) (ty := .boolean) (dX3_goesOnWith_10) rfl (xz_n hb) hq
theorem dX3_goesOnWith_11 : decode cX3_goesOnWith 11 = .ok (.aload_n 0, 1) := by decide +kernel
theorem sX3_goesOnWith_11 {l1 l2 l3 : Option Value} {x : Nat} (k : X w mX3_goesOnWith d Q 12 [some (.ref x), l1, l2, l3] (.ref x :: st) P) : X w mX3_goesOnWith d Q 11 [some (.ref x), l1, l2, l3] st P := X_aload_n (M := mX3_goesOnWith) (dX3_goesOnWith_11) rfl rfl k
theorem dX3_goesOnWith_12 : decode cX3_goesOnWith 12 = .ok (.getfield 9, 3) := by decide +kernel
theorem sX3_goesOnWith_12 {a : Nat} {fs : List Value} {v : Nat} (hP : P.1 a = some (xO 2 fs)) (hv : fs[0]? = some (.ref v)) (k : X w mX3_goesOnWith d Q 15 ls (.ref v :: st) P) : X w mX3_goesOnWith d Q 12 ls (.ref a :: st) P := X_get (M := mX3_goesOnWith) (j := 0) (T := TX3) (dX3_goesOnWith_12) rfl (by decide) x_in3 xw_123 hP hv k
theorem dX3_goesOnWith_15 : decode cX3_goesOnWith 15 = .ok (.iload_n 1, 1) := by decide +kernel
theorem sX3_goesOnWith_15 {l0 l2 l3 : Option Value} {x : Int32} (k : X w mX3_goesOnWith d Q 16 [l0, some (.int x), l2, l3] (.int x :: st) P) : X w mX3_goesOnWith d Q 15 [l0, some (.int x), l2, l3] st P := X_iload_n (M := mX3_goesOnWith) (dX3_goesOnWith_15) rfl rfl k
theorem dX3_goesOnWith_16 : decode cX3_goesOnWith 16 = .ok (.iload_n 2, 1) := by decide +kernel
theorem sX3_goesOnWith_16 {l0 l1 l3 : Option Value} {x : Int32} (k : X w mX3_goesOnWith d Q 17 [l0, l1, some (.int x), l3] (.int x :: st) P) : X w mX3_goesOnWith d Q 16 [l0, l1, some (.int x), l3] st P := X_iload_n (M := mX3_goesOnWith) (dX3_goesOnWith_16) rfl rfl k
theorem dX3_goesOnWith_17 : decode cX3_goesOnWith 17 = .ok (.iastore, 1) := by decide +kernel
theorem sX3_goesOnWith_17 {a n : Nat} {f : Nat → Int32} {i x : Int32} (hP : P.1 a = some (xA 0 n f)) (hi : vp_in i n) (k : X w mX3_goesOnWith d Q 18 ls st (xs P a (xA 0 n (upd f i.toNatClampNeg x)))) : X w mX3_goesOnWith d Q 17 ls (.int x :: .int i :: .ref a :: st) P := X_iast (M := mX3_goesOnWith) (dX3_goesOnWith_17) hP hi k
theorem dX3_goesOnWith_18 : decode cX3_goesOnWith 18 = .ok (.aload_n 0, 1) := by decide +kernel
theorem sX3_goesOnWith_18 {l1 l2 l3 : Option Value} {x : Nat} (k : X w mX3_goesOnWith d Q 19 [some (.ref x), l1, l2, l3] (.ref x :: st) P) : X w mX3_goesOnWith d Q 18 [some (.ref x), l1, l2, l3] st P := X_aload_n (M := mX3_goesOnWith) (dX3_goesOnWith_18) rfl rfl k
theorem dX3_goesOnWith_19 : decode cX3_goesOnWith 19 = .ok (.getfield 19, 3) := by decide +kernel
theorem sX3_goesOnWith_19 {a : Nat} {fs : List Value} {v : Nat} (hP : P.1 a = some (xO 2 fs)) (hv : fs[2]? = some (.ref v)) (k : X w mX3_goesOnWith d Q 22 ls (.ref v :: st) P) : X w mX3_goesOnWith d Q 19 ls (.ref a :: st) P := X_get (M := mX3_goesOnWith) (j := 2) (T := TX3) (dX3_goesOnWith_19) rfl (by decide) x_in3 xw_125 hP hv k
theorem dX3_goesOnWith_22 : decode cX3_goesOnWith 22 = .ok (.iload_n 1, 1) := by decide +kernel
theorem sX3_goesOnWith_22 {l0 l2 l3 : Option Value} {x : Int32} (k : X w mX3_goesOnWith d Q 23 [l0, some (.int x), l2, l3] (.int x :: st) P) : X w mX3_goesOnWith d Q 22 [l0, some (.int x), l2, l3] st P := X_iload_n (M := mX3_goesOnWith) (dX3_goesOnWith_22) rfl rfl k
theorem dX3_goesOnWith_23 : decode cX3_goesOnWith 23 = .ok (.iload_n 2, 1) := by decide +kernel
theorem sX3_goesOnWith_23 {l0 l1 l3 : Option Value} {x : Int32} (k : X w mX3_goesOnWith d Q 24 [l0, l1, some (.int x), l3] (.int x :: st) P) : X w mX3_goesOnWith d Q 23 [l0, l1, some (.int x), l3] st P := X_iload_n (M := mX3_goesOnWith) (dX3_goesOnWith_23) rfl rfl k
theorem dX3_goesOnWith_24 : decode cX3_goesOnWith 24 = .ok (.invokestatic 38, 3) := by decide +kernel
theorem sX3_goesOnWith_24_g {a0 : Nat} {a1 : Int32} {a2 : Int32} {Qc : Outcome → xH → Prop} (hst : (st.map fun v => v.category).sum ≤ 8) (hC : xC w d mX3_split [.ref a0, .int a1, .int a2] P Qc) (kr : ∀ v P1, Qc (.returned v) P1 → X w mX3_goesOnWith (d + 1) Q 27 ls (v.toList ++ st) P1) (kt : ∀ q P1, Qc (.threw q) P1 → Xt w mX3_goesOnWith (d + 1) Q 24 ls st P1 q) : X w mX3_goesOnWith (d + 1) Q 24 ls (.int a2 :: .int a1 :: .ref a0 :: st) P := X_callS (M := mX3_goesOnWith) (MC := mX3_split) (As := [.ref a0, .int a1, .int a2]) (dX3_goesOnWith_24) calX3_split xw_131 xw_132 rfl hC hst kr kt
theorem sX3_goesOnWith_24 {a0 : Nat} {a1 : Int32} {a2 : Int32} {P1 : xH} (hst : (st.map fun v => v.category).sum ≤ 8) (hC : xC w d mX3_split [.ref a0, .int a1, .int a2] P (xRet none P1)) (k : X w mX3_goesOnWith (d + 1) Q 27 ls st P1) : X w mX3_goesOnWith (d + 1) Q 24 ls (.int a2 :: .int a1 :: .ref a0 :: st) P := X_callS (M := mX3_goesOnWith) (MC := mX3_split) (As := [.ref a0, .int a1, .int a2]) (dX3_goesOnWith_24) calX3_split xw_131 xw_132 rfl hC hst (fun v P2 h => by obtain ⟨h1, rfl⟩ := h; cases h1; exact k) (fun q P2 h => by cases h.1)
theorem sX3_goesOnWith_24_r {a0 : Nat} {a1 : Int32} {a2 : Int32} {Rp : xH → Prop} (hst : (st.map fun v => v.category).sum ≤ 8) (hC : xC w d mX3_split [.ref a0, .int a1, .int a2] P (xRl none Rp)) (k : ∀ P1, Rp P1 → X w mX3_goesOnWith (d + 1) Q 27 ls st P1) : X w mX3_goesOnWith (d + 1) Q 24 ls (.int a2 :: .int a1 :: .ref a0 :: st) P := X_callS (M := mX3_goesOnWith) (MC := mX3_split) (As := [.ref a0, .int a1, .int a2]) (dX3_goesOnWith_24) calX3_split xw_131 xw_132 rfl hC hst (fun v P2 h => by obtain ⟨h1, hR⟩ := h; cases h1; exact k P2 hR) (fun q P2 h => by cases h.1)
theorem sX3_goesOnWith_24_t {a0 : Nat} {a1 : Int32} {a2 : Int32} {q : Nat} {P1 : xH} (hst : (st.map fun v => v.category).sum ≤ 8) (hC : xC w d mX3_split [.ref a0, .int a1, .int a2] P (xThr q P1)) (hq : Q (.threw q) P1) : X w mX3_goesOnWith (d + 1) Q 24 ls (.int a2 :: .int a1 :: .ref a0 :: st) P := X_callS (M := mX3_goesOnWith) (MC := mX3_split) (As := [.ref a0, .int a1, .int a2]) (dX3_goesOnWith_24) calX3_split xw_131 xw_132 rfl hC hst (fun v P2 h => by cases h.1) (fun q2 P2 h => by obtain ⟨h1, rfl⟩ := h; cases h1; exact Xt_out rfl hq)
theorem dX3_goesOnWith_27 : decode cX3_goesOnWith 27 = .ok (.aload_n 0, 1) := by decide +kernel
theorem sX3_goesOnWith_27 {l1 l2 l3 : Option Value} {x : Nat} (k : X w mX3_goesOnWith d Q 28 [some (.ref x), l1, l2, l3] (.ref x :: st) P) : X w mX3_goesOnWith d Q 27 [some (.ref x), l1, l2, l3] st P := X_aload_n (M := mX3_goesOnWith) (dX3_goesOnWith_27) rfl rfl k
theorem dX3_goesOnWith_28 : decode cX3_goesOnWith 28 = .ok (.iload_n 1, 1) := by decide +kernel
theorem sX3_goesOnWith_28 {l0 l2 l3 : Option Value} {x : Int32} (k : X w mX3_goesOnWith d Q 29 [l0, some (.int x), l2, l3] (.int x :: st) P) : X w mX3_goesOnWith d Q 28 [l0, some (.int x), l2, l3] st P := X_iload_n (M := mX3_goesOnWith) (dX3_goesOnWith_28) rfl rfl k
theorem dX3_goesOnWith_29 : decode cX3_goesOnWith 29 = .ok (.iconst 1, 1) := by decide +kernel
theorem sX3_goesOnWith_29 (k : X w mX3_goesOnWith d Q 30 ls (.int (1 : Int32) :: st) P) : X w mX3_goesOnWith d Q 29 ls st P := X_iconst (M := mX3_goesOnWith) (dX3_goesOnWith_29) (by decide) k
theorem dX3_goesOnWith_30 : decode cX3_goesOnWith 30 = .ok (.iadd, 1) := by decide +kernel
theorem sX3_goesOnWith_30 {x y : Int32} (k : X w mX3_goesOnWith d Q 31 ls (.int (x + y) :: st) P) : X w mX3_goesOnWith d Q 30 ls (.int y :: .int x :: st) P := X_iadd (M := mX3_goesOnWith) (dX3_goesOnWith_30) k
theorem dX3_goesOnWith_31 : decode cX3_goesOnWith 31 = .ok (.iload_n 3, 1) := by decide +kernel
theorem sX3_goesOnWith_31 {l0 l1 l2 : Option Value} {x : Int32} (k : X w mX3_goesOnWith d Q 32 [l0, l1, l2, some (.int x)] (.int x :: st) P) : X w mX3_goesOnWith d Q 31 [l0, l1, l2, some (.int x)] st P := X_iload_n (M := mX3_goesOnWith) (dX3_goesOnWith_31) rfl rfl k
theorem dX3_goesOnWith_32 : decode cX3_goesOnWith 32 = .ok (.iconst 1, 1) := by decide +kernel
theorem sX3_goesOnWith_32 (k : X w mX3_goesOnWith d Q 33 ls (.int (1 : Int32) :: st) P) : X w mX3_goesOnWith d Q 32 ls st P := X_iconst (M := mX3_goesOnWith) (dX3_goesOnWith_32) (by decide) k
theorem dX3_goesOnWith_33 : decode cX3_goesOnWith 33 = .ok (.iload_n 2, 1) := by decide +kernel
theorem sX3_goesOnWith_33 {l0 l1 l3 : Option Value} {x : Int32} (k : X w mX3_goesOnWith d Q 34 [l0, l1, some (.int x), l3] (.int x :: st) P) : X w mX3_goesOnWith d Q 33 [l0, l1, some (.int x), l3] st P := X_iload_n (M := mX3_goesOnWith) (dX3_goesOnWith_33) rfl rfl k
theorem dX3_goesOnWith_34 : decode cX3_goesOnWith 34 = .ok (.ishl, 1) := by decide +kernel
theorem sX3_goesOnWith_34 {x y : Int32} (k : X w mX3_goesOnWith d Q 35 ls (.int (x <<< (y &&& 31)) :: st) P) : X w mX3_goesOnWith d Q 34 ls (.int y :: .int x :: st) P := X_ishl (M := mX3_goesOnWith) (dX3_goesOnWith_34) k
theorem dX3_goesOnWith_35 : decode cX3_goesOnWith 35 = .ok (.ior, 1) := by decide +kernel
theorem sX3_goesOnWith_35 {x y : Int32} (k : X w mX3_goesOnWith d Q 36 ls (.int (x ||| y) :: st) P) : X w mX3_goesOnWith d Q 35 ls (.int y :: .int x :: st) P := X_ior (M := mX3_goesOnWith) (dX3_goesOnWith_35) k
theorem dX3_goesOnWith_36 : decode cX3_goesOnWith 36 = .ok (.invokevirtual 42, 3) := by decide +kernel
theorem sX3_goesOnWith_36_g {b : Nat} {fs : List Value} {a0 : Int32} {a1 : Int32} {Qc : Outcome → xH → Prop} (hst : (st.map fun v => v.category).sum ≤ 8) (hP : P.1 b = some (xO 2 fs)) (hC : xC w d mX3_placeFrom [.ref b, .int a0, .int a1] P Qc) (kr : ∀ v P1, Qc (.returned v) P1 → X w mX3_goesOnWith (d + 1) Q 39 ls (v.toList ++ st) P1) (kt : ∀ q P1, Qc (.threw q) P1 → Xt w mX3_goesOnWith (d + 1) Q 36 ls st P1 q) : X w mX3_goesOnWith (d + 1) Q 36 ls (.int a1 :: .int a0 :: .ref b :: st) P := X_callV (M := mX3_goesOnWith) (MC := mX3_placeFrom) (As := [.int a0, .int a1]) (T := TX3) (dX3_goesOnWith_36) calX3_placeFrom xw_133 xw_134 xw_135 rfl rfl hP hC hst kr kt
theorem sX3_goesOnWith_36 {b : Nat} {fs : List Value} {a0 : Int32} {a1 : Int32} {r : Int32} {P1 : xH} (hst : (st.map fun v => v.category).sum ≤ 8) (hP : P.1 b = some (xO 2 fs)) (hC : xC w d mX3_placeFrom [.ref b, .int a0, .int a1] P (xRet (some (.int r)) P1)) (k : X w mX3_goesOnWith (d + 1) Q 39 ls (.int r :: st) P1) : X w mX3_goesOnWith (d + 1) Q 36 ls (.int a1 :: .int a0 :: .ref b :: st) P := X_callV (M := mX3_goesOnWith) (MC := mX3_placeFrom) (As := [.int a0, .int a1]) (T := TX3) (dX3_goesOnWith_36) calX3_placeFrom xw_133 xw_134 xw_135 rfl rfl hP hC hst (fun v P2 h => by obtain ⟨h1, rfl⟩ := h; cases h1; exact k) (fun q P2 h => by cases h.1)
theorem sX3_goesOnWith_36_r {b : Nat} {fs : List Value} {a0 : Int32} {a1 : Int32} {r : Int32} {Rp : xH → Prop} (hst : (st.map fun v => v.category).sum ≤ 8) (hP : P.1 b = some (xO 2 fs)) (hC : xC w d mX3_placeFrom [.ref b, .int a0, .int a1] P (xRl (some (.int r)) Rp)) (k : ∀ P1, Rp P1 → X w mX3_goesOnWith (d + 1) Q 39 ls (.int r :: st) P1) : X w mX3_goesOnWith (d + 1) Q 36 ls (.int a1 :: .int a0 :: .ref b :: st) P := X_callV (M := mX3_goesOnWith) (MC := mX3_placeFrom) (As := [.int a0, .int a1]) (T := TX3) (dX3_goesOnWith_36) calX3_placeFrom xw_133 xw_134 xw_135 rfl rfl hP hC hst (fun v P2 h => by obtain ⟨h1, hR⟩ := h; cases h1; exact k P2 hR) (fun q P2 h => by cases h.1)
theorem sX3_goesOnWith_36_t {b : Nat} {fs : List Value} {a0 : Int32} {a1 : Int32} {q : Nat} {P1 : xH} (hst : (st.map fun v => v.category).sum ≤ 8) (hP : P.1 b = some (xO 2 fs)) (hC : xC w d mX3_placeFrom [.ref b, .int a0, .int a1] P (xThr q P1)) (hq : Q (.threw q) P1) : X w mX3_goesOnWith (d + 1) Q 36 ls (.int a1 :: .int a0 :: .ref b :: st) P := X_callV (M := mX3_goesOnWith) (MC := mX3_placeFrom) (As := [.int a0, .int a1]) (T := TX3) (dX3_goesOnWith_36) calX3_placeFrom xw_133 xw_134 xw_135 rfl rfl hP hC hst (fun v P2 h => by cases h.1) (fun q2 P2 h => by obtain ⟨h1, rfl⟩ := h; cases h1; exact Xt_out rfl hq)
theorem dX3_goesOnWith_39 : decode cX3_goesOnWith 39 = .ok (.ireturn, 1) := by decide +kernel
theorem sX3_goesOnWith_39 {v : Int32} (hb : v = 0 ∨ v = 1) (hq : Q (.returned (some (.int v))) P) : X w mX3_goesOnWith d Q 39 ls [.int v] P := X_zret (M := mX3_goesOnWith) (ty := .boolean) (dX3_goesOnWith_39) rfl (xz_n hb) hq
theorem dX3_fits_0 : decode cX3_fits 0 = .ok (.iconst 1, 1) := by decide +kernel
theorem sX3_fits_0 (k : X w mX3_fits d Q 1 ls (.int (1 : Int32) :: st) P) : X w mX3_fits d Q 0 ls st P := X_iconst (M := mX3_fits) (dX3_fits_0) (by decide) k
theorem dX3_fits_1 : decode cX3_fits 1 = .ok (.iload_n 1, 1) := by decide +kernel
theorem sX3_fits_1 {l0 l2 l3 l4 l5 : Option Value} {x : Int32} (k : X w mX3_fits d Q 2 [l0, some (.int x), l2, l3, l4, l5] (.int x :: st) P) : X w mX3_fits d Q 1 [l0, some (.int x), l2, l3, l4, l5] st P := X_iload_n (M := mX3_fits) (dX3_fits_1) rfl rfl k
theorem dX3_fits_2 : decode cX3_fits 2 = .ok (.ishl, 1) := by decide +kernel
theorem sX3_fits_2 {x y : Int32} (k : X w mX3_fits d Q 3 ls (.int (x <<< (y &&& 31)) :: st) P) : X w mX3_fits d Q 2 ls (.int y :: .int x :: st) P := X_ishl (M := mX3_fits) (dX3_fits_2) k
theorem dX3_fits_3 : decode cX3_fits 3 = .ok (.istore_n 3, 1) := by decide +kernel
theorem sX3_fits_3 {l0 l1 l2 l3 l4 l5 : Option Value} {x : Int32} (hn : xnl l2 = true) (k : X w mX3_fits d Q 4 [l0, l1, l2, some (.int x), l4, l5] st P) : X w mX3_fits d Q 3 [l0, l1, l2, l3, l4, l5] (.int x :: st) P := X_istore_n (M := mX3_fits) (dX3_fits_3) rfl (by decide) rfl (xnl_p (ls := [l0, l1, l2, l3, l4, l5]) (j := 2) rfl hn) k
theorem dX3_fits_4 : decode cX3_fits 4 = .ok (.iload_n 3, 1) := by decide +kernel
theorem sX3_fits_4 {l0 l1 l2 l4 l5 : Option Value} {x : Int32} (k : X w mX3_fits d Q 5 [l0, l1, l2, some (.int x), l4, l5] (.int x :: st) P) : X w mX3_fits d Q 4 [l0, l1, l2, some (.int x), l4, l5] st P := X_iload_n (M := mX3_fits) (dX3_fits_4) rfl rfl k
theorem dX3_fits_5 : decode cX3_fits 5 = .ok (.iconst 2, 1) := by decide +kernel
theorem sX3_fits_5 (k : X w mX3_fits d Q 6 ls (.int (2 : Int32) :: st) P) : X w mX3_fits d Q 5 ls st P := X_iconst (M := mX3_fits) (dX3_fits_5) (by decide) k
theorem dX3_fits_6 : decode cX3_fits 6 = .ok (.iload_n 1, 1) := by decide +kernel
theorem sX3_fits_6 {l0 l2 l3 l4 l5 : Option Value} {x : Int32} (k : X w mX3_fits d Q 7 [l0, some (.int x), l2, l3, l4, l5] (.int x :: st) P) : X w mX3_fits d Q 6 [l0, some (.int x), l2, l3, l4, l5] st P := X_iload_n (M := mX3_fits) (dX3_fits_6) rfl rfl k
theorem dX3_fits_7 : decode cX3_fits 7 = .ok (.ishl, 1) := by decide +kernel
theorem sX3_fits_7 {x y : Int32} (k : X w mX3_fits d Q 8 ls (.int (x <<< (y &&& 31)) :: st) P) : X w mX3_fits d Q 7 ls (.int y :: .int x :: st) P := X_ishl (M := mX3_fits) (dX3_fits_7) k
theorem dX3_fits_8 : decode cX3_fits 8 = .ok (.if_icmp .ge 46, 3) := by decide +kernel
theorem sX3_fits_8 {x y : Int32} (kt : y ≤ x → X w mX3_fits d Q 54 ls st P) (kf : ¬ y ≤ x → X w mX3_fits d Q 11 ls st P) : X w mX3_fits d Q 8 ls (.int y :: .int x :: st) P := X_icmp_ge (M := mX3_fits) (dX3_fits_8) (by decide) kt kf
theorem dX3_fits_11 : decode cX3_fits 11 = .ok (.aload_n 0, 1) := by decide +kernel
theorem sX3_fits_11 {l1 l2 l3 l4 l5 : Option Value} {x : Nat} (k : X w mX3_fits d Q 12 [some (.ref x), l1, l2, l3, l4, l5] (.ref x :: st) P) : X w mX3_fits d Q 11 [some (.ref x), l1, l2, l3, l4, l5] st P := X_aload_n (M := mX3_fits) (dX3_fits_11) rfl rfl k
theorem dX3_fits_12 : decode cX3_fits 12 = .ok (.getfield 19, 3) := by decide +kernel
theorem sX3_fits_12 {a : Nat} {fs : List Value} {v : Nat} (hP : P.1 a = some (xO 2 fs)) (hv : fs[2]? = some (.ref v)) (k : X w mX3_fits d Q 15 ls (.ref v :: st) P) : X w mX3_fits d Q 12 ls (.ref a :: st) P := X_get (M := mX3_fits) (j := 2) (T := TX3) (dX3_fits_12) rfl (by decide) x_in3 xw_125 hP hv k
theorem dX3_fits_15 : decode cX3_fits 15 = .ok (.iload_n 3, 1) := by decide +kernel
theorem sX3_fits_15 {l0 l1 l2 l4 l5 : Option Value} {x : Int32} (k : X w mX3_fits d Q 16 [l0, l1, l2, some (.int x), l4, l5] (.int x :: st) P) : X w mX3_fits d Q 15 [l0, l1, l2, some (.int x), l4, l5] st P := X_iload_n (M := mX3_fits) (dX3_fits_15) rfl rfl k
theorem dX3_fits_16 : decode cX3_fits 16 = .ok (.laload, 1) := by decide +kernel
theorem sX3_fits_16 {a n : Nat} {f : Nat → Int64} {i : Int32} (hP : P.1 a = some (xJ n f)) (hi : vp_in i n) (k : X w mX3_fits d Q 17 ls (.long (f i.toNatClampNeg) :: st) P) : X w mX3_fits d Q 16 ls (.int i :: .ref a :: st) P := X_lald (M := mX3_fits) (dX3_fits_16) hP hi k
theorem sX3_fits_16_in {i : Int32} (hi : vp_in i 6) (k : X w mX3_fits d Q 17 ls (.long (xN i.toNatClampNeg) :: st) P) : X w mX3_fits d Q 16 ls (.int i :: .ref (w.ad 1) :: st) P := X_inld (M := mX3_fits) (dX3_fits_16) hi k
theorem dX3_fits_17 : decode cX3_fits 17 = .ok (.getstatic 53, 3) := by decide +kernel
theorem sX3_fits_17 (k : X w mX3_fits d Q 20 ls (.ref (w.ad 1) :: st) P) : X w mX3_fits d Q 17 ls st P := X_getsInN (M := mX3_fits) (dX3_fits_17) xw_142 k
theorem dX3_fits_20 : decode cX3_fits 20 = .ok (.iload_n 2, 1) := by decide +kernel
theorem sX3_fits_20 {l0 l1 l3 l4 l5 : Option Value} {x : Int32} (k : X w mX3_fits d Q 21 [l0, l1, some (.int x), l3, l4, l5] (.int x :: st) P) : X w mX3_fits d Q 20 [l0, l1, some (.int x), l3, l4, l5] st P := X_iload_n (M := mX3_fits) (dX3_fits_20) rfl rfl k
theorem dX3_fits_21 : decode cX3_fits 21 = .ok (.laload, 1) := by decide +kernel
theorem sX3_fits_21 {a n : Nat} {f : Nat → Int64} {i : Int32} (hP : P.1 a = some (xJ n f)) (hi : vp_in i n) (k : X w mX3_fits d Q 22 ls (.long (f i.toNatClampNeg) :: st) P) : X w mX3_fits d Q 21 ls (.int i :: .ref a :: st) P := X_lald (M := mX3_fits) (dX3_fits_21) hP hi k
theorem sX3_fits_21_in {i : Int32} (hi : vp_in i 6) (k : X w mX3_fits d Q 22 ls (.long (xN i.toNatClampNeg) :: st) P) : X w mX3_fits d Q 21 ls (.int i :: .ref (w.ad 1) :: st) P := X_inld (M := mX3_fits) (dX3_fits_21) hi k
theorem dX3_fits_22 : decode cX3_fits 22 = .ok (.land, 1) := by decide +kernel
theorem sX3_fits_22 {x y : Int64} (k : X w mX3_fits d Q 23 ls (.long (x &&& y) :: st) P) : X w mX3_fits d Q 22 ls (.long y :: .long x :: st) P := X_land (M := mX3_fits) (dX3_fits_22) k
theorem dX3_fits_23 : decode cX3_fits 23 = .ok (.lstore 4, 2) := by decide +kernel
theorem sX3_fits_23 {l0 l1 l2 l3 l4 l5 : Option Value} {x : Int64} (hn : xnl l3 = true) (k : X w mX3_fits d Q 25 [l0, l1, l2, l3, some (.long x), none] st P) : X w mX3_fits d Q 23 [l0, l1, l2, l3, l4, l5] (.long x :: st) P := X_lstore (M := mX3_fits) (dX3_fits_23) (by decide) rfl (xnl_p (ls := [l0, l1, l2, l3, l4, l5]) (j := 3) rfl hn) k
theorem dX3_fits_25 : decode cX3_fits 25 = .ok (.aload_n 0, 1) := by decide +kernel
theorem sX3_fits_25 {l1 l2 l3 l4 l5 : Option Value} {x : Nat} (k : X w mX3_fits d Q 26 [some (.ref x), l1, l2, l3, l4, l5] (.ref x :: st) P) : X w mX3_fits d Q 25 [some (.ref x), l1, l2, l3, l4, l5] st P := X_aload_n (M := mX3_fits) (dX3_fits_25) rfl rfl k
theorem dX3_fits_26 : decode cX3_fits 26 = .ok (.getfield 15, 3) := by decide +kernel
theorem sX3_fits_26 {a : Nat} {fs : List Value} {v : Nat} (hP : P.1 a = some (xO 2 fs)) (hv : fs[1]? = some (.ref v)) (k : X w mX3_fits d Q 29 ls (.ref v :: st) P) : X w mX3_fits d Q 26 ls (.ref a :: st) P := X_get (M := mX3_fits) (j := 1) (T := TX3) (dX3_fits_26) rfl (by decide) x_in3 xw_124 hP hv k
theorem dX3_fits_29 : decode cX3_fits 29 = .ok (.iconst 2, 1) := by decide +kernel
theorem sX3_fits_29 (k : X w mX3_fits d Q 30 ls (.int (2 : Int32) :: st) P) : X w mX3_fits d Q 29 ls st P := X_iconst (M := mX3_fits) (dX3_fits_29) (by decide) k
theorem dX3_fits_30 : decode cX3_fits 30 = .ok (.iload_n 3, 1) := by decide +kernel
theorem sX3_fits_30 {l0 l1 l2 l4 l5 : Option Value} {x : Int32} (k : X w mX3_fits d Q 31 [l0, l1, l2, some (.int x), l4, l5] (.int x :: st) P) : X w mX3_fits d Q 30 [l0, l1, l2, some (.int x), l4, l5] st P := X_iload_n (M := mX3_fits) (dX3_fits_30) rfl rfl k
theorem dX3_fits_31 : decode cX3_fits 31 = .ok (.imul, 1) := by decide +kernel
theorem sX3_fits_31 {x y : Int32} (k : X w mX3_fits d Q 32 ls (.int (x * y) :: st) P) : X w mX3_fits d Q 31 ls (.int y :: .int x :: st) P := X_imul (M := mX3_fits) (dX3_fits_31) k
theorem dX3_fits_32 : decode cX3_fits 32 = .ok (.iconst 1, 1) := by decide +kernel
theorem sX3_fits_32 (k : X w mX3_fits d Q 33 ls (.int (1 : Int32) :: st) P) : X w mX3_fits d Q 32 ls st P := X_iconst (M := mX3_fits) (dX3_fits_32) (by decide) k
theorem dX3_fits_33 : decode cX3_fits 33 = .ok (.iadd, 1) := by decide +kernel
theorem sX3_fits_33 {x y : Int32} (k : X w mX3_fits d Q 34 ls (.int (x + y) :: st) P) : X w mX3_fits d Q 33 ls (.int y :: .int x :: st) P := X_iadd (M := mX3_fits) (dX3_fits_33) k
theorem dX3_fits_34 : decode cX3_fits 34 = .ok (.laload, 1) := by decide +kernel
theorem sX3_fits_34 {a n : Nat} {f : Nat → Int64} {i : Int32} (hP : P.1 a = some (xJ n f)) (hi : vp_in i n) (k : X w mX3_fits d Q 35 ls (.long (f i.toNatClampNeg) :: st) P) : X w mX3_fits d Q 34 ls (.int i :: .ref a :: st) P := X_lald (M := mX3_fits) (dX3_fits_34) hP hi k
theorem sX3_fits_34_in {i : Int32} (hi : vp_in i 6) (k : X w mX3_fits d Q 35 ls (.long (xN i.toNatClampNeg) :: st) P) : X w mX3_fits d Q 34 ls (.int i :: .ref (w.ad 1) :: st) P := X_inld (M := mX3_fits) (dX3_fits_34) hi k
theorem dX3_fits_35 : decode cX3_fits 35 = .ok (.invokestatic 32, 3) := by decide +kernel
theorem sX3_fits_35_g {a0 : Int64} {Qc : Outcome → xH → Prop} (hst : (st.map fun v => v.category).sum ≤ 8) (hC : xC w d mJ13_bitCount_95d88 [.long a0] P Qc) (kr : ∀ v P1, Qc (.returned v) P1 → X w mX3_fits (d + 1) Q 38 ls (v.toList ++ st) P1) (kt : ∀ q P1, Qc (.threw q) P1 → Xt w mX3_fits (d + 1) Q 35 ls st P1 q) : X w mX3_fits (d + 1) Q 35 ls (.long a0 :: st) P := X_callS (M := mX3_fits) (MC := mJ13_bitCount_95d88) (As := [.long a0]) (dX3_fits_35) calJ13_bitCount_95d88 xw_129 xw_130 rfl hC hst kr kt
theorem sX3_fits_35 {a0 : Int64} {r : Int32} {P1 : xH} (hst : (st.map fun v => v.category).sum ≤ 8) (hC : xC w d mJ13_bitCount_95d88 [.long a0] P (xRet (some (.int r)) P1)) (k : X w mX3_fits (d + 1) Q 38 ls (.int r :: st) P1) : X w mX3_fits (d + 1) Q 35 ls (.long a0 :: st) P := X_callS (M := mX3_fits) (MC := mJ13_bitCount_95d88) (As := [.long a0]) (dX3_fits_35) calJ13_bitCount_95d88 xw_129 xw_130 rfl hC hst (fun v P2 h => by obtain ⟨h1, rfl⟩ := h; cases h1; exact k) (fun q P2 h => by cases h.1)
theorem sX3_fits_35_r {a0 : Int64} {r : Int32} {Rp : xH → Prop} (hst : (st.map fun v => v.category).sum ≤ 8) (hC : xC w d mJ13_bitCount_95d88 [.long a0] P (xRl (some (.int r)) Rp)) (k : ∀ P1, Rp P1 → X w mX3_fits (d + 1) Q 38 ls (.int r :: st) P1) : X w mX3_fits (d + 1) Q 35 ls (.long a0 :: st) P := X_callS (M := mX3_fits) (MC := mJ13_bitCount_95d88) (As := [.long a0]) (dX3_fits_35) calJ13_bitCount_95d88 xw_129 xw_130 rfl hC hst (fun v P2 h => by obtain ⟨h1, hR⟩ := h; cases h1; exact k P2 hR) (fun q P2 h => by cases h.1)
theorem sX3_fits_35_t {a0 : Int64} {q : Nat} {P1 : xH} (hst : (st.map fun v => v.category).sum ≤ 8) (hC : xC w d mJ13_bitCount_95d88 [.long a0] P (xThr q P1)) (hq : Q (.threw q) P1) : X w mX3_fits (d + 1) Q 35 ls (.long a0 :: st) P := X_callS (M := mX3_fits) (MC := mJ13_bitCount_95d88) (As := [.long a0]) (dX3_fits_35) calJ13_bitCount_95d88 xw_129 xw_130 rfl hC hst (fun v P2 h => by cases h.1) (fun q2 P2 h => by obtain ⟨h1, rfl⟩ := h; cases h1; exact Xt_out rfl hq)
theorem dX3_fits_38 : decode cX3_fits 38 = .ok (.lload 4, 2) := by decide +kernel
theorem sX3_fits_38 {l0 l1 l2 l3 l5 : Option Value} {x : Int64} (k : X w mX3_fits d Q 40 [l0, l1, l2, l3, some (.long x), l5] (.long x :: st) P) : X w mX3_fits d Q 38 [l0, l1, l2, l3, some (.long x), l5] st P := X_lload (M := mX3_fits) (dX3_fits_38) rfl k
theorem dX3_fits_40 : decode cX3_fits 40 = .ok (.invokestatic 32, 3) := by decide +kernel
theorem sX3_fits_40_g {a0 : Int64} {Qc : Outcome → xH → Prop} (hst : (st.map fun v => v.category).sum ≤ 8) (hC : xC w d mJ13_bitCount_95d88 [.long a0] P Qc) (kr : ∀ v P1, Qc (.returned v) P1 → X w mX3_fits (d + 1) Q 43 ls (v.toList ++ st) P1) (kt : ∀ q P1, Qc (.threw q) P1 → Xt w mX3_fits (d + 1) Q 40 ls st P1 q) : X w mX3_fits (d + 1) Q 40 ls (.long a0 :: st) P := X_callS (M := mX3_fits) (MC := mJ13_bitCount_95d88) (As := [.long a0]) (dX3_fits_40) calJ13_bitCount_95d88 xw_129 xw_130 rfl hC hst kr kt
theorem sX3_fits_40 {a0 : Int64} {r : Int32} {P1 : xH} (hst : (st.map fun v => v.category).sum ≤ 8) (hC : xC w d mJ13_bitCount_95d88 [.long a0] P (xRet (some (.int r)) P1)) (k : X w mX3_fits (d + 1) Q 43 ls (.int r :: st) P1) : X w mX3_fits (d + 1) Q 40 ls (.long a0 :: st) P := X_callS (M := mX3_fits) (MC := mJ13_bitCount_95d88) (As := [.long a0]) (dX3_fits_40) calJ13_bitCount_95d88 xw_129 xw_130 rfl hC hst (fun v P2 h => by obtain ⟨h1, rfl⟩ := h; cases h1; exact k) (fun q P2 h => by cases h.1)
theorem sX3_fits_40_r {a0 : Int64} {r : Int32} {Rp : xH → Prop} (hst : (st.map fun v => v.category).sum ≤ 8) (hC : xC w d mJ13_bitCount_95d88 [.long a0] P (xRl (some (.int r)) Rp)) (k : ∀ P1, Rp P1 → X w mX3_fits (d + 1) Q 43 ls (.int r :: st) P1) : X w mX3_fits (d + 1) Q 40 ls (.long a0 :: st) P := X_callS (M := mX3_fits) (MC := mJ13_bitCount_95d88) (As := [.long a0]) (dX3_fits_40) calJ13_bitCount_95d88 xw_129 xw_130 rfl hC hst (fun v P2 h => by obtain ⟨h1, hR⟩ := h; cases h1; exact k P2 hR) (fun q P2 h => by cases h.1)
theorem sX3_fits_40_t {a0 : Int64} {q : Nat} {P1 : xH} (hst : (st.map fun v => v.category).sum ≤ 8) (hC : xC w d mJ13_bitCount_95d88 [.long a0] P (xThr q P1)) (hq : Q (.threw q) P1) : X w mX3_fits (d + 1) Q 40 ls (.long a0 :: st) P := X_callS (M := mX3_fits) (MC := mJ13_bitCount_95d88) (As := [.long a0]) (dX3_fits_40) calJ13_bitCount_95d88 xw_129 xw_130 rfl hC hst (fun v P2 h => by cases h.1) (fun q2 P2 h => by obtain ⟨h1, rfl⟩ := h; cases h1; exact Xt_out rfl hq)
theorem dX3_fits_43 : decode cX3_fits 43 = .ok (.if_icmp .eq 5, 3) := by decide +kernel
theorem sX3_fits_43 {x y : Int32} (kt : x = y → X w mX3_fits d Q 48 ls st P) (kf : ¬ x = y → X w mX3_fits d Q 46 ls st P) : X w mX3_fits d Q 43 ls (.int y :: .int x :: st) P := X_icmp_eq (M := mX3_fits) (dX3_fits_43) (by decide) kt kf
theorem dX3_fits_46 : decode cX3_fits 46 = .ok (.iconst 0, 1) := by decide +kernel
theorem sX3_fits_46 (k : X w mX3_fits d Q 47 ls (.int (0 : Int32) :: st) P) : X w mX3_fits d Q 46 ls st P := X_iconst (M := mX3_fits) (dX3_fits_46) (by decide) k
theorem dX3_fits_47 : decode cX3_fits 47 = .ok (.ireturn, 1) := by decide +kernel
theorem sX3_fits_47 {v : Int32} (hb : v = 0 ∨ v = 1) (hq : Q (.returned (some (.int v))) P) : X w mX3_fits d Q 47 ls [.int v] P := X_zret (M := mX3_fits) (ty := .boolean) (dX3_fits_47) rfl (xz_n hb) hq
theorem dX3_fits_48 : decode cX3_fits 48 = .ok (.iinc 3 1, 3) := by decide +kernel
theorem sX3_fits_48 {l0 l1 l2 l4 l5 : Option Value} {x : Int32} (hn : xnl l2 = true) (k : X w mX3_fits d Q 51 [l0, l1, l2, some (.int (x + (1 : Int32))), l4, l5] st P) : X w mX3_fits d Q 48 [l0, l1, l2, some (.int x), l4, l5] st P := X_iinc (M := mX3_fits) (dX3_fits_48) rfl (by rfl) (by decide) rfl (xnl_p (ls := [l0, l1, l2, some (.int x), l4, l5]) (j := 2) rfl hn) k
theorem dX3_fits_51 : decode cX3_fits 51 = .ok (.goto (-47), 3) := by decide +kernel
theorem sX3_fits_51 (k : X w mX3_fits d Q 4 ls st P) : X w mX3_fits d Q 51 ls st P := X_goto (M := mX3_fits) (dX3_fits_51) (by decide) k
theorem dX3_fits_54 : decode cX3_fits 54 = .ok (.iconst 1, 1) := by decide +kernel
theorem sX3_fits_54 (k : X w mX3_fits d Q 55 ls (.int (1 : Int32) :: st) P) : X w mX3_fits d Q 54 ls st P := X_iconst (M := mX3_fits) (dX3_fits_54) (by decide) k
theorem dX3_fits_55 : decode cX3_fits 55 = .ok (.ireturn, 1) := by decide +kernel
theorem sX3_fits_55 {v : Int32} (hb : v = 0 ∨ v = 1) (hq : Q (.returned (some (.int v))) P) : X w mX3_fits d Q 55 ls [.int v] P := X_zret (M := mX3_fits) (ty := .boolean) (dX3_fits_55) rfl (xz_n hb) hq
theorem dX3_split_0 : decode cX3_split 0 = .ok (.iconst 1, 1) := by decide +kernel
theorem sX3_split_0 (k : X w mX3_split d Q 1 ls (.int (1 : Int32) :: st) P) : X w mX3_split d Q 0 ls st P := X_iconst (M := mX3_split) (dX3_split_0) (by decide) k
theorem dX3_split_1 : decode cX3_split 1 = .ok (.iload_n 1, 1) := by decide +kernel
theorem sX3_split_1 {l0 l2 l3 : Option Value} {x : Int32} (k : X w mX3_split d Q 2 [l0, some (.int x), l2, l3] (.int x :: st) P) : X w mX3_split d Q 1 [l0, some (.int x), l2, l3] st P := X_iload_n (M := mX3_split) (dX3_split_1) rfl rfl k
theorem dX3_split_2 : decode cX3_split 2 = .ok (.ishl, 1) := by decide +kernel
theorem sX3_split_2 {x y : Int32} (k : X w mX3_split d Q 3 ls (.int (x <<< (y &&& 31)) :: st) P) : X w mX3_split d Q 2 ls (.int y :: .int x :: st) P := X_ishl (M := mX3_split) (dX3_split_2) k
theorem dX3_split_3 : decode cX3_split 3 = .ok (.istore_n 3, 1) := by decide +kernel
theorem sX3_split_3 {l0 l1 l2 l3 : Option Value} {x : Int32} (hn : xnl l2 = true) (k : X w mX3_split d Q 4 [l0, l1, l2, some (.int x)] st P) : X w mX3_split d Q 3 [l0, l1, l2, l3] (.int x :: st) P := X_istore_n (M := mX3_split) (dX3_split_3) rfl (by decide) rfl (xnl_p (ls := [l0, l1, l2, l3]) (j := 2) rfl hn) k
theorem dX3_split_4 : decode cX3_split 4 = .ok (.iload_n 3, 1) := by decide +kernel
theorem sX3_split_4 {l0 l1 l2 : Option Value} {x : Int32} (k : X w mX3_split d Q 5 [l0, l1, l2, some (.int x)] (.int x :: st) P) : X w mX3_split d Q 4 [l0, l1, l2, some (.int x)] st P := X_iload_n (M := mX3_split) (dX3_split_4) rfl rfl k
theorem dX3_split_5 : decode cX3_split 5 = .ok (.iconst 2, 1) := by decide +kernel
theorem sX3_split_5 (k : X w mX3_split d Q 6 ls (.int (2 : Int32) :: st) P) : X w mX3_split d Q 5 ls st P := X_iconst (M := mX3_split) (dX3_split_5) (by decide) k
theorem dX3_split_6 : decode cX3_split 6 = .ok (.iload_n 1, 1) := by decide +kernel
theorem sX3_split_6 {l0 l2 l3 : Option Value} {x : Int32} (k : X w mX3_split d Q 7 [l0, some (.int x), l2, l3] (.int x :: st) P) : X w mX3_split d Q 6 [l0, some (.int x), l2, l3] st P := X_iload_n (M := mX3_split) (dX3_split_6) rfl rfl k
theorem dX3_split_7 : decode cX3_split 7 = .ok (.ishl, 1) := by decide +kernel
theorem sX3_split_7 {x y : Int32} (k : X w mX3_split d Q 8 ls (.int (x <<< (y &&& 31)) :: st) P) : X w mX3_split d Q 7 ls (.int y :: .int x :: st) P := X_ishl (M := mX3_split) (dX3_split_7) k
theorem dX3_split_8 : decode cX3_split 8 = .ok (.if_icmp .ge 43, 3) := by decide +kernel
theorem sX3_split_8 {x y : Int32} (kt : y ≤ x → X w mX3_split d Q 51 ls st P) (kf : ¬ y ≤ x → X w mX3_split d Q 11 ls st P) : X w mX3_split d Q 8 ls (.int y :: .int x :: st) P := X_icmp_ge (M := mX3_split) (dX3_split_8) (by decide) kt kf
theorem dX3_split_11 : decode cX3_split 11 = .ok (.aload_n 0, 1) := by decide +kernel
theorem sX3_split_11 {l1 l2 l3 : Option Value} {x : Nat} (k : X w mX3_split d Q 12 [some (.ref x), l1, l2, l3] (.ref x :: st) P) : X w mX3_split d Q 11 [some (.ref x), l1, l2, l3] st P := X_aload_n (M := mX3_split) (dX3_split_11) rfl rfl k
theorem dX3_split_12 : decode cX3_split 12 = .ok (.iconst 2, 1) := by decide +kernel
theorem sX3_split_12 (k : X w mX3_split d Q 13 ls (.int (2 : Int32) :: st) P) : X w mX3_split d Q 12 ls st P := X_iconst (M := mX3_split) (dX3_split_12) (by decide) k
theorem dX3_split_13 : decode cX3_split 13 = .ok (.iload_n 3, 1) := by decide +kernel
theorem sX3_split_13 {l0 l1 l2 : Option Value} {x : Int32} (k : X w mX3_split d Q 14 [l0, l1, l2, some (.int x)] (.int x :: st) P) : X w mX3_split d Q 13 [l0, l1, l2, some (.int x)] st P := X_iload_n (M := mX3_split) (dX3_split_13) rfl rfl k
theorem dX3_split_14 : decode cX3_split 14 = .ok (.imul, 1) := by decide +kernel
theorem sX3_split_14 {x y : Int32} (k : X w mX3_split d Q 15 ls (.int (x * y) :: st) P) : X w mX3_split d Q 14 ls (.int y :: .int x :: st) P := X_imul (M := mX3_split) (dX3_split_14) k
theorem dX3_split_15 : decode cX3_split 15 = .ok (.aload_n 0, 1) := by decide +kernel
theorem sX3_split_15 {l1 l2 l3 : Option Value} {x : Nat} (k : X w mX3_split d Q 16 [some (.ref x), l1, l2, l3] (.ref x :: st) P) : X w mX3_split d Q 15 [some (.ref x), l1, l2, l3] st P := X_aload_n (M := mX3_split) (dX3_split_15) rfl rfl k
theorem dX3_split_16 : decode cX3_split 16 = .ok (.iload_n 3, 1) := by decide +kernel
theorem sX3_split_16 {l0 l1 l2 : Option Value} {x : Int32} (k : X w mX3_split d Q 17 [l0, l1, l2, some (.int x)] (.int x :: st) P) : X w mX3_split d Q 16 [l0, l1, l2, some (.int x)] st P := X_iload_n (M := mX3_split) (dX3_split_16) rfl rfl k
theorem dX3_split_17 : decode cX3_split 17 = .ok (.laload, 1) := by decide +kernel
theorem sX3_split_17 {a n : Nat} {f : Nat → Int64} {i : Int32} (hP : P.1 a = some (xJ n f)) (hi : vp_in i n) (k : X w mX3_split d Q 18 ls (.long (f i.toNatClampNeg) :: st) P) : X w mX3_split d Q 17 ls (.int i :: .ref a :: st) P := X_lald (M := mX3_split) (dX3_split_17) hP hi k
theorem sX3_split_17_in {i : Int32} (hi : vp_in i 6) (k : X w mX3_split d Q 18 ls (.long (xN i.toNatClampNeg) :: st) P) : X w mX3_split d Q 17 ls (.int i :: .ref (w.ad 1) :: st) P := X_inld (M := mX3_split) (dX3_split_17) hi k
theorem dX3_split_18 : decode cX3_split 18 = .ok (.getstatic 53, 3) := by decide +kernel
theorem sX3_split_18 (k : X w mX3_split d Q 21 ls (.ref (w.ad 1) :: st) P) : X w mX3_split d Q 18 ls st P := X_getsInN (M := mX3_split) (dX3_split_18) xw_142 k
theorem dX3_split_21 : decode cX3_split 21 = .ok (.iload_n 2, 1) := by decide +kernel
theorem sX3_split_21 {l0 l1 l3 : Option Value} {x : Int32} (k : X w mX3_split d Q 22 [l0, l1, some (.int x), l3] (.int x :: st) P) : X w mX3_split d Q 21 [l0, l1, some (.int x), l3] st P := X_iload_n (M := mX3_split) (dX3_split_21) rfl rfl k
theorem dX3_split_22 : decode cX3_split 22 = .ok (.laload, 1) := by decide +kernel
theorem sX3_split_22 {a n : Nat} {f : Nat → Int64} {i : Int32} (hP : P.1 a = some (xJ n f)) (hi : vp_in i n) (k : X w mX3_split d Q 23 ls (.long (f i.toNatClampNeg) :: st) P) : X w mX3_split d Q 22 ls (.int i :: .ref a :: st) P := X_lald (M := mX3_split) (dX3_split_22) hP hi k
theorem sX3_split_22_in {i : Int32} (hi : vp_in i 6) (k : X w mX3_split d Q 23 ls (.long (xN i.toNatClampNeg) :: st) P) : X w mX3_split d Q 22 ls (.int i :: .ref (w.ad 1) :: st) P := X_inld (M := mX3_split) (dX3_split_22) hi k
theorem dX3_split_23 : decode cX3_split 23 = .ok (.ldc2_w 58, 3) := by decide +kernel
theorem sX3_split_23 (k : X w mX3_split d Q 26 ls (.long (-1 : Int64) :: st) P) : X w mX3_split d Q 23 ls st P := X_ldc2 (M := mX3_split) (dX3_split_23) xw_143 k
theorem dX3_split_26 : decode cX3_split 26 = .ok (.lxor, 1) := by decide +kernel
theorem sX3_split_26 {x y : Int64} (k : X w mX3_split d Q 27 ls (.long (x ^^^ y) :: st) P) : X w mX3_split d Q 26 ls (.long y :: .long x :: st) P := X_lxor (M := mX3_split) (dX3_split_26) k
theorem dX3_split_27 : decode cX3_split 27 = .ok (.land, 1) := by decide +kernel
theorem sX3_split_27 {x y : Int64} (k : X w mX3_split d Q 28 ls (.long (x &&& y) :: st) P) : X w mX3_split d Q 27 ls (.long y :: .long x :: st) P := X_land (M := mX3_split) (dX3_split_27) k
theorem dX3_split_28 : decode cX3_split 28 = .ok (.lastore, 1) := by decide +kernel
theorem sX3_split_28 {a n : Nat} {f : Nat → Int64} {i : Int32} {x : Int64} (hP : P.1 a = some (xJ n f)) (hi : vp_in i n) (k : X w mX3_split d Q 29 ls st (xs P a (xJ n (vp_updL f i.toNatClampNeg x)))) : X w mX3_split d Q 28 ls (.long x :: .int i :: .ref a :: st) P := X_last (M := mX3_split) (dX3_split_28) hP hi k
theorem dX3_split_29 : decode cX3_split 29 = .ok (.aload_n 0, 1) := by decide +kernel
theorem sX3_split_29 {l1 l2 l3 : Option Value} {x : Nat} (k : X w mX3_split d Q 30 [some (.ref x), l1, l2, l3] (.ref x :: st) P) : X w mX3_split d Q 29 [some (.ref x), l1, l2, l3] st P := X_aload_n (M := mX3_split) (dX3_split_29) rfl rfl k
theorem dX3_split_30 : decode cX3_split 30 = .ok (.iconst 2, 1) := by decide +kernel
theorem sX3_split_30 (k : X w mX3_split d Q 31 ls (.int (2 : Int32) :: st) P) : X w mX3_split d Q 30 ls st P := X_iconst (M := mX3_split) (dX3_split_30) (by decide) k
theorem dX3_split_31 : decode cX3_split 31 = .ok (.iload_n 3, 1) := by decide +kernel
theorem sX3_split_31 {l0 l1 l2 : Option Value} {x : Int32} (k : X w mX3_split d Q 32 [l0, l1, l2, some (.int x)] (.int x :: st) P) : X w mX3_split d Q 31 [l0, l1, l2, some (.int x)] st P := X_iload_n (M := mX3_split) (dX3_split_31) rfl rfl k
theorem dX3_split_32 : decode cX3_split 32 = .ok (.imul, 1) := by decide +kernel
theorem sX3_split_32 {x y : Int32} (k : X w mX3_split d Q 33 ls (.int (x * y) :: st) P) : X w mX3_split d Q 32 ls (.int y :: .int x :: st) P := X_imul (M := mX3_split) (dX3_split_32) k
theorem dX3_split_33 : decode cX3_split 33 = .ok (.iconst 1, 1) := by decide +kernel
theorem sX3_split_33 (k : X w mX3_split d Q 34 ls (.int (1 : Int32) :: st) P) : X w mX3_split d Q 33 ls st P := X_iconst (M := mX3_split) (dX3_split_33) (by decide) k
theorem dX3_split_34 : decode cX3_split 34 = .ok (.iadd, 1) := by decide +kernel
theorem sX3_split_34 {x y : Int32} (k : X w mX3_split d Q 35 ls (.int (x + y) :: st) P) : X w mX3_split d Q 34 ls (.int y :: .int x :: st) P := X_iadd (M := mX3_split) (dX3_split_34) k
theorem dX3_split_35 : decode cX3_split 35 = .ok (.aload_n 0, 1) := by decide +kernel
theorem sX3_split_35 {l1 l2 l3 : Option Value} {x : Nat} (k : X w mX3_split d Q 36 [some (.ref x), l1, l2, l3] (.ref x :: st) P) : X w mX3_split d Q 35 [some (.ref x), l1, l2, l3] st P := X_aload_n (M := mX3_split) (dX3_split_35) rfl rfl k
theorem dX3_split_36 : decode cX3_split 36 = .ok (.iload_n 3, 1) := by decide +kernel
theorem sX3_split_36 {l0 l1 l2 : Option Value} {x : Int32} (k : X w mX3_split d Q 37 [l0, l1, l2, some (.int x)] (.int x :: st) P) : X w mX3_split d Q 36 [l0, l1, l2, some (.int x)] st P := X_iload_n (M := mX3_split) (dX3_split_36) rfl rfl k
theorem dX3_split_37 : decode cX3_split 37 = .ok (.laload, 1) := by decide +kernel
theorem sX3_split_37 {a n : Nat} {f : Nat → Int64} {i : Int32} (hP : P.1 a = some (xJ n f)) (hi : vp_in i n) (k : X w mX3_split d Q 38 ls (.long (f i.toNatClampNeg) :: st) P) : X w mX3_split d Q 37 ls (.int i :: .ref a :: st) P := X_lald (M := mX3_split) (dX3_split_37) hP hi k
theorem sX3_split_37_in {i : Int32} (hi : vp_in i 6) (k : X w mX3_split d Q 38 ls (.long (xN i.toNatClampNeg) :: st) P) : X w mX3_split d Q 37 ls (.int i :: .ref (w.ad 1) :: st) P := X_inld (M := mX3_split) (dX3_split_37) hi k
theorem dX3_split_38 : decode cX3_split 38 = .ok (.getstatic 53, 3) := by decide +kernel
theorem sX3_split_38 (k : X w mX3_split d Q 41 ls (.ref (w.ad 1) :: st) P) : X w mX3_split d Q 38 ls st P := X_getsInN (M := mX3_split) (dX3_split_38) xw_142 k
theorem dX3_split_41 : decode cX3_split 41 = .ok (.iload_n 2, 1) := by decide +kernel
theorem sX3_split_41 {l0 l1 l3 : Option Value} {x : Int32} (k : X w mX3_split d Q 42 [l0, l1, some (.int x), l3] (.int x :: st) P) : X w mX3_split d Q 41 [l0, l1, some (.int x), l3] st P := X_iload_n (M := mX3_split) (dX3_split_41) rfl rfl k
theorem dX3_split_42 : decode cX3_split 42 = .ok (.laload, 1) := by decide +kernel
theorem sX3_split_42 {a n : Nat} {f : Nat → Int64} {i : Int32} (hP : P.1 a = some (xJ n f)) (hi : vp_in i n) (k : X w mX3_split d Q 43 ls (.long (f i.toNatClampNeg) :: st) P) : X w mX3_split d Q 42 ls (.int i :: .ref a :: st) P := X_lald (M := mX3_split) (dX3_split_42) hP hi k
theorem sX3_split_42_in {i : Int32} (hi : vp_in i 6) (k : X w mX3_split d Q 43 ls (.long (xN i.toNatClampNeg) :: st) P) : X w mX3_split d Q 42 ls (.int i :: .ref (w.ad 1) :: st) P := X_inld (M := mX3_split) (dX3_split_42) hi k
theorem dX3_split_43 : decode cX3_split 43 = .ok (.land, 1) := by decide +kernel
theorem sX3_split_43 {x y : Int64} (k : X w mX3_split d Q 44 ls (.long (x &&& y) :: st) P) : X w mX3_split d Q 43 ls (.long y :: .long x :: st) P := X_land (M := mX3_split) (dX3_split_43) k
theorem dX3_split_44 : decode cX3_split 44 = .ok (.lastore, 1) := by decide +kernel
theorem sX3_split_44 {a n : Nat} {f : Nat → Int64} {i : Int32} {x : Int64} (hP : P.1 a = some (xJ n f)) (hi : vp_in i n) (k : X w mX3_split d Q 45 ls st (xs P a (xJ n (vp_updL f i.toNatClampNeg x)))) : X w mX3_split d Q 44 ls (.long x :: .int i :: .ref a :: st) P := X_last (M := mX3_split) (dX3_split_44) hP hi k
theorem dX3_split_45 : decode cX3_split 45 = .ok (.iinc 3 1, 3) := by decide +kernel
theorem sX3_split_45 {l0 l1 l2 : Option Value} {x : Int32} (hn : xnl l2 = true) (k : X w mX3_split d Q 48 [l0, l1, l2, some (.int (x + (1 : Int32)))] st P) : X w mX3_split d Q 45 [l0, l1, l2, some (.int x)] st P := X_iinc (M := mX3_split) (dX3_split_45) rfl (by rfl) (by decide) rfl (xnl_p (ls := [l0, l1, l2, some (.int x)]) (j := 2) rfl hn) k
theorem dX3_split_48 : decode cX3_split 48 = .ok (.goto (-44), 3) := by decide +kernel
theorem sX3_split_48 (k : X w mX3_split d Q 4 ls st P) : X w mX3_split d Q 48 ls st P := X_goto (M := mX3_split) (dX3_split_48) (by decide) k
theorem dX3_split_51 : decode cX3_split 51 = .ok (.return_, 1) := by decide +kernel
theorem sX3_split_51 (hq : Q (.returned none) P) : X w mX3_split d Q 51 ls [] P := X_vret (M := mX3_split) (dX3_split_51) rfl hq
theorem dX6_init_0 : decode cX6_init 0 = .ok (.aload_n 0, 1) := by decide +kernel
theorem sX6_init_0 {l1 : Option Value} {x : Nat} (k : X w mX6_init d Q 1 [some (.ref x), l1] (.ref x :: st) P) : X w mX6_init d Q 0 [some (.ref x), l1] st P := X_aload_n (M := mX6_init) (dX6_init_0) rfl rfl k
theorem dX6_init_1 : decode cX6_init 1 = .ok (.invokespecial 3, 3) := by decide +kernel
theorem sX6_init_1 {a : Nat} (hst : (st.map fun v => v.category).sum ≤ 8) (k : X w mX6_init d Q 4 ls st P) : X w mX6_init d Q 1 ls (.ref a :: st) P := X_objInit (M := mX6_init) (dX6_init_1) xw_144 xw_20 xw_21 hst k
theorem dX6_init_4 : decode cX6_init 4 = .ok (.aload_n 0, 1) := by decide +kernel
theorem sX6_init_4 {l1 : Option Value} {x : Nat} (k : X w mX6_init d Q 5 [some (.ref x), l1] (.ref x :: st) P) : X w mX6_init d Q 4 [some (.ref x), l1] st P := X_aload_n (M := mX6_init) (dX6_init_4) rfl rfl k
theorem dX6_init_5 : decode cX6_init 5 = .ok (.bipush 12, 2) := by decide +kernel
theorem sX6_init_5 (k : X w mX6_init d Q 7 ls (.int (12 : Int32) :: st) P) : X w mX6_init d Q 5 ls st P := X_bipush (M := mX6_init) (dX6_init_5) (by decide) k
theorem dX6_init_7 : decode cX6_init 7 = .ok (.newarray .long, 2) := by decide +kernel
theorem sX6_init_7 {n : Int32} {N : Nat} (hn : ¬ n < 0) (hN : n.toNatClampNeg = N) (hb : N ≤ 10000) (hr1 : P.2.1 + 1 ≤ w.z + 601024) (hr2 : P.2.2 + N ≤ 7293034) (k : X w mX6_init d Q 9 ls (.ref P.2.1 :: st) (xal P (xJ N (fun _ => 0)) N)) : X w mX6_init d Q 7 ls (.int n :: st) P := X_newaJ (M := mX6_init) (dX6_init_7) xw_60 hn hN hb hr1 hr2 k
theorem dX6_init_9 : decode cX6_init 9 = .ok (.putfield 9, 3) := by decide +kernel
theorem sX6_init_9 {a : Nat} {fs : List Value} {v : Nat} (hP : P.1 a = some (xO 4 fs)) (hl : 0 < fs.length) (k : X w mX6_init d Q 12 ls st (xs P a (xO 4 (fs.set 0 (.ref v))))) : X w mX6_init d Q 9 ls (.ref v :: .ref a :: st) P := X_putF (M := mX6_init) (j := 0) (T := TX6) (dX6_init_9) rfl (by decide) x_c6 xw_145 rfl rfl rfl hP rfl rfl hl k
theorem dX6_init_12 : decode cX6_init 12 = .ok (.aload_n 0, 1) := by decide +kernel
theorem sX6_init_12 {l1 : Option Value} {x : Nat} (k : X w mX6_init d Q 13 [some (.ref x), l1] (.ref x :: st) P) : X w mX6_init d Q 12 [some (.ref x), l1] st P := X_aload_n (M := mX6_init) (dX6_init_12) rfl rfl k
theorem dX6_init_13 : decode cX6_init 13 = .ok (.bipush 12, 2) := by decide +kernel
theorem sX6_init_13 (k : X w mX6_init d Q 15 ls (.int (12 : Int32) :: st) P) : X w mX6_init d Q 13 ls st P := X_bipush (M := mX6_init) (dX6_init_13) (by decide) k
theorem dX6_init_15 : decode cX6_init 15 = .ok (.anewarray 15, 3) := by decide +kernel
theorem sX6_init_15 {n : Int32} {N : Nat} (hn : ¬ n < 0) (hN : n.toNatClampNeg = N) (hb : N ≤ 10000) (hr1 : P.2.1 + 1 ≤ w.z + 601024) (hr2 : P.2.2 + N ≤ 7293034) (k : X w mX6_init d Q 18 ls (.ref P.2.1 :: st) (xal P (xR 4 N (fun _ => none)) N)) : X w mX6_init d Q 15 ls (.int n :: st) P := X_newq (M := mX6_init) (dX6_init_15) (Or.inl ⟨rfl, rfl⟩) xw_146 xw_147 hn hN hb hr1 hr2 k
theorem dX6_init_18 : decode cX6_init 18 = .ok (.putfield 17, 3) := by decide +kernel
theorem sX6_init_18 {a : Nat} {fs : List Value} {v : Nat} (hP : P.1 a = some (xO 4 fs)) (hl : 1 < fs.length) (k : X w mX6_init d Q 21 ls st (xs P a (xO 4 (fs.set 1 (.ref v))))) : X w mX6_init d Q 18 ls (.ref v :: .ref a :: st) P := X_putF (M := mX6_init) (j := 1) (T := TX6) (dX6_init_18) rfl (by decide) x_c6 xw_148 rfl rfl rfl hP rfl rfl hl k
theorem dX6_init_21 : decode cX6_init 21 = .ok (.aload_n 0, 1) := by decide +kernel
theorem sX6_init_21 {l1 : Option Value} {x : Nat} (k : X w mX6_init d Q 22 [some (.ref x), l1] (.ref x :: st) P) : X w mX6_init d Q 21 [some (.ref x), l1] st P := X_aload_n (M := mX6_init) (dX6_init_21) rfl rfl k
theorem dX6_init_22 : decode cX6_init 22 = .ok (.bipush 12, 2) := by decide +kernel
theorem sX6_init_22 (k : X w mX6_init d Q 24 ls (.int (12 : Int32) :: st) P) : X w mX6_init d Q 22 ls st P := X_bipush (M := mX6_init) (dX6_init_22) (by decide) k
theorem dX6_init_24 : decode cX6_init 24 = .ok (.anewarray 21, 3) := by decide +kernel
theorem sX6_init_24 {n : Int32} {N : Nat} (hn : ¬ n < 0) (hN : n.toNatClampNeg = N) (hb : N ≤ 10000) (hr1 : P.2.1 + 1 ≤ w.z + 601024) (hr2 : P.2.2 + N ≤ 7293034) (k : X w mX6_init d Q 27 ls (.ref P.2.1 :: st) (xal P (xR 5 N (fun _ => none)) N)) : X w mX6_init d Q 24 ls (.int n :: st) P := X_newq (M := mX6_init) (dX6_init_24) (Or.inr ⟨rfl, rfl⟩) xw_149 xw_150 hn hN hb hr1 hr2 k
theorem dX6_init_27 : decode cX6_init 27 = .ok (.putfield 23, 3) := by decide +kernel
theorem sX6_init_27 {a : Nat} {fs : List Value} {v : Nat} (hP : P.1 a = some (xO 4 fs)) (hl : 2 < fs.length) (k : X w mX6_init d Q 30 ls st (xs P a (xO 4 (fs.set 2 (.ref v))))) : X w mX6_init d Q 27 ls (.ref v :: .ref a :: st) P := X_putF (M := mX6_init) (j := 2) (T := TX6) (dX6_init_27) rfl (by decide) x_c6 xw_151 rfl rfl rfl hP rfl rfl hl k
theorem dX6_init_30 : decode cX6_init 30 = .ok (.iconst 0, 1) := by decide +kernel
theorem sX6_init_30 (k : X w mX6_init d Q 31 ls (.int (0 : Int32) :: st) P) : X w mX6_init d Q 30 ls st P := X_iconst (M := mX6_init) (dX6_init_30) (by decide) k
theorem dX6_init_31 : decode cX6_init 31 = .ok (.istore_n 1, 1) := by decide +kernel
theorem sX6_init_31 {l0 l1 : Option Value} {x : Int32} (hn : xnl l0 = true) (k : X w mX6_init d Q 32 [l0, some (.int x)] st P) : X w mX6_init d Q 31 [l0, l1] (.int x :: st) P := X_istore_n (M := mX6_init) (dX6_init_31) rfl (by decide) rfl (xnl_p (ls := [l0, l1]) (j := 0) rfl hn) k
theorem dX6_init_32 : decode cX6_init 32 = .ok (.iload_n 1, 1) := by decide +kernel
theorem sX6_init_32 {l0 : Option Value} {x : Int32} (k : X w mX6_init d Q 33 [l0, some (.int x)] (.int x :: st) P) : X w mX6_init d Q 32 [l0, some (.int x)] st P := X_iload_n (M := mX6_init) (dX6_init_32) rfl rfl k
theorem dX6_init_33 : decode cX6_init 33 = .ok (.bipush 12, 2) := by decide +kernel
theorem sX6_init_33 (k : X w mX6_init d Q 35 ls (.int (12 : Int32) :: st) P) : X w mX6_init d Q 33 ls st P := X_bipush (M := mX6_init) (dX6_init_33) (by decide) k
theorem dX6_init_35 : decode cX6_init 35 = .ok (.if_icmp .ge 22, 3) := by decide +kernel
theorem sX6_init_35 {x y : Int32} (kt : y ≤ x → X w mX6_init d Q 57 ls st P) (kf : ¬ y ≤ x → X w mX6_init d Q 38 ls st P) : X w mX6_init d Q 35 ls (.int y :: .int x :: st) P := X_icmp_ge (M := mX6_init) (dX6_init_35) (by decide) kt kf
theorem dX6_init_38 : decode cX6_init 38 = .ok (.aload_n 0, 1) := by decide +kernel
theorem sX6_init_38 {l1 : Option Value} {x : Nat} (k : X w mX6_init d Q 39 [some (.ref x), l1] (.ref x :: st) P) : X w mX6_init d Q 38 [some (.ref x), l1] st P := X_aload_n (M := mX6_init) (dX6_init_38) rfl rfl k
theorem dX6_init_39 : decode cX6_init 39 = .ok (.getfield 17, 3) := by decide +kernel
theorem sX6_init_39 {a : Nat} {fs : List Value} {v : Nat} (hP : P.1 a = some (xO 4 fs)) (hv : fs[1]? = some (.ref v)) (k : X w mX6_init d Q 42 ls (.ref v :: st) P) : X w mX6_init d Q 39 ls (.ref a :: st) P := X_get (M := mX6_init) (j := 1) (T := TX6) (dX6_init_39) rfl (by decide) x_in6 xw_148 hP hv k
theorem dX6_init_42 : decode cX6_init 42 = .ok (.iload_n 1, 1) := by decide +kernel
theorem sX6_init_42 {l0 : Option Value} {x : Int32} (k : X w mX6_init d Q 43 [l0, some (.int x)] (.int x :: st) P) : X w mX6_init d Q 42 [l0, some (.int x)] st P := X_iload_n (M := mX6_init) (dX6_init_42) rfl rfl k
theorem dX6_init_43 : decode cX6_init 43 = .ok (.new 15, 3) := by decide +kernel
theorem sX6_init_43 (hr1 : P.2.1 + 1 ≤ w.z + 601024) (hr2 : P.2.2 + 3 ≤ 7293034) (k : X w mX6_init d Q 46 ls (.ref P.2.1 :: st) (xal P (xO 5 [.null, .null, .null]) 3)) : X w mX6_init d Q 43 ls st P := X_new (M := mX6_init) (T := TX7) (dX6_init_43) rfl x_c7 xw_146 xw_152 xw_153 xd_X7 hr1 hr2 k
theorem dX6_init_46 : decode cX6_init 46 = .ok (.dup, 1) := by decide +kernel
theorem sX6_init_46 {v : Value} (hv : v.category = 1) (k : X w mX6_init d Q 47 ls (v :: v :: st) P) : X w mX6_init d Q 46 ls (v :: st) P := X_dup (M := mX6_init) (dX6_init_46) hv k
theorem dX6_init_47 : decode cX6_init 47 = .ok (.invokespecial 27, 3) := by decide +kernel
theorem sX6_init_47 {b : Nat}  {P1 : xH} (hst : (st.map fun v => v.category).sum ≤ 8) (hC : xC w d mX7_init [.ref b] P (xRet none P1)) (k : X w mX6_init (d + 1) Q 50 ls st P1) : X w mX6_init (d + 1) Q 47 ls (.ref b :: st) P := X_callIN (M := mX6_init) (MC := mX7_init) (As := []) (dX6_init_47) calX7_init rfl rfl xw_154 xw_155 rfl hC (fun q P1 h => by cases h.1) hst (fun v P2 h => by obtain ⟨h1, rfl⟩ := h; cases h1; exact k)
theorem sX6_init_47_r {b : Nat}  {Rp : xH → Prop} (hst : (st.map fun v => v.category).sum ≤ 8) (hC : xC w d mX7_init [.ref b] P (xRl none Rp)) (k : ∀ P1, Rp P1 → X w mX6_init (d + 1) Q 50 ls st P1) : X w mX6_init (d + 1) Q 47 ls (.ref b :: st) P := X_callIN (M := mX6_init) (MC := mX7_init) (As := []) (dX6_init_47) calX7_init rfl rfl xw_154 xw_155 rfl hC (fun q P1 h => by cases h.1) hst (fun v P2 h => by obtain ⟨h1, hR⟩ := h; cases h1; exact k P2 hR)
theorem dX6_init_50 : decode cX6_init 50 = .ok (.aastore, 1) := by decide +kernel
theorem sX6_init_50 {a n t k9 v : Nat} {f : Nat → Option Nat} {i : Int32} {vs : List Value} (ht : (t = 4 ∧ k9 = 5) ∨ (t = 5 ∧ k9 = 1)) (hP : P.1 a = some (xR t n f)) (hv : P.1 v = some (xO k9 vs)) (hi : vp_in i n) (k : X w mX6_init d Q 51 ls st (xs P a (xR t n (va_up f i.toNatClampNeg (some v))))) : X w mX6_init d Q 50 ls (.ref v :: .int i :: .ref a :: st) P := X_aast (M := mX6_init) (dX6_init_50) ht hP hv hi k
theorem dX6_init_51 : decode cX6_init 51 = .ok (.iinc 1 1, 3) := by decide +kernel
theorem sX6_init_51 {l0 : Option Value} {x : Int32} (hn : xnl l0 = true) (k : X w mX6_init d Q 54 [l0, some (.int (x + (1 : Int32)))] st P) : X w mX6_init d Q 51 [l0, some (.int x)] st P := X_iinc (M := mX6_init) (dX6_init_51) rfl (by rfl) (by decide) rfl (xnl_p (ls := [l0, some (.int x)]) (j := 0) rfl hn) k
theorem dX6_init_54 : decode cX6_init 54 = .ok (.goto (-22), 3) := by decide +kernel
theorem sX6_init_54 (k : X w mX6_init d Q 32 ls st P) : X w mX6_init d Q 54 ls st P := X_goto (M := mX6_init) (dX6_init_54) (by decide) k
theorem dX6_init_57 : decode cX6_init 57 = .ok (.iconst 0, 1) := by decide +kernel
theorem sX6_init_57 (k : X w mX6_init d Q 58 ls (.int (0 : Int32) :: st) P) : X w mX6_init d Q 57 ls st P := X_iconst (M := mX6_init) (dX6_init_57) (by decide) k
theorem dX6_init_58 : decode cX6_init 58 = .ok (.istore_n 1, 1) := by decide +kernel
theorem sX6_init_58 {l0 l1 : Option Value} {x : Int32} (hn : xnl l0 = true) (k : X w mX6_init d Q 59 [l0, some (.int x)] st P) : X w mX6_init d Q 58 [l0, l1] (.int x :: st) P := X_istore_n (M := mX6_init) (dX6_init_58) rfl (by decide) rfl (xnl_p (ls := [l0, l1]) (j := 0) rfl hn) k
theorem dX6_init_59 : decode cX6_init 59 = .ok (.iload_n 1, 1) := by decide +kernel
theorem sX6_init_59 {l0 : Option Value} {x : Int32} (k : X w mX6_init d Q 60 [l0, some (.int x)] (.int x :: st) P) : X w mX6_init d Q 59 [l0, some (.int x)] st P := X_iload_n (M := mX6_init) (dX6_init_59) rfl rfl k
theorem dX6_init_60 : decode cX6_init 60 = .ok (.bipush 12, 2) := by decide +kernel
theorem sX6_init_60 (k : X w mX6_init d Q 62 ls (.int (12 : Int32) :: st) P) : X w mX6_init d Q 60 ls st P := X_bipush (M := mX6_init) (dX6_init_60) (by decide) k
theorem dX6_init_62 : decode cX6_init 62 = .ok (.if_icmp .ge 22, 3) := by decide +kernel
theorem sX6_init_62 {x y : Int32} (kt : y ≤ x → X w mX6_init d Q 84 ls st P) (kf : ¬ y ≤ x → X w mX6_init d Q 65 ls st P) : X w mX6_init d Q 62 ls (.int y :: .int x :: st) P := X_icmp_ge (M := mX6_init) (dX6_init_62) (by decide) kt kf
theorem dX6_init_65 : decode cX6_init 65 = .ok (.aload_n 0, 1) := by decide +kernel
theorem sX6_init_65 {l1 : Option Value} {x : Nat} (k : X w mX6_init d Q 66 [some (.ref x), l1] (.ref x :: st) P) : X w mX6_init d Q 65 [some (.ref x), l1] st P := X_aload_n (M := mX6_init) (dX6_init_65) rfl rfl k
theorem dX6_init_66 : decode cX6_init 66 = .ok (.getfield 23, 3) := by decide +kernel
theorem sX6_init_66 {a : Nat} {fs : List Value} {v : Nat} (hP : P.1 a = some (xO 4 fs)) (hv : fs[2]? = some (.ref v)) (k : X w mX6_init d Q 69 ls (.ref v :: st) P) : X w mX6_init d Q 66 ls (.ref a :: st) P := X_get (M := mX6_init) (j := 2) (T := TX6) (dX6_init_66) rfl (by decide) x_in6 xw_151 hP hv k
theorem dX6_init_69 : decode cX6_init 69 = .ok (.iload_n 1, 1) := by decide +kernel
theorem sX6_init_69 {l0 : Option Value} {x : Int32} (k : X w mX6_init d Q 70 [l0, some (.int x)] (.int x :: st) P) : X w mX6_init d Q 69 [l0, some (.int x)] st P := X_iload_n (M := mX6_init) (dX6_init_69) rfl rfl k
theorem dX6_init_70 : decode cX6_init 70 = .ok (.new 21, 3) := by decide +kernel
theorem sX6_init_70 (hr1 : P.2.1 + 1 ≤ w.z + 601024) (hr2 : P.2.2 + 12 ≤ 7293034) (k : X w mX6_init d Q 73 ls (.ref P.2.1 :: st) (xal P (xO 1 [.long 0, .int 0, .null, .int 0, .int 0, .null, .null, .null, .null, .int 0, .null, .int 0]) 12)) : X w mX6_init d Q 70 ls st P := X_new (M := mX6_init) (T := TX1) (dX6_init_70) rfl x_c1 xw_149 xw_156 xw_157 xd_X1 hr1 hr2 k
theorem dX6_init_73 : decode cX6_init 73 = .ok (.dup, 1) := by decide +kernel
theorem sX6_init_73 {v : Value} (hv : v.category = 1) (k : X w mX6_init d Q 74 ls (v :: v :: st) P) : X w mX6_init d Q 73 ls (v :: st) P := X_dup (M := mX6_init) (dX6_init_73) hv k
theorem dX6_init_74 : decode cX6_init 74 = .ok (.invokespecial 28, 3) := by decide +kernel
theorem sX6_init_74 {b : Nat}  {P1 : xH} (hst : (st.map fun v => v.category).sum ≤ 8) (hC : xC w d mX1_init [.ref b] P (xRet none P1)) (k : X w mX6_init (d + 1) Q 77 ls st P1) : X w mX6_init (d + 1) Q 74 ls (.ref b :: st) P := X_callIN (M := mX6_init) (MC := mX1_init) (As := []) (dX6_init_74) calX1_init rfl rfl xw_158 xw_159 rfl hC (fun q P1 h => by cases h.1) hst (fun v P2 h => by obtain ⟨h1, rfl⟩ := h; cases h1; exact k)
theorem sX6_init_74_r {b : Nat}  {Rp : xH → Prop} (hst : (st.map fun v => v.category).sum ≤ 8) (hC : xC w d mX1_init [.ref b] P (xRl none Rp)) (k : ∀ P1, Rp P1 → X w mX6_init (d + 1) Q 77 ls st P1) : X w mX6_init (d + 1) Q 74 ls (.ref b :: st) P := X_callIN (M := mX6_init) (MC := mX1_init) (As := []) (dX6_init_74) calX1_init rfl rfl xw_158 xw_159 rfl hC (fun q P1 h => by cases h.1) hst (fun v P2 h => by obtain ⟨h1, hR⟩ := h; cases h1; exact k P2 hR)
theorem dX6_init_77 : decode cX6_init 77 = .ok (.aastore, 1) := by decide +kernel
theorem sX6_init_77 {a n t k9 v : Nat} {f : Nat → Option Nat} {i : Int32} {vs : List Value} (ht : (t = 4 ∧ k9 = 5) ∨ (t = 5 ∧ k9 = 1)) (hP : P.1 a = some (xR t n f)) (hv : P.1 v = some (xO k9 vs)) (hi : vp_in i n) (k : X w mX6_init d Q 78 ls st (xs P a (xR t n (va_up f i.toNatClampNeg (some v))))) : X w mX6_init d Q 77 ls (.ref v :: .int i :: .ref a :: st) P := X_aast (M := mX6_init) (dX6_init_77) ht hP hv hi k
theorem dX6_init_78 : decode cX6_init 78 = .ok (.iinc 1 1, 3) := by decide +kernel
theorem sX6_init_78 {l0 : Option Value} {x : Int32} (hn : xnl l0 = true) (k : X w mX6_init d Q 81 [l0, some (.int (x + (1 : Int32)))] st P) : X w mX6_init d Q 78 [l0, some (.int x)] st P := X_iinc (M := mX6_init) (dX6_init_78) rfl (by rfl) (by decide) rfl (xnl_p (ls := [l0, some (.int x)]) (j := 0) rfl hn) k
theorem dX6_init_81 : decode cX6_init 81 = .ok (.goto (-22), 3) := by decide +kernel
theorem sX6_init_81 (k : X w mX6_init d Q 59 ls st P) : X w mX6_init d Q 81 ls st P := X_goto (M := mX6_init) (dX6_init_81) (by decide) k
theorem dX6_init_84 : decode cX6_init 84 = .ok (.return_, 1) := by decide +kernel
theorem sX6_init_84 (hq : Q (.returned none) P) : X w mX6_init d Q 84 ls [] P := X_vret (M := mX6_init) (dX6_init_84) rfl hq
theorem dX6_clear_0 : decode cX6_clear 0 = .ok (.aload_n 0, 1) := by decide +kernel
theorem sX6_clear_0 {x : Nat} (k : X w mX6_clear d Q 1 [some (.ref x)] (.ref x :: st) P) : X w mX6_clear d Q 0 [some (.ref x)] st P := X_aload_n (M := mX6_clear) (dX6_clear_0) rfl rfl k
theorem dX6_clear_1 : decode cX6_clear 1 = .ok (.iconst 0, 1) := by decide +kernel
theorem sX6_clear_1 (k : X w mX6_clear d Q 2 ls (.int (0 : Int32) :: st) P) : X w mX6_clear d Q 1 ls st P := X_iconst (M := mX6_clear) (dX6_clear_1) (by decide) k
theorem dX6_clear_2 : decode cX6_clear 2 = .ok (.putfield 29, 3) := by decide +kernel
theorem sX6_clear_2 {a : Nat} {fs : List Value} {v : Int32} (hP : P.1 a = some (xO 4 fs)) (hl : 3 < fs.length) (k : X w mX6_clear d Q 5 ls st (xs P a (xO 4 (fs.set 3 (.int v))))) : X w mX6_clear d Q 2 ls (.int v :: .ref a :: st) P := X_put (M := mX6_clear) (j := 3) (T := TX6) (dX6_clear_2) rfl (by decide) x_c6 xw_160 rfl hP rfl rfl hl k
theorem dX6_clear_5 : decode cX6_clear 5 = .ok (.aload_n 0, 1) := by decide +kernel
theorem sX6_clear_5 {x : Nat} (k : X w mX6_clear d Q 6 [some (.ref x)] (.ref x :: st) P) : X w mX6_clear d Q 5 [some (.ref x)] st P := X_aload_n (M := mX6_clear) (dX6_clear_5) rfl rfl k
theorem dX6_clear_6 : decode cX6_clear 6 = .ok (.iconst 0, 1) := by decide +kernel
theorem sX6_clear_6 (k : X w mX6_clear d Q 7 ls (.int (0 : Int32) :: st) P) : X w mX6_clear d Q 6 ls st P := X_iconst (M := mX6_clear) (dX6_clear_6) (by decide) k
theorem dX6_clear_7 : decode cX6_clear 7 = .ok (.putfield 33, 3) := by decide +kernel
theorem sX6_clear_7 {a : Nat} {fs : List Value} {v : Int32} (hP : P.1 a = some (xO 4 fs)) (hl : 4 < fs.length) (k : X w mX6_clear d Q 10 ls st (xs P a (xO 4 (fs.set 4 (.int v))))) : X w mX6_clear d Q 7 ls (.int v :: .ref a :: st) P := X_put (M := mX6_clear) (j := 4) (T := TX6) (dX6_clear_7) rfl (by decide) x_c6 xw_161 rfl hP rfl rfl hl k
theorem dX6_clear_10 : decode cX6_clear 10 = .ok (.return_, 1) := by decide +kernel
theorem sX6_clear_10 (hq : Q (.returned none) P) : X w mX6_clear d Q 10 ls [] P := X_vret (M := mX6_clear) (dX6_clear_10) rfl hq
theorem dX6_hasCell_0 : decode cX6_hasCell 0 = .ok (.iconst 0, 1) := by decide +kernel
theorem sX6_hasCell_0 (k : X w mX6_hasCell d Q 1 ls (.int (0 : Int32) :: st) P) : X w mX6_hasCell d Q 0 ls st P := X_iconst (M := mX6_hasCell) (dX6_hasCell_0) (by decide) k
theorem dX6_hasCell_1 : decode cX6_hasCell 1 = .ok (.istore_n 3, 1) := by decide +kernel
theorem sX6_hasCell_1 {l0 l1 l2 l3 : Option Value} {x : Int32} (hn : xnl l2 = true) (k : X w mX6_hasCell d Q 2 [l0, l1, l2, some (.int x)] st P) : X w mX6_hasCell d Q 1 [l0, l1, l2, l3] (.int x :: st) P := X_istore_n (M := mX6_hasCell) (dX6_hasCell_1) rfl (by decide) rfl (xnl_p (ls := [l0, l1, l2, l3]) (j := 2) rfl hn) k
theorem dX6_hasCell_2 : decode cX6_hasCell 2 = .ok (.iload_n 3, 1) := by decide +kernel
theorem sX6_hasCell_2 {l0 l1 l2 : Option Value} {x : Int32} (k : X w mX6_hasCell d Q 3 [l0, l1, l2, some (.int x)] (.int x :: st) P) : X w mX6_hasCell d Q 2 [l0, l1, l2, some (.int x)] st P := X_iload_n (M := mX6_hasCell) (dX6_hasCell_2) rfl rfl k
theorem dX6_hasCell_3 : decode cX6_hasCell 3 = .ok (.aload_n 0, 1) := by decide +kernel
theorem sX6_hasCell_3 {l1 l2 l3 : Option Value} {x : Nat} (k : X w mX6_hasCell d Q 4 [some (.ref x), l1, l2, l3] (.ref x :: st) P) : X w mX6_hasCell d Q 3 [some (.ref x), l1, l2, l3] st P := X_aload_n (M := mX6_hasCell) (dX6_hasCell_3) rfl rfl k
theorem dX6_hasCell_4 : decode cX6_hasCell 4 = .ok (.getfield 33, 3) := by decide +kernel
theorem sX6_hasCell_4 {a : Nat} {fs : List Value} {v : Int32} (hP : P.1 a = some (xO 4 fs)) (hv : fs[4]? = some (.int v)) (k : X w mX6_hasCell d Q 7 ls (.int v :: st) P) : X w mX6_hasCell d Q 4 ls (.ref a :: st) P := X_get (M := mX6_hasCell) (j := 4) (T := TX6) (dX6_hasCell_4) rfl (by decide) x_in6 xw_161 hP hv k
theorem dX6_hasCell_7 : decode cX6_hasCell 7 = .ok (.if_icmp .ge 25, 3) := by decide +kernel
theorem sX6_hasCell_7 {x y : Int32} (kt : y ≤ x → X w mX6_hasCell d Q 32 ls st P) (kf : ¬ y ≤ x → X w mX6_hasCell d Q 10 ls st P) : X w mX6_hasCell d Q 7 ls (.int y :: .int x :: st) P := X_icmp_ge (M := mX6_hasCell) (dX6_hasCell_7) (by decide) kt kf
theorem dX6_hasCell_10 : decode cX6_hasCell 10 = .ok (.aload_n 0, 1) := by decide +kernel
theorem sX6_hasCell_10 {l1 l2 l3 : Option Value} {x : Nat} (k : X w mX6_hasCell d Q 11 [some (.ref x), l1, l2, l3] (.ref x :: st) P) : X w mX6_hasCell d Q 10 [some (.ref x), l1, l2, l3] st P := X_aload_n (M := mX6_hasCell) (dX6_hasCell_10) rfl rfl k
theorem dX6_hasCell_11 : decode cX6_hasCell 11 = .ok (.getfield 23, 3) := by decide +kernel
theorem sX6_hasCell_11 {a : Nat} {fs : List Value} {v : Nat} (hP : P.1 a = some (xO 4 fs)) (hv : fs[2]? = some (.ref v)) (k : X w mX6_hasCell d Q 14 ls (.ref v :: st) P) : X w mX6_hasCell d Q 11 ls (.ref a :: st) P := X_get (M := mX6_hasCell) (j := 2) (T := TX6) (dX6_hasCell_11) rfl (by decide) x_in6 xw_151 hP hv k
theorem dX6_hasCell_14 : decode cX6_hasCell 14 = .ok (.iload_n 3, 1) := by decide +kernel
theorem sX6_hasCell_14 {l0 l1 l2 : Option Value} {x : Int32} (k : X w mX6_hasCell d Q 15 [l0, l1, l2, some (.int x)] (.int x :: st) P) : X w mX6_hasCell d Q 14 [l0, l1, l2, some (.int x)] st P := X_iload_n (M := mX6_hasCell) (dX6_hasCell_14) rfl rfl k
theorem dX6_hasCell_15 : decode cX6_hasCell 15 = .ok (.aaload, 1) := by decide +kernel
theorem sX6_hasCell_15 {a n t b : Nat} {f : Nat → Option Nat} {i : Int32} (hP : P.1 a = some (xR t n f)) (ht : t = 4 ∨ t = 5) (hi : vp_in i n) (hb : f i.toNatClampNeg = some b) (k : X w mX6_hasCell d Q 16 ls (.ref b :: st) P) : X w mX6_hasCell d Q 15 ls (.int i :: .ref a :: st) P := X_aald (M := mX6_hasCell) (dX6_hasCell_15) ht hP hi (by rw [hb]; exact k)
theorem dX6_hasCell_16 : decode cX6_hasCell 16 = .ok (.getfield 36, 3) := by decide +kernel
theorem sX6_hasCell_16 {a : Nat} {fs : List Value} {v : Int64} (hP : P.1 a = some (xO 1 fs)) (hv : fs[0]? = some (.long v)) (k : X w mX6_hasCell d Q 19 ls (.long v :: st) P) : X w mX6_hasCell d Q 16 ls (.ref a :: st) P := X_getN (M := mX6_hasCell) (j := 0) (T := TX1) (dX6_hasCell_16) rfl (by decide) x_in1 xw_162 hP hv k
theorem dX6_hasCell_19 : decode cX6_hasCell 19 = .ok (.lload_n 1, 1) := by decide +kernel
theorem sX6_hasCell_19 {l0 l2 l3 : Option Value} {x : Int64} (k : X w mX6_hasCell d Q 20 [l0, some (.long x), l2, l3] (.long x :: st) P) : X w mX6_hasCell d Q 19 [l0, some (.long x), l2, l3] st P := X_lload_n (M := mX6_hasCell) (dX6_hasCell_19) rfl rfl k
theorem dX6_hasCell_20 : decode cX6_hasCell 20 = .ok (.lcmp, 1) := by decide +kernel
theorem sX6_hasCell_20 {x y : Int64} (k : X w mX6_hasCell d Q 21 ls (.int (lg_cmp x y) :: st) P) : X w mX6_hasCell d Q 20 ls (.long y :: .long x :: st) P := X_lcmp (M := mX6_hasCell) (dX6_hasCell_20) k
theorem dX6_hasCell_21 : decode cX6_hasCell 21 = .ok (.ifCond .ne 5, 3) := by decide +kernel
theorem sX6_hasCell_21 {x : Int32} (kt : ¬ x = 0 → X w mX6_hasCell d Q 26 ls st P) (kf : x = 0 → X w mX6_hasCell d Q 24 ls st P) : X w mX6_hasCell d Q 21 ls (.int x :: st) P := X_if_ne (M := mX6_hasCell) (dX6_hasCell_21) (by decide) kt kf
theorem dX6_hasCell_24 : decode cX6_hasCell 24 = .ok (.iconst 1, 1) := by decide +kernel
theorem sX6_hasCell_24 (k : X w mX6_hasCell d Q 25 ls (.int (1 : Int32) :: st) P) : X w mX6_hasCell d Q 24 ls st P := X_iconst (M := mX6_hasCell) (dX6_hasCell_24) (by decide) k
theorem dX6_hasCell_25 : decode cX6_hasCell 25 = .ok (.ireturn, 1) := by decide +kernel
theorem sX6_hasCell_25 {v : Int32} (hb : v = 0 ∨ v = 1) (hq : Q (.returned (some (.int v))) P) : X w mX6_hasCell d Q 25 ls [.int v] P := X_zret (M := mX6_hasCell) (ty := .boolean) (dX6_hasCell_25) rfl (xz_n hb) hq
theorem dX6_hasCell_26 : decode cX6_hasCell 26 = .ok (.iinc 3 1, 3) := by decide +kernel
theorem sX6_hasCell_26 {l0 l1 l2 : Option Value} {x : Int32} (hn : xnl l2 = true) (k : X w mX6_hasCell d Q 29 [l0, l1, l2, some (.int (x + (1 : Int32)))] st P) : X w mX6_hasCell d Q 26 [l0, l1, l2, some (.int x)] st P := X_iinc (M := mX6_hasCell) (dX6_hasCell_26) rfl (by rfl) (by decide) rfl (xnl_p (ls := [l0, l1, l2, some (.int x)]) (j := 2) rfl hn) k
theorem dX6_hasCell_29 : decode cX6_hasCell 29 = .ok (.goto (-27), 3) := by decide +kernel
theorem sX6_hasCell_29 (k : X w mX6_hasCell d Q 2 ls st P) : X w mX6_hasCell d Q 29 ls st P := X_goto (M := mX6_hasCell) (dX6_hasCell_29) (by decide) k
theorem dX6_hasCell_32 : decode cX6_hasCell 32 = .ok (.iconst 0, 1) := by decide +kernel
theorem sX6_hasCell_32 (k : X w mX6_hasCell d Q 33 ls (.int (0 : Int32) :: st) P) : X w mX6_hasCell d Q 32 ls st P := X_iconst (M := mX6_hasCell) (dX6_hasCell_32) (by decide) k
theorem dX6_hasCell_33 : decode cX6_hasCell 33 = .ok (.ireturn, 1) := by decide +kernel
theorem sX6_hasCell_33 {v : Int32} (hb : v = 0 ∨ v = 1) (hq : Q (.returned (some (.int v))) P) : X w mX6_hasCell d Q 33 ls [.int v] P := X_zret (M := mX6_hasCell) (ty := .boolean) (dX6_hasCell_33) rfl (xz_n hb) hq
theorem dX6_addTable_0 : decode cX6_addTable 0 = .ok (.aload_n 0, 1) := by decide +kernel
theorem sX6_addTable_0 {l1 l2 : Option Value} {x : Nat} (k : X w mX6_addTable d Q 1 [some (.ref x), l1, l2] (.ref x :: st) P) : X w mX6_addTable d Q 0 [some (.ref x), l1, l2] st P := X_aload_n (M := mX6_addTable) (dX6_addTable_0) rfl rfl k
theorem dX6_addTable_1 : decode cX6_addTable 1 = .ok (.getfield 9, 3) := by decide +kernel
theorem sX6_addTable_1 {a : Nat} {fs : List Value} {v : Nat} (hP : P.1 a = some (xO 4 fs)) (hv : fs[0]? = some (.ref v)) (k : X w mX6_addTable d Q 4 ls (.ref v :: st) P) : X w mX6_addTable d Q 1 ls (.ref a :: st) P := X_get (M := mX6_addTable) (j := 0) (T := TX6) (dX6_addTable_1) rfl (by decide) x_in6 xw_145 hP hv k
theorem dX6_addTable_4 : decode cX6_addTable 4 = .ok (.aload_n 0, 1) := by decide +kernel
theorem sX6_addTable_4 {l1 l2 : Option Value} {x : Nat} (k : X w mX6_addTable d Q 5 [some (.ref x), l1, l2] (.ref x :: st) P) : X w mX6_addTable d Q 4 [some (.ref x), l1, l2] st P := X_aload_n (M := mX6_addTable) (dX6_addTable_4) rfl rfl k
theorem dX6_addTable_5 : decode cX6_addTable 5 = .ok (.getfield 29, 3) := by decide +kernel
theorem sX6_addTable_5 {a : Nat} {fs : List Value} {v : Int32} (hP : P.1 a = some (xO 4 fs)) (hv : fs[3]? = some (.int v)) (k : X w mX6_addTable d Q 8 ls (.int v :: st) P) : X w mX6_addTable d Q 5 ls (.ref a :: st) P := X_get (M := mX6_addTable) (j := 3) (T := TX6) (dX6_addTable_5) rfl (by decide) x_in6 xw_160 hP hv k
theorem dX6_addTable_8 : decode cX6_addTable 8 = .ok (.lload_n 1, 1) := by decide +kernel
theorem sX6_addTable_8 {l0 l2 : Option Value} {x : Int64} (k : X w mX6_addTable d Q 9 [l0, some (.long x), l2] (.long x :: st) P) : X w mX6_addTable d Q 8 [l0, some (.long x), l2] st P := X_lload_n (M := mX6_addTable) (dX6_addTable_8) rfl rfl k
theorem dX6_addTable_9 : decode cX6_addTable 9 = .ok (.lastore, 1) := by decide +kernel
theorem sX6_addTable_9 {a n : Nat} {f : Nat → Int64} {i : Int32} {x : Int64} (hP : P.1 a = some (xJ n f)) (hi : vp_in i n) (k : X w mX6_addTable d Q 10 ls st (xs P a (xJ n (vp_updL f i.toNatClampNeg x)))) : X w mX6_addTable d Q 9 ls (.long x :: .int i :: .ref a :: st) P := X_last (M := mX6_addTable) (dX6_addTable_9) hP hi k
theorem dX6_addTable_10 : decode cX6_addTable 10 = .ok (.aload_n 0, 1) := by decide +kernel
theorem sX6_addTable_10 {l1 l2 : Option Value} {x : Nat} (k : X w mX6_addTable d Q 11 [some (.ref x), l1, l2] (.ref x :: st) P) : X w mX6_addTable d Q 10 [some (.ref x), l1, l2] st P := X_aload_n (M := mX6_addTable) (dX6_addTable_10) rfl rfl k
theorem dX6_addTable_11 : decode cX6_addTable 11 = .ok (.dup, 1) := by decide +kernel
theorem sX6_addTable_11 {v : Value} (hv : v.category = 1) (k : X w mX6_addTable d Q 12 ls (v :: v :: st) P) : X w mX6_addTable d Q 11 ls (v :: st) P := X_dup (M := mX6_addTable) (dX6_addTable_11) hv k
theorem dX6_addTable_12 : decode cX6_addTable 12 = .ok (.getfield 29, 3) := by decide +kernel
theorem sX6_addTable_12 {a : Nat} {fs : List Value} {v : Int32} (hP : P.1 a = some (xO 4 fs)) (hv : fs[3]? = some (.int v)) (k : X w mX6_addTable d Q 15 ls (.int v :: st) P) : X w mX6_addTable d Q 12 ls (.ref a :: st) P := X_get (M := mX6_addTable) (j := 3) (T := TX6) (dX6_addTable_12) rfl (by decide) x_in6 xw_160 hP hv k
theorem dX6_addTable_15 : decode cX6_addTable 15 = .ok (.iconst 1, 1) := by decide +kernel
theorem sX6_addTable_15 (k : X w mX6_addTable d Q 16 ls (.int (1 : Int32) :: st) P) : X w mX6_addTable d Q 15 ls st P := X_iconst (M := mX6_addTable) (dX6_addTable_15) (by decide) k
theorem dX6_addTable_16 : decode cX6_addTable 16 = .ok (.iadd, 1) := by decide +kernel
theorem sX6_addTable_16 {x y : Int32} (k : X w mX6_addTable d Q 17 ls (.int (x + y) :: st) P) : X w mX6_addTable d Q 16 ls (.int y :: .int x :: st) P := X_iadd (M := mX6_addTable) (dX6_addTable_16) k
theorem dX6_addTable_17 : decode cX6_addTable 17 = .ok (.putfield 29, 3) := by decide +kernel
theorem sX6_addTable_17 {a : Nat} {fs : List Value} {v : Int32} (hP : P.1 a = some (xO 4 fs)) (hl : 3 < fs.length) (k : X w mX6_addTable d Q 20 ls st (xs P a (xO 4 (fs.set 3 (.int v))))) : X w mX6_addTable d Q 17 ls (.int v :: .ref a :: st) P := X_put (M := mX6_addTable) (j := 3) (T := TX6) (dX6_addTable_17) rfl (by decide) x_c6 xw_160 rfl hP rfl rfl hl k
theorem dX6_addTable_20 : decode cX6_addTable 20 = .ok (.aload_n 0, 1) := by decide +kernel
theorem sX6_addTable_20 {l1 l2 : Option Value} {x : Nat} (k : X w mX6_addTable d Q 21 [some (.ref x), l1, l2] (.ref x :: st) P) : X w mX6_addTable d Q 20 [some (.ref x), l1, l2] st P := X_aload_n (M := mX6_addTable) (dX6_addTable_20) rfl rfl k
theorem dX6_addTable_21 : decode cX6_addTable 21 = .ok (.getfield 17, 3) := by decide +kernel
theorem sX6_addTable_21 {a : Nat} {fs : List Value} {v : Nat} (hP : P.1 a = some (xO 4 fs)) (hv : fs[1]? = some (.ref v)) (k : X w mX6_addTable d Q 24 ls (.ref v :: st) P) : X w mX6_addTable d Q 21 ls (.ref a :: st) P := X_get (M := mX6_addTable) (j := 1) (T := TX6) (dX6_addTable_21) rfl (by decide) x_in6 xw_148 hP hv k
theorem dX6_addTable_24 : decode cX6_addTable 24 = .ok (.aload_n 0, 1) := by decide +kernel
theorem sX6_addTable_24 {l1 l2 : Option Value} {x : Nat} (k : X w mX6_addTable d Q 25 [some (.ref x), l1, l2] (.ref x :: st) P) : X w mX6_addTable d Q 24 [some (.ref x), l1, l2] st P := X_aload_n (M := mX6_addTable) (dX6_addTable_24) rfl rfl k
theorem dX6_addTable_25 : decode cX6_addTable 25 = .ok (.getfield 29, 3) := by decide +kernel
theorem sX6_addTable_25 {a : Nat} {fs : List Value} {v : Int32} (hP : P.1 a = some (xO 4 fs)) (hv : fs[3]? = some (.int v)) (k : X w mX6_addTable d Q 28 ls (.int v :: st) P) : X w mX6_addTable d Q 25 ls (.ref a :: st) P := X_get (M := mX6_addTable) (j := 3) (T := TX6) (dX6_addTable_25) rfl (by decide) x_in6 xw_160 hP hv k
theorem dX6_addTable_28 : decode cX6_addTable 28 = .ok (.iconst 1, 1) := by decide +kernel
theorem sX6_addTable_28 (k : X w mX6_addTable d Q 29 ls (.int (1 : Int32) :: st) P) : X w mX6_addTable d Q 28 ls st P := X_iconst (M := mX6_addTable) (dX6_addTable_28) (by decide) k
theorem dX6_addTable_29 : decode cX6_addTable 29 = .ok (.isub, 1) := by decide +kernel
theorem sX6_addTable_29 {x y : Int32} (k : X w mX6_addTable d Q 30 ls (.int (x - y) :: st) P) : X w mX6_addTable d Q 29 ls (.int y :: .int x :: st) P := X_isub (M := mX6_addTable) (dX6_addTable_29) k
theorem dX6_addTable_30 : decode cX6_addTable 30 = .ok (.aaload, 1) := by decide +kernel
theorem sX6_addTable_30 {a n t b : Nat} {f : Nat → Option Nat} {i : Int32} (hP : P.1 a = some (xR t n f)) (ht : t = 4 ∨ t = 5) (hi : vp_in i n) (hb : f i.toNatClampNeg = some b) (k : X w mX6_addTable d Q 31 ls (.ref b :: st) P) : X w mX6_addTable d Q 30 ls (.int i :: .ref a :: st) P := X_aald (M := mX6_addTable) (dX6_addTable_30) ht hP hi (by rw [hb]; exact k)
theorem dX6_addTable_31 : decode cX6_addTable 31 = .ok (.areturn, 1) := by decide +kernel
theorem sX6_addTable_31 {a : Nat} (hq : Q (.returned (some (.ref a))) P) : X w mX6_addTable d Q 31 ls [.ref a] P := X_aret (M := mX6_addTable) (dX6_addTable_31) rfl hq
theorem dX6_addCell_0 : decode cX6_addCell 0 = .ok (.aload_n 0, 1) := by decide +kernel
theorem sX6_addCell_0 {l1 l2 l3 l4 : Option Value} {x : Nat} (k : X w mX6_addCell d Q 1 [some (.ref x), l1, l2, l3, l4] (.ref x :: st) P) : X w mX6_addCell d Q 0 [some (.ref x), l1, l2, l3, l4] st P := X_aload_n (M := mX6_addCell) (dX6_addCell_0) rfl rfl k
theorem dX6_addCell_1 : decode cX6_addCell 1 = .ok (.getfield 23, 3) := by decide +kernel
theorem sX6_addCell_1 {a : Nat} {fs : List Value} {v : Nat} (hP : P.1 a = some (xO 4 fs)) (hv : fs[2]? = some (.ref v)) (k : X w mX6_addCell d Q 4 ls (.ref v :: st) P) : X w mX6_addCell d Q 1 ls (.ref a :: st) P := X_get (M := mX6_addCell) (j := 2) (T := TX6) (dX6_addCell_1) rfl (by decide) x_in6 xw_151 hP hv k
theorem dX6_addCell_4 : decode cX6_addCell 4 = .ok (.aload_n 0, 1) := by decide +kernel
theorem sX6_addCell_4 {l1 l2 l3 l4 : Option Value} {x : Nat} (k : X w mX6_addCell d Q 5 [some (.ref x), l1, l2, l3, l4] (.ref x :: st) P) : X w mX6_addCell d Q 4 [some (.ref x), l1, l2, l3, l4] st P := X_aload_n (M := mX6_addCell) (dX6_addCell_4) rfl rfl k
theorem dX6_addCell_5 : decode cX6_addCell 5 = .ok (.getfield 33, 3) := by decide +kernel
theorem sX6_addCell_5 {a : Nat} {fs : List Value} {v : Int32} (hP : P.1 a = some (xO 4 fs)) (hv : fs[4]? = some (.int v)) (k : X w mX6_addCell d Q 8 ls (.int v :: st) P) : X w mX6_addCell d Q 5 ls (.ref a :: st) P := X_get (M := mX6_addCell) (j := 4) (T := TX6) (dX6_addCell_5) rfl (by decide) x_in6 xw_161 hP hv k
theorem dX6_addCell_8 : decode cX6_addCell 8 = .ok (.aaload, 1) := by decide +kernel
theorem sX6_addCell_8 {a n t b : Nat} {f : Nat → Option Nat} {i : Int32} (hP : P.1 a = some (xR t n f)) (ht : t = 4 ∨ t = 5) (hi : vp_in i n) (hb : f i.toNatClampNeg = some b) (k : X w mX6_addCell d Q 9 ls (.ref b :: st) P) : X w mX6_addCell d Q 8 ls (.int i :: .ref a :: st) P := X_aald (M := mX6_addCell) (dX6_addCell_8) ht hP hi (by rw [hb]; exact k)
theorem dX6_addCell_9 : decode cX6_addCell 9 = .ok (.astore 4, 2) := by decide +kernel
theorem sX6_addCell_9 {l0 l1 l2 l3 l4 : Option Value} {x : Nat} (hn : xnl l3 = true) (k : X w mX6_addCell d Q 11 [l0, l1, l2, l3, some (.ref x)] st P) : X w mX6_addCell d Q 9 [l0, l1, l2, l3, l4] (.ref x :: st) P := X_astore (M := mX6_addCell) (dX6_addCell_9) (by decide) rfl (xnl_p (ls := [l0, l1, l2, l3, l4]) (j := 3) rfl hn) k
theorem dX6_addCell_11 : decode cX6_addCell 11 = .ok (.aload 4, 2) := by decide +kernel
theorem sX6_addCell_11 {l0 l1 l2 l3 : Option Value} {x : Nat} (k : X w mX6_addCell d Q 13 [l0, l1, l2, l3, some (.ref x)] (.ref x :: st) P) : X w mX6_addCell d Q 11 [l0, l1, l2, l3, some (.ref x)] st P := X_aload (M := mX6_addCell) (dX6_addCell_11) rfl k
theorem dX6_addCell_13 : decode cX6_addCell 13 = .ok (.lload_n 1, 1) := by decide +kernel
theorem sX6_addCell_13 {l0 l2 l3 l4 : Option Value} {x : Int64} (k : X w mX6_addCell d Q 14 [l0, some (.long x), l2, l3, l4] (.long x :: st) P) : X w mX6_addCell d Q 13 [l0, some (.long x), l2, l3, l4] st P := X_lload_n (M := mX6_addCell) (dX6_addCell_13) rfl rfl k
theorem dX6_addCell_14 : decode cX6_addCell 14 = .ok (.iload_n 3, 1) := by decide +kernel
theorem sX6_addCell_14 {l0 l1 l2 l4 : Option Value} {x : Int32} (k : X w mX6_addCell d Q 15 [l0, l1, l2, some (.int x), l4] (.int x :: st) P) : X w mX6_addCell d Q 14 [l0, l1, l2, some (.int x), l4] st P := X_iload_n (M := mX6_addCell) (dX6_addCell_14) rfl rfl k
theorem dX6_addCell_15 : decode cX6_addCell 15 = .ok (.invokevirtual 40, 3) := by decide +kernel
theorem sX6_addCell_15_g {b : Nat} {fs : List Value} {a0 : Int64} {a1 : Int32} {Qc : Outcome → xH → Prop} (hst : (st.map fun v => v.category).sum ≤ 8) (hP : P.1 b = some (xO 1 fs)) (hC : xC w d mX1_begin [.ref b, .long a0, .int a1] P Qc) (kr : ∀ v P1, Qc (.returned v) P1 → X w mX6_addCell (d + 1) Q 18 ls (v.toList ++ st) P1) (kt : ∀ q P1, Qc (.threw q) P1 → Xt w mX6_addCell (d + 1) Q 15 ls st P1 q) : X w mX6_addCell (d + 1) Q 15 ls (.int a1 :: .long a0 :: .ref b :: st) P := X_callV (M := mX6_addCell) (MC := mX1_begin) (As := [.long a0, .int a1]) (T := TX1) (dX6_addCell_15) calX1_begin xw_163 xw_164 xw_165 rfl rfl hP hC hst kr kt
theorem sX6_addCell_15 {b : Nat} {fs : List Value} {a0 : Int64} {a1 : Int32} {P1 : xH} (hst : (st.map fun v => v.category).sum ≤ 8) (hP : P.1 b = some (xO 1 fs)) (hC : xC w d mX1_begin [.ref b, .long a0, .int a1] P (xRet none P1)) (k : X w mX6_addCell (d + 1) Q 18 ls st P1) : X w mX6_addCell (d + 1) Q 15 ls (.int a1 :: .long a0 :: .ref b :: st) P := X_callV (M := mX6_addCell) (MC := mX1_begin) (As := [.long a0, .int a1]) (T := TX1) (dX6_addCell_15) calX1_begin xw_163 xw_164 xw_165 rfl rfl hP hC hst (fun v P2 h => by obtain ⟨h1, rfl⟩ := h; cases h1; exact k) (fun q P2 h => by cases h.1)
theorem sX6_addCell_15_r {b : Nat} {fs : List Value} {a0 : Int64} {a1 : Int32} {Rp : xH → Prop} (hst : (st.map fun v => v.category).sum ≤ 8) (hP : P.1 b = some (xO 1 fs)) (hC : xC w d mX1_begin [.ref b, .long a0, .int a1] P (xRl none Rp)) (k : ∀ P1, Rp P1 → X w mX6_addCell (d + 1) Q 18 ls st P1) : X w mX6_addCell (d + 1) Q 15 ls (.int a1 :: .long a0 :: .ref b :: st) P := X_callV (M := mX6_addCell) (MC := mX1_begin) (As := [.long a0, .int a1]) (T := TX1) (dX6_addCell_15) calX1_begin xw_163 xw_164 xw_165 rfl rfl hP hC hst (fun v P2 h => by obtain ⟨h1, hR⟩ := h; cases h1; exact k P2 hR) (fun q P2 h => by cases h.1)
theorem sX6_addCell_15_t {b : Nat} {fs : List Value} {a0 : Int64} {a1 : Int32} {q : Nat} {P1 : xH} (hst : (st.map fun v => v.category).sum ≤ 8) (hP : P.1 b = some (xO 1 fs)) (hC : xC w d mX1_begin [.ref b, .long a0, .int a1] P (xThr q P1)) (hq : Q (.threw q) P1) : X w mX6_addCell (d + 1) Q 15 ls (.int a1 :: .long a0 :: .ref b :: st) P := X_callV (M := mX6_addCell) (MC := mX1_begin) (As := [.long a0, .int a1]) (T := TX1) (dX6_addCell_15) calX1_begin xw_163 xw_164 xw_165 rfl rfl hP hC hst (fun v P2 h => by cases h.1) (fun q2 P2 h => by obtain ⟨h1, rfl⟩ := h; cases h1; exact Xt_out rfl hq)
theorem dX6_addCell_18 : decode cX6_addCell 18 = .ok (.aload_n 0, 1) := by decide +kernel
theorem sX6_addCell_18 {l1 l2 l3 l4 : Option Value} {x : Nat} (k : X w mX6_addCell d Q 19 [some (.ref x), l1, l2, l3, l4] (.ref x :: st) P) : X w mX6_addCell d Q 18 [some (.ref x), l1, l2, l3, l4] st P := X_aload_n (M := mX6_addCell) (dX6_addCell_18) rfl rfl k
theorem dX6_addCell_19 : decode cX6_addCell 19 = .ok (.dup, 1) := by decide +kernel
theorem sX6_addCell_19 {v : Value} (hv : v.category = 1) (k : X w mX6_addCell d Q 20 ls (v :: v :: st) P) : X w mX6_addCell d Q 19 ls (v :: st) P := X_dup (M := mX6_addCell) (dX6_addCell_19) hv k
theorem dX6_addCell_20 : decode cX6_addCell 20 = .ok (.getfield 33, 3) := by decide +kernel
theorem sX6_addCell_20 {a : Nat} {fs : List Value} {v : Int32} (hP : P.1 a = some (xO 4 fs)) (hv : fs[4]? = some (.int v)) (k : X w mX6_addCell d Q 23 ls (.int v :: st) P) : X w mX6_addCell d Q 20 ls (.ref a :: st) P := X_get (M := mX6_addCell) (j := 4) (T := TX6) (dX6_addCell_20) rfl (by decide) x_in6 xw_161 hP hv k
theorem dX6_addCell_23 : decode cX6_addCell 23 = .ok (.iconst 1, 1) := by decide +kernel
theorem sX6_addCell_23 (k : X w mX6_addCell d Q 24 ls (.int (1 : Int32) :: st) P) : X w mX6_addCell d Q 23 ls st P := X_iconst (M := mX6_addCell) (dX6_addCell_23) (by decide) k
theorem dX6_addCell_24 : decode cX6_addCell 24 = .ok (.iadd, 1) := by decide +kernel
theorem sX6_addCell_24 {x y : Int32} (k : X w mX6_addCell d Q 25 ls (.int (x + y) :: st) P) : X w mX6_addCell d Q 24 ls (.int y :: .int x :: st) P := X_iadd (M := mX6_addCell) (dX6_addCell_24) k
theorem dX6_addCell_25 : decode cX6_addCell 25 = .ok (.putfield 33, 3) := by decide +kernel
theorem sX6_addCell_25 {a : Nat} {fs : List Value} {v : Int32} (hP : P.1 a = some (xO 4 fs)) (hl : 4 < fs.length) (k : X w mX6_addCell d Q 28 ls st (xs P a (xO 4 (fs.set 4 (.int v))))) : X w mX6_addCell d Q 25 ls (.int v :: .ref a :: st) P := X_put (M := mX6_addCell) (j := 4) (T := TX6) (dX6_addCell_25) rfl (by decide) x_c6 xw_161 rfl hP rfl rfl hl k
theorem dX6_addCell_28 : decode cX6_addCell 28 = .ok (.aload 4, 2) := by decide +kernel
theorem sX6_addCell_28 {l0 l1 l2 l3 : Option Value} {x : Nat} (k : X w mX6_addCell d Q 30 [l0, l1, l2, l3, some (.ref x)] (.ref x :: st) P) : X w mX6_addCell d Q 28 [l0, l1, l2, l3, some (.ref x)] st P := X_aload (M := mX6_addCell) (dX6_addCell_28) rfl k
theorem dX6_addCell_30 : decode cX6_addCell 30 = .ok (.areturn, 1) := by decide +kernel
theorem sX6_addCell_30 {a : Nat} (hq : Q (.returned (some (.ref a))) P) : X w mX6_addCell d Q 30 ls [.ref a] P := X_aret (M := mX6_addCell) (dX6_addCell_30) rfl hq
end
