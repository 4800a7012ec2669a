section
variable {w : xWd} {d : Nat} {Q : Outcome → xH → Prop} {ls : List (Option Value)} {st : List Value} {P : xH}
theorem dX11_init_0 : decode cX11_init 0 = .ok (.aload_n 0, 1) := by decide +kernel
theorem sX11_init_0 {x : Nat} (k : X w mX11_init d Q 1 [some (.ref x)] (.ref x :: st) P) : X w mX11_init d Q 0 [some (.ref x)] st P := X_aload_n (M := mX11_init) (dX11_init_0) rfl rfl k
theorem dX11_init_1 : decode cX11_init 1 = .ok (.invokespecial 1, 3) := by decide +kernel
theorem sX11_init_1 {a : Nat} (hst : (st.map fun v => v.category).sum ≤ 8) (k : X w mX11_init d Q 4 ls st P) : X w mX11_init d Q 1 ls (.ref a :: st) P := X_objInit (M := mX11_init) (dX11_init_1) xw_403 xw_20 xw_21 hst k
theorem dX11_init_4 : decode cX11_init 4 = .ok (.aload_n 0, 1) := by decide +kernel
theorem sX11_init_4 {x : Nat} (k : X w mX11_init d Q 5 [some (.ref x)] (.ref x :: st) P) : X w mX11_init d Q 4 [some (.ref x)] st P := X_aload_n (M := mX11_init) (dX11_init_4) rfl rfl k
theorem dX11_init_5 : decode cX11_init 5 = .ok (.sipush 1400, 3) := by decide +kernel
theorem sX11_init_5 (k : X w mX11_init d Q 8 ls (.int (1400 : Int32) :: st) P) : X w mX11_init d Q 5 ls st P := X_sipush (M := mX11_init) (dX11_init_5) (by decide) k
theorem dX11_init_8 : decode cX11_init 8 = .ok (.newarray .int, 2) := by decide +kernel
theorem sX11_init_8 {n : Int32} {N : Nat} (hn : ¬ n < 0) (hN : n.toNatClampNeg = N) (hb : N ≤ 10000) (hr1 : P.2.1 + 1 ≤ w.z + 601024) (hr2 : P.2.2 + N ≤ 7293034) (k : X w mX11_init d Q 10 ls (.ref P.2.1 :: st) (xal P (xA 0 N (fun _ => 0)) N)) : X w mX11_init d Q 8 ls (.int n :: st) P := X_newaI (M := mX11_init) (dX11_init_8) (Or.inl ⟨rfl, rfl⟩) xw_22 hn hN hb hr1 hr2 k
theorem dX11_init_10 : decode cX11_init 10 = .ok (.putfield 7, 3) := by decide +kernel
theorem sX11_init_10 {a : Nat} {fs : List Value} {v : Nat} (hP : P.1 a = some (xO 9 fs)) (hl : 2 < fs.length) (k : X w mX11_init d Q 13 ls st (xs P a (xO 9 (fs.set 2 (.ref v))))) : X w mX11_init d Q 10 ls (.ref v :: .ref a :: st) P := X_putF (M := mX11_init) (j := 2) (T := TX11) (dX11_init_10) rfl (by decide) x_c11 xw_404 rfl rfl rfl hP rfl rfl hl k
theorem dX11_init_13 : decode cX11_init 13 = .ok (.aload_n 0, 1) := by decide +kernel
theorem sX11_init_13 {x : Nat} (k : X w mX11_init d Q 14 [some (.ref x)] (.ref x :: st) P) : X w mX11_init d Q 13 [some (.ref x)] st P := X_aload_n (M := mX11_init) (dX11_init_13) rfl rfl k
theorem dX11_init_14 : decode cX11_init 14 = .ok (.iconst 2, 1) := by decide +kernel
theorem sX11_init_14 (k : X w mX11_init d Q 15 ls (.int (2 : Int32) :: st) P) : X w mX11_init d Q 14 ls st P := X_iconst (M := mX11_init) (dX11_init_14) (by decide) k
theorem dX11_init_15 : decode cX11_init 15 = .ok (.newarray .int, 2) := by decide +kernel
theorem sX11_init_15 {n : Int32} {N : Nat} (hn : ¬ n < 0) (hN : n.toNatClampNeg = N) (hb : N ≤ 10000) (hr1 : P.2.1 + 1 ≤ w.z + 601024) (hr2 : P.2.2 + N ≤ 7293034) (k : X w mX11_init d Q 17 ls (.ref P.2.1 :: st) (xal P (xA 0 N (fun _ => 0)) N)) : X w mX11_init d Q 15 ls (.int n :: st) P := X_newaI (M := mX11_init) (dX11_init_15) (Or.inl ⟨rfl, rfl⟩) xw_22 hn hN hb hr1 hr2 k
theorem dX11_init_17 : decode cX11_init 17 = .ok (.putfield 13, 3) := by decide +kernel
theorem sX11_init_17 {a : Nat} {fs : List Value} {v : Nat} (hP : P.1 a = some (xO 9 fs)) (hl : 4 < fs.length) (k : X w mX11_init d Q 20 ls st (xs P a (xO 9 (fs.set 4 (.ref v))))) : X w mX11_init d Q 17 ls (.ref v :: .ref a :: st) P := X_putF (M := mX11_init) (j := 4) (T := TX11) (dX11_init_17) rfl (by decide) x_c11 xw_405 rfl rfl rfl hP rfl rfl hl k
theorem dX11_init_20 : decode cX11_init 20 = .ok (.aload_n 0, 1) := by decide +kernel
theorem sX11_init_20 {x : Nat} (k : X w mX11_init d Q 21 [some (.ref x)] (.ref x :: st) P) : X w mX11_init d Q 20 [some (.ref x)] st P := X_aload_n (M := mX11_init) (dX11_init_20) rfl rfl k
theorem dX11_init_21 : decode cX11_init 21 = .ok (.bipush 24, 2) := by decide +kernel
theorem sX11_init_21 (k : X w mX11_init d Q 23 ls (.int (24 : Int32) :: st) P) : X w mX11_init d Q 21 ls st P := X_bipush (M := mX11_init) (dX11_init_21) (by decide) k
theorem dX11_init_23 : decode cX11_init 23 = .ok (.newarray .long, 2) := by decide +kernel
theorem sX11_init_23 {n : Int32} {N : Nat} (hn : ¬ n < 0) (hN : n.toNatClampNeg = N) (hb : N ≤ 10000) (hr1 : P.2.1 + 1 ≤ w.z + 601024) (hr2 : P.2.2 + N ≤ 7293034) (k : X w mX11_init d Q 25 ls (.ref P.2.1 :: st) (xal P (xJ N (fun _ => 0)) N)) : X w mX11_init d Q 23 ls (.int n :: st) P := X_newaJ (M := mX11_init) (dX11_init_23) xw_60 hn hN hb hr1 hr2 k
theorem dX11_init_25 : decode cX11_init 25 = .ok (.putfield 16, 3) := by decide +kernel
theorem sX11_init_25 {a : Nat} {fs : List Value} {v : Nat} (hP : P.1 a = some (xO 9 fs)) (hl : 5 < fs.length) (k : X w mX11_init d Q 28 ls st (xs P a (xO 9 (fs.set 5 (.ref v))))) : X w mX11_init d Q 25 ls (.ref v :: .ref a :: st) P := X_putF (M := mX11_init) (j := 5) (T := TX11) (dX11_init_25) rfl (by decide) x_c11 xw_406 rfl rfl rfl hP rfl rfl hl k
theorem dX11_init_28 : decode cX11_init 28 = .ok (.aload_n 0, 1) := by decide +kernel
theorem sX11_init_28 {x : Nat} (k : X w mX11_init d Q 29 [some (.ref x)] (.ref x :: st) P) : X w mX11_init d Q 28 [some (.ref x)] st P := X_aload_n (M := mX11_init) (dX11_init_28) rfl rfl k
theorem dX11_init_29 : decode cX11_init 29 = .ok (.bipush 24, 2) := by decide +kernel
theorem sX11_init_29 (k : X w mX11_init d Q 31 ls (.int (24 : Int32) :: st) P) : X w mX11_init d Q 29 ls st P := X_bipush (M := mX11_init) (dX11_init_29) (by decide) k
theorem dX11_init_31 : decode cX11_init 31 = .ok (.newarray .int, 2) := by decide +kernel
theorem sX11_init_31 {n : Int32} {N : Nat} (hn : ¬ n < 0) (hN : n.toNatClampNeg = N) (hb : N ≤ 10000) (hr1 : P.2.1 + 1 ≤ w.z + 601024) (hr2 : P.2.2 + N ≤ 7293034) (k : X w mX11_init d Q 33 ls (.ref P.2.1 :: st) (xal P (xA 0 N (fun _ => 0)) N)) : X w mX11_init d Q 31 ls (.int n :: st) P := X_newaI (M := mX11_init) (dX11_init_31) (Or.inl ⟨rfl, rfl⟩) xw_22 hn hN hb hr1 hr2 k
theorem dX11_init_33 : decode cX11_init 33 = .ok (.putfield 20, 3) := by decide +kernel
theorem sX11_init_33 {a : Nat} {fs : List Value} {v : Nat} (hP : P.1 a = some (xO 9 fs)) (hl : 6 < fs.length) (k : X w mX11_init d Q 36 ls st (xs P a (xO 9 (fs.set 6 (.ref v))))) : X w mX11_init d Q 33 ls (.ref v :: .ref a :: st) P := X_putF (M := mX11_init) (j := 6) (T := TX11) (dX11_init_33) rfl (by decide) x_c11 xw_407 rfl rfl rfl hP rfl rfl hl k
theorem dX11_init_36 : decode cX11_init 36 = .ok (.aload_n 0, 1) := by decide +kernel
theorem sX11_init_36 {x : Nat} (k : X w mX11_init d Q 37 [some (.ref x)] (.ref x :: st) P) : X w mX11_init d Q 36 [some (.ref x)] st P := X_aload_n (M := mX11_init) (dX11_init_36) rfl rfl k
theorem dX11_init_37 : decode cX11_init 37 = .ok (.bipush 24, 2) := by decide +kernel
theorem sX11_init_37 (k : X w mX11_init d Q 39 ls (.int (24 : Int32) :: st) P) : X w mX11_init d Q 37 ls st P := X_bipush (M := mX11_init) (dX11_init_37) (by decide) k
theorem dX11_init_39 : decode cX11_init 39 = .ok (.newarray .int, 2) := by decide +kernel
theorem sX11_init_39 {n : Int32} {N : Nat} (hn : ¬ n < 0) (hN : n.toNatClampNeg = N) (hb : N ≤ 10000) (hr1 : P.2.1 + 1 ≤ w.z + 601024) (hr2 : P.2.2 + N ≤ 7293034) (k : X w mX11_init d Q 41 ls (.ref P.2.1 :: st) (xal P (xA 0 N (fun _ => 0)) N)) : X w mX11_init d Q 39 ls (.int n :: st) P := X_newaI (M := mX11_init) (dX11_init_39) (Or.inl ⟨rfl, rfl⟩) xw_22 hn hN hb hr1 hr2 k
theorem dX11_init_41 : decode cX11_init 41 = .ok (.putfield 23, 3) := by decide +kernel
theorem sX11_init_41 {a : Nat} {fs : List Value} {v : Nat} (hP : P.1 a = some (xO 9 fs)) (hl : 7 < fs.length) (k : X w mX11_init d Q 44 ls st (xs P a (xO 9 (fs.set 7 (.ref v))))) : X w mX11_init d Q 41 ls (.ref v :: .ref a :: st) P := X_putF (M := mX11_init) (j := 7) (T := TX11) (dX11_init_41) rfl (by decide) x_c11 xw_408 rfl rfl rfl hP rfl rfl hl k
theorem dX11_init_44 : decode cX11_init 44 = .ok (.aload_n 0, 1) := by decide +kernel
theorem sX11_init_44 {x : Nat} (k : X w mX11_init d Q 45 [some (.ref x)] (.ref x :: st) P) : X w mX11_init d Q 44 [some (.ref x)] st P := X_aload_n (M := mX11_init) (dX11_init_44) rfl rfl k
theorem dX11_init_45 : decode cX11_init 45 = .ok (.bipush 96, 2) := by decide +kernel
theorem sX11_init_45 (k : X w mX11_init d Q 47 ls (.int (96 : Int32) :: st) P) : X w mX11_init d Q 45 ls st P := X_bipush (M := mX11_init) (dX11_init_45) (by decide) k
theorem dX11_init_47 : decode cX11_init 47 = .ok (.newarray .int, 2) := by decide +kernel
theorem sX11_init_47 {n : Int32} {N : Nat} (hn : ¬ n < 0) (hN : n.toNatClampNeg = N) (hb : N ≤ 10000) (hr1 : P.2.1 + 1 ≤ w.z + 601024) (hr2 : P.2.2 + N ≤ 7293034) (k : X w mX11_init d Q 49 ls (.ref P.2.1 :: st) (xal P (xA 0 N (fun _ => 0)) N)) : X w mX11_init d Q 47 ls (.int n :: st) P := X_newaI (M := mX11_init) (dX11_init_47) (Or.inl ⟨rfl, rfl⟩) xw_22 hn hN hb hr1 hr2 k
theorem dX11_init_49 : decode cX11_init 49 = .ok (.putfield 26, 3) := by decide +kernel
theorem sX11_init_49 {a : Nat} {fs : List Value} {v : Nat} (hP : P.1 a = some (xO 9 fs)) (hl : 8 < fs.length) (k : X w mX11_init d Q 52 ls st (xs P a (xO 9 (fs.set 8 (.ref v))))) : X w mX11_init d Q 49 ls (.ref v :: .ref a :: st) P := X_putF (M := mX11_init) (j := 8) (T := TX11) (dX11_init_49) rfl (by decide) x_c11 xw_409 rfl rfl rfl hP rfl rfl hl k
theorem dX11_init_52 : decode cX11_init 52 = .ok (.aload_n 0, 1) := by decide +kernel
theorem sX11_init_52 {x : Nat} (k : X w mX11_init d Q 53 [some (.ref x)] (.ref x :: st) P) : X w mX11_init d Q 52 [some (.ref x)] st P := X_aload_n (M := mX11_init) (dX11_init_52) rfl rfl k
theorem dX11_init_53 : decode cX11_init 53 = .ok (.bipush 96, 2) := by decide +kernel
theorem sX11_init_53 (k : X w mX11_init d Q 55 ls (.int (96 : Int32) :: st) P) : X w mX11_init d Q 53 ls st P := X_bipush (M := mX11_init) (dX11_init_53) (by decide) k
theorem dX11_init_55 : decode cX11_init 55 = .ok (.newarray .int, 2) := by decide +kernel
theorem sX11_init_55 {n : Int32} {N : Nat} (hn : ¬ n < 0) (hN : n.toNatClampNeg = N) (hb : N ≤ 10000) (hr1 : P.2.1 + 1 ≤ w.z + 601024) (hr2 : P.2.2 + N ≤ 7293034) (k : X w mX11_init d Q 57 ls (.ref P.2.1 :: st) (xal P (xA 0 N (fun _ => 0)) N)) : X w mX11_init d Q 55 ls (.int n :: st) P := X_newaI (M := mX11_init) (dX11_init_55) (Or.inl ⟨rfl, rfl⟩) xw_22 hn hN hb hr1 hr2 k
theorem dX11_init_57 : decode cX11_init 57 = .ok (.putfield 29, 3) := by decide +kernel
theorem sX11_init_57 {a : Nat} {fs : List Value} {v : Nat} (hP : P.1 a = some (xO 9 fs)) (hl : 9 < fs.length) (k : X w mX11_init d Q 60 ls st (xs P a (xO 9 (fs.set 9 (.ref v))))) : X w mX11_init d Q 57 ls (.ref v :: .ref a :: st) P := X_putF (M := mX11_init) (j := 9) (T := TX11) (dX11_init_57) rfl (by decide) x_c11 xw_410 rfl rfl rfl hP rfl rfl hl k
theorem dX11_init_60 : decode cX11_init 60 = .ok (.aload_n 0, 1) := by decide +kernel
theorem sX11_init_60 {x : Nat} (k : X w mX11_init d Q 61 [some (.ref x)] (.ref x :: st) P) : X w mX11_init d Q 60 [some (.ref x)] st P := X_aload_n (M := mX11_init) (dX11_init_60) rfl rfl k
theorem dX11_init_61 : decode cX11_init 61 = .ok (.sipush 384, 3) := by decide +kernel
theorem sX11_init_61 (k : X w mX11_init d Q 64 ls (.int (384 : Int32) :: st) P) : X w mX11_init d Q 61 ls st P := X_sipush (M := mX11_init) (dX11_init_61) (by decide) k
theorem dX11_init_64 : decode cX11_init 64 = .ok (.newarray .int, 2) := by decide +kernel
theorem sX11_init_64 {n : Int32} {N : Nat} (hn : ¬ n < 0) (hN : n.toNatClampNeg = N) (hb : N ≤ 10000) (hr1 : P.2.1 + 1 ≤ w.z + 601024) (hr2 : P.2.2 + N ≤ 7293034) (k : X w mX11_init d Q 66 ls (.ref P.2.1 :: st) (xal P (xA 0 N (fun _ => 0)) N)) : X w mX11_init d Q 64 ls (.int n :: st) P := X_newaI (M := mX11_init) (dX11_init_64) (Or.inl ⟨rfl, rfl⟩) xw_22 hn hN hb hr1 hr2 k
theorem dX11_init_66 : decode cX11_init 66 = .ok (.putfield 32, 3) := by decide +kernel
theorem sX11_init_66 {a : Nat} {fs : List Value} {v : Nat} (hP : P.1 a = some (xO 9 fs)) (hl : 10 < fs.length) (k : X w mX11_init d Q 69 ls st (xs P a (xO 9 (fs.set 10 (.ref v))))) : X w mX11_init d Q 66 ls (.ref v :: .ref a :: st) P := X_putF (M := mX11_init) (j := 10) (T := TX11) (dX11_init_66) rfl (by decide) x_c11 xw_411 rfl rfl rfl hP rfl rfl hl k
theorem dX11_init_69 : decode cX11_init 69 = .ok (.aload_n 0, 1) := by decide +kernel
theorem sX11_init_69 {x : Nat} (k : X w mX11_init d Q 70 [some (.ref x)] (.ref x :: st) P) : X w mX11_init d Q 69 [some (.ref x)] st P := X_aload_n (M := mX11_init) (dX11_init_69) rfl rfl k
theorem dX11_init_70 : decode cX11_init 70 = .ok (.iconst 2, 1) := by decide +kernel
theorem sX11_init_70 (k : X w mX11_init d Q 71 ls (.int (2 : Int32) :: st) P) : X w mX11_init d Q 70 ls st P := X_iconst (M := mX11_init) (dX11_init_70) (by decide) k
theorem dX11_init_71 : decode cX11_init 71 = .ok (.newarray .int, 2) := by decide +kernel
theorem sX11_init_71 {n : Int32} {N : Nat} (hn : ¬ n < 0) (hN : n.toNatClampNeg = N) (hb : N ≤ 10000) (hr1 : P.2.1 + 1 ≤ w.z + 601024) (hr2 : P.2.2 + N ≤ 7293034) (k : X w mX11_init d Q 73 ls (.ref P.2.1 :: st) (xal P (xA 0 N (fun _ => 0)) N)) : X w mX11_init d Q 71 ls (.int n :: st) P := X_newaI (M := mX11_init) (dX11_init_71) (Or.inl ⟨rfl, rfl⟩) xw_22 hn hN hb hr1 hr2 k
theorem dX11_init_73 : decode cX11_init 73 = .ok (.putfield 35, 3) := by decide +kernel
theorem sX11_init_73 {a : Nat} {fs : List Value} {v : Nat} (hP : P.1 a = some (xO 9 fs)) (hl : 11 < fs.length) (k : X w mX11_init d Q 76 ls st (xs P a (xO 9 (fs.set 11 (.ref v))))) : X w mX11_init d Q 73 ls (.ref v :: .ref a :: st) P := X_putF (M := mX11_init) (j := 11) (T := TX11) (dX11_init_73) rfl (by decide) x_c11 xw_412 rfl rfl rfl hP rfl rfl hl k
theorem dX11_init_76 : decode cX11_init 76 = .ok (.aload_n 0, 1) := by decide +kernel
theorem sX11_init_76 {x : Nat} (k : X w mX11_init d Q 77 [some (.ref x)] (.ref x :: st) P) : X w mX11_init d Q 76 [some (.ref x)] st P := X_aload_n (M := mX11_init) (dX11_init_76) rfl rfl k
theorem dX11_init_77 : decode cX11_init 77 = .ok (.bipush 24, 2) := by decide +kernel
theorem sX11_init_77 (k : X w mX11_init d Q 79 ls (.int (24 : Int32) :: st) P) : X w mX11_init d Q 77 ls st P := X_bipush (M := mX11_init) (dX11_init_77) (by decide) k
theorem dX11_init_79 : decode cX11_init 79 = .ok (.newarray .long, 2) := by decide +kernel
theorem sX11_init_79 {n : Int32} {N : Nat} (hn : ¬ n < 0) (hN : n.toNatClampNeg = N) (hb : N ≤ 10000) (hr1 : P.2.1 + 1 ≤ w.z + 601024) (hr2 : P.2.2 + N ≤ 7293034) (k : X w mX11_init d Q 81 ls (.ref P.2.1 :: st) (xal P (xJ N (fun _ => 0)) N)) : X w mX11_init d Q 79 ls (.int n :: st) P := X_newaJ (M := mX11_init) (dX11_init_79) xw_60 hn hN hb hr1 hr2 k
theorem dX11_init_81 : decode cX11_init 81 = .ok (.putfield 38, 3) := by decide +kernel
theorem sX11_init_81 {a : Nat} {fs : List Value} {v : Nat} (hP : P.1 a = some (xO 9 fs)) (hl : 12 < fs.length) (k : X w mX11_init d Q 84 ls st (xs P a (xO 9 (fs.set 12 (.ref v))))) : X w mX11_init d Q 81 ls (.ref v :: .ref a :: st) P := X_putF (M := mX11_init) (j := 12) (T := TX11) (dX11_init_81) rfl (by decide) x_c11 xw_413 rfl rfl rfl hP rfl rfl hl k
theorem dX11_init_84 : decode cX11_init 84 = .ok (.aload_n 0, 1) := by decide +kernel
theorem sX11_init_84 {x : Nat} (k : X w mX11_init d Q 85 [some (.ref x)] (.ref x :: st) P) : X w mX11_init d Q 84 [some (.ref x)] st P := X_aload_n (M := mX11_init) (dX11_init_84) rfl rfl k
theorem dX11_init_85 : decode cX11_init 85 = .ok (.bipush 24, 2) := by decide +kernel
theorem sX11_init_85 (k : X w mX11_init d Q 87 ls (.int (24 : Int32) :: st) P) : X w mX11_init d Q 85 ls st P := X_bipush (M := mX11_init) (dX11_init_85) (by decide) k
theorem dX11_init_87 : decode cX11_init 87 = .ok (.newarray .int, 2) := by decide +kernel
theorem sX11_init_87 {n : Int32} {N : Nat} (hn : ¬ n < 0) (hN : n.toNatClampNeg = N) (hb : N ≤ 10000) (hr1 : P.2.1 + 1 ≤ w.z + 601024) (hr2 : P.2.2 + N ≤ 7293034) (k : X w mX11_init d Q 89 ls (.ref P.2.1 :: st) (xal P (xA 0 N (fun _ => 0)) N)) : X w mX11_init d Q 87 ls (.int n :: st) P := X_newaI (M := mX11_init) (dX11_init_87) (Or.inl ⟨rfl, rfl⟩) xw_22 hn hN hb hr1 hr2 k
theorem dX11_init_89 : decode cX11_init 89 = .ok (.putfield 41, 3) := by decide +kernel
theorem sX11_init_89 {a : Nat} {fs : List Value} {v : Nat} (hP : P.1 a = some (xO 9 fs)) (hl : 13 < fs.length) (k : X w mX11_init d Q 92 ls st (xs P a (xO 9 (fs.set 13 (.ref v))))) : X w mX11_init d Q 89 ls (.ref v :: .ref a :: st) P := X_putF (M := mX11_init) (j := 13) (T := TX11) (dX11_init_89) rfl (by decide) x_c11 xw_414 rfl rfl rfl hP rfl rfl hl k
theorem dX11_init_92 : decode cX11_init 92 = .ok (.aload_n 0, 1) := by decide +kernel
theorem sX11_init_92 {x : Nat} (k : X w mX11_init d Q 93 [some (.ref x)] (.ref x :: st) P) : X w mX11_init d Q 92 [some (.ref x)] st P := X_aload_n (M := mX11_init) (dX11_init_92) rfl rfl k
theorem dX11_init_93 : decode cX11_init 93 = .ok (.sipush 216, 3) := by decide +kernel
theorem sX11_init_93 (k : X w mX11_init d Q 96 ls (.int (216 : Int32) :: st) P) : X w mX11_init d Q 93 ls st P := X_sipush (M := mX11_init) (dX11_init_93) (by decide) k
theorem dX11_init_96 : decode cX11_init 96 = .ok (.newarray .long, 2) := by decide +kernel
theorem sX11_init_96 {n : Int32} {N : Nat} (hn : ¬ n < 0) (hN : n.toNatClampNeg = N) (hb : N ≤ 10000) (hr1 : P.2.1 + 1 ≤ w.z + 601024) (hr2 : P.2.2 + N ≤ 7293034) (k : X w mX11_init d Q 98 ls (.ref P.2.1 :: st) (xal P (xJ N (fun _ => 0)) N)) : X w mX11_init d Q 96 ls (.int n :: st) P := X_newaJ (M := mX11_init) (dX11_init_96) xw_60 hn hN hb hr1 hr2 k
theorem dX11_init_98 : decode cX11_init 98 = .ok (.putfield 44, 3) := by decide +kernel
theorem sX11_init_98 {a : Nat} {fs : List Value} {v : Nat} (hP : P.1 a = some (xO 9 fs)) (hl : 14 < fs.length) (k : X w mX11_init d Q 101 ls st (xs P a (xO 9 (fs.set 14 (.ref v))))) : X w mX11_init d Q 98 ls (.ref v :: .ref a :: st) P := X_putF (M := mX11_init) (j := 14) (T := TX11) (dX11_init_98) rfl (by decide) x_c11 xw_415 rfl rfl rfl hP rfl rfl hl k
theorem dX11_init_101 : decode cX11_init 101 = .ok (.aload_n 0, 1) := by decide +kernel
theorem sX11_init_101 {x : Nat} (k : X w mX11_init d Q 102 [some (.ref x)] (.ref x :: st) P) : X w mX11_init d Q 101 [some (.ref x)] st P := X_aload_n (M := mX11_init) (dX11_init_101) rfl rfl k
theorem dX11_init_102 : decode cX11_init 102 = .ok (.bipush 24, 2) := by decide +kernel
theorem sX11_init_102 (k : X w mX11_init d Q 104 ls (.int (24 : Int32) :: st) P) : X w mX11_init d Q 102 ls st P := X_bipush (M := mX11_init) (dX11_init_102) (by decide) k
theorem dX11_init_104 : decode cX11_init 104 = .ok (.newarray .int, 2) := by decide +kernel
theorem sX11_init_104 {n : Int32} {N : Nat} (hn : ¬ n < 0) (hN : n.toNatClampNeg = N) (hb : N ≤ 10000) (hr1 : P.2.1 + 1 ≤ w.z + 601024) (hr2 : P.2.2 + N ≤ 7293034) (k : X w mX11_init d Q 106 ls (.ref P.2.1 :: st) (xal P (xA 0 N (fun _ => 0)) N)) : X w mX11_init d Q 104 ls (.int n :: st) P := X_newaI (M := mX11_init) (dX11_init_104) (Or.inl ⟨rfl, rfl⟩) xw_22 hn hN hb hr1 hr2 k
theorem dX11_init_106 : decode cX11_init 106 = .ok (.putfield 47, 3) := by decide +kernel
theorem sX11_init_106 {a : Nat} {fs : List Value} {v : Nat} (hP : P.1 a = some (xO 9 fs)) (hl : 15 < fs.length) (k : X w mX11_init d Q 109 ls st (xs P a (xO 9 (fs.set 15 (.ref v))))) : X w mX11_init d Q 106 ls (.ref v :: .ref a :: st) P := X_putF (M := mX11_init) (j := 15) (T := TX11) (dX11_init_106) rfl (by decide) x_c11 xw_416 rfl rfl rfl hP rfl rfl hl k
theorem dX11_init_109 : decode cX11_init 109 = .ok (.aload_n 0, 1) := by decide +kernel
theorem sX11_init_109 {x : Nat} (k : X w mX11_init d Q 110 [some (.ref x)] (.ref x :: st) P) : X w mX11_init d Q 109 [some (.ref x)] st P := X_aload_n (M := mX11_init) (dX11_init_109) rfl rfl k
theorem dX11_init_110 : decode cX11_init 110 = .ok (.bipush 24, 2) := by decide +kernel
theorem sX11_init_110 (k : X w mX11_init d Q 112 ls (.int (24 : Int32) :: st) P) : X w mX11_init d Q 110 ls st P := X_bipush (M := mX11_init) (dX11_init_110) (by decide) k
theorem dX11_init_112 : decode cX11_init 112 = .ok (.newarray .int, 2) := by decide +kernel
theorem sX11_init_112 {n : Int32} {N : Nat} (hn : ¬ n < 0) (hN : n.toNatClampNeg = N) (hb : N ≤ 10000) (hr1 : P.2.1 + 1 ≤ w.z + 601024) (hr2 : P.2.2 + N ≤ 7293034) (k : X w mX11_init d Q 114 ls (.ref P.2.1 :: st) (xal P (xA 0 N (fun _ => 0)) N)) : X w mX11_init d Q 112 ls (.int n :: st) P := X_newaI (M := mX11_init) (dX11_init_112) (Or.inl ⟨rfl, rfl⟩) xw_22 hn hN hb hr1 hr2 k
theorem dX11_init_114 : decode cX11_init 114 = .ok (.putfield 50, 3) := by decide +kernel
theorem sX11_init_114 {a : Nat} {fs : List Value} {v : Nat} (hP : P.1 a = some (xO 9 fs)) (hl : 16 < fs.length) (k : X w mX11_init d Q 117 ls st (xs P a (xO 9 (fs.set 16 (.ref v))))) : X w mX11_init d Q 114 ls (.ref v :: .ref a :: st) P := X_putF (M := mX11_init) (j := 16) (T := TX11) (dX11_init_114) rfl (by decide) x_c11 xw_417 rfl rfl rfl hP rfl rfl hl k
theorem dX11_init_117 : decode cX11_init 117 = .ok (.aload_n 0, 1) := by decide +kernel
theorem sX11_init_117 {x : Nat} (k : X w mX11_init d Q 118 [some (.ref x)] (.ref x :: st) P) : X w mX11_init d Q 117 [some (.ref x)] st P := X_aload_n (M := mX11_init) (dX11_init_117) rfl rfl k
theorem dX11_init_118 : decode cX11_init 118 = .ok (.bipush 72, 2) := by decide +kernel
theorem sX11_init_118 (k : X w mX11_init d Q 120 ls (.int (72 : Int32) :: st) P) : X w mX11_init d Q 118 ls st P := X_bipush (M := mX11_init) (dX11_init_118) (by decide) k
theorem dX11_init_120 : decode cX11_init 120 = .ok (.newarray .int, 2) := by decide +kernel
theorem sX11_init_120 {n : Int32} {N : Nat} (hn : ¬ n < 0) (hN : n.toNatClampNeg = N) (hb : N ≤ 10000) (hr1 : P.2.1 + 1 ≤ w.z + 601024) (hr2 : P.2.2 + N ≤ 7293034) (k : X w mX11_init d Q 122 ls (.ref P.2.1 :: st) (xal P (xA 0 N (fun _ => 0)) N)) : X w mX11_init d Q 120 ls (.int n :: st) P := X_newaI (M := mX11_init) (dX11_init_120) (Or.inl ⟨rfl, rfl⟩) xw_22 hn hN hb hr1 hr2 k
theorem dX11_init_122 : decode cX11_init 122 = .ok (.putfield 53, 3) := by decide +kernel
theorem sX11_init_122 {a : Nat} {fs : List Value} {v : Nat} (hP : P.1 a = some (xO 9 fs)) (hl : 17 < fs.length) (k : X w mX11_init d Q 125 ls st (xs P a (xO 9 (fs.set 17 (.ref v))))) : X w mX11_init d Q 122 ls (.ref v :: .ref a :: st) P := X_putF (M := mX11_init) (j := 17) (T := TX11) (dX11_init_122) rfl (by decide) x_c11 xw_418 rfl rfl rfl hP rfl rfl hl k
theorem dX11_init_125 : decode cX11_init 125 = .ok (.aload_n 0, 1) := by decide +kernel
theorem sX11_init_125 {x : Nat} (k : X w mX11_init d Q 126 [some (.ref x)] (.ref x :: st) P) : X w mX11_init d Q 125 [some (.ref x)] st P := X_aload_n (M := mX11_init) (dX11_init_125) rfl rfl k
theorem dX11_init_126 : decode cX11_init 126 = .ok (.bipush 96, 2) := by decide +kernel
theorem sX11_init_126 (k : X w mX11_init d Q 128 ls (.int (96 : Int32) :: st) P) : X w mX11_init d Q 126 ls st P := X_bipush (M := mX11_init) (dX11_init_126) (by decide) k
theorem dX11_init_128 : decode cX11_init 128 = .ok (.newarray .boolean, 2) := by decide +kernel
theorem sX11_init_128 {n : Int32} {N : Nat} (hn : ¬ n < 0) (hN : n.toNatClampNeg = N) (hb : N ≤ 10000) (hr1 : P.2.1 + 1 ≤ w.z + 601024) (hr2 : P.2.2 + N ≤ 7293034) (k : X w mX11_init d Q 130 ls (.ref P.2.1 :: st) (xal P (xA 3 N (fun _ => 0)) N)) : X w mX11_init d Q 128 ls (.int n :: st) P := X_newaI (M := mX11_init) (dX11_init_128) (Or.inr (Or.inr ⟨rfl, rfl⟩)) xw_102 hn hN hb hr1 hr2 k
theorem dX11_init_130 : decode cX11_init 130 = .ok (.putfield 56, 3) := by decide +kernel
theorem sX11_init_130 {a : Nat} {fs : List Value} {v : Nat} (hP : P.1 a = some (xO 9 fs)) (hl : 18 < fs.length) (k : X w mX11_init d Q 133 ls st (xs P a (xO 9 (fs.set 18 (.ref v))))) : X w mX11_init d Q 130 ls (.ref v :: .ref a :: st) P := X_putF (M := mX11_init) (j := 18) (T := TX11) (dX11_init_130) rfl (by decide) x_c11 xw_419 rfl rfl rfl hP rfl rfl hl k
theorem dX11_init_133 : decode cX11_init 133 = .ok (.aload_n 0, 1) := by decide +kernel
theorem sX11_init_133 {x : Nat} (k : X w mX11_init d Q 134 [some (.ref x)] (.ref x :: st) P) : X w mX11_init d Q 133 [some (.ref x)] st P := X_aload_n (M := mX11_init) (dX11_init_133) rfl rfl k
theorem dX11_init_134 : decode cX11_init 134 = .ok (.bipush 72, 2) := by decide +kernel
theorem sX11_init_134 (k : X w mX11_init d Q 136 ls (.int (72 : Int32) :: st) P) : X w mX11_init d Q 134 ls st P := X_bipush (M := mX11_init) (dX11_init_134) (by decide) k
theorem dX11_init_136 : decode cX11_init 136 = .ok (.newarray .long, 2) := by decide +kernel
theorem sX11_init_136 {n : Int32} {N : Nat} (hn : ¬ n < 0) (hN : n.toNatClampNeg = N) (hb : N ≤ 10000) (hr1 : P.2.1 + 1 ≤ w.z + 601024) (hr2 : P.2.2 + N ≤ 7293034) (k : X w mX11_init d Q 138 ls (.ref P.2.1 :: st) (xal P (xJ N (fun _ => 0)) N)) : X w mX11_init d Q 136 ls (.int n :: st) P := X_newaJ (M := mX11_init) (dX11_init_136) xw_60 hn hN hb hr1 hr2 k
theorem dX11_init_138 : decode cX11_init 138 = .ok (.putfield 60, 3) := by decide +kernel
theorem sX11_init_138 {a : Nat} {fs : List Value} {v : Nat} (hP : P.1 a = some (xO 9 fs)) (hl : 19 < fs.length) (k : X w mX11_init d Q 141 ls st (xs P a (xO 9 (fs.set 19 (.ref v))))) : X w mX11_init d Q 138 ls (.ref v :: .ref a :: st) P := X_putF (M := mX11_init) (j := 19) (T := TX11) (dX11_init_138) rfl (by decide) x_c11 xw_420 rfl rfl rfl hP rfl rfl hl k
theorem dX11_init_141 : decode cX11_init 141 = .ok (.aload_n 0, 1) := by decide +kernel
theorem sX11_init_141 {x : Nat} (k : X w mX11_init d Q 142 [some (.ref x)] (.ref x :: st) P) : X w mX11_init d Q 141 [some (.ref x)] st P := X_aload_n (M := mX11_init) (dX11_init_141) rfl rfl k
theorem dX11_init_142 : decode cX11_init 142 = .ok (.bipush 24, 2) := by decide +kernel
theorem sX11_init_142 (k : X w mX11_init d Q 144 ls (.int (24 : Int32) :: st) P) : X w mX11_init d Q 142 ls st P := X_bipush (M := mX11_init) (dX11_init_142) (by decide) k
theorem dX11_init_144 : decode cX11_init 144 = .ok (.newarray .int, 2) := by decide +kernel
theorem sX11_init_144 {n : Int32} {N : Nat} (hn : ¬ n < 0) (hN : n.toNatClampNeg = N) (hb : N ≤ 10000) (hr1 : P.2.1 + 1 ≤ w.z + 601024) (hr2 : P.2.2 + N ≤ 7293034) (k : X w mX11_init d Q 146 ls (.ref P.2.1 :: st) (xal P (xA 0 N (fun _ => 0)) N)) : X w mX11_init d Q 144 ls (.int n :: st) P := X_newaI (M := mX11_init) (dX11_init_144) (Or.inl ⟨rfl, rfl⟩) xw_22 hn hN hb hr1 hr2 k
theorem dX11_init_146 : decode cX11_init 146 = .ok (.putfield 63, 3) := by decide +kernel
theorem sX11_init_146 {a : Nat} {fs : List Value} {v : Nat} (hP : P.1 a = some (xO 9 fs)) (hl : 20 < fs.length) (k : X w mX11_init d Q 149 ls st (xs P a (xO 9 (fs.set 20 (.ref v))))) : X w mX11_init d Q 146 ls (.ref v :: .ref a :: st) P := X_putF (M := mX11_init) (j := 20) (T := TX11) (dX11_init_146) rfl (by decide) x_c11 xw_421 rfl rfl rfl hP rfl rfl hl k
theorem dX11_init_149 : decode cX11_init 149 = .ok (.aload_n 0, 1) := by decide +kernel
theorem sX11_init_149 {x : Nat} (k : X w mX11_init d Q 150 [some (.ref x)] (.ref x :: st) P) : X w mX11_init d Q 149 [some (.ref x)] st P := X_aload_n (M := mX11_init) (dX11_init_149) rfl rfl k
theorem dX11_init_150 : decode cX11_init 150 = .ok (.sipush 1200, 3) := by decide +kernel
theorem sX11_init_150 (k : X w mX11_init d Q 153 ls (.int (1200 : Int32) :: st) P) : X w mX11_init d Q 150 ls st P := X_sipush (M := mX11_init) (dX11_init_150) (by decide) k
theorem dX11_init_153 : decode cX11_init 153 = .ok (.newarray .int, 2) := by decide +kernel
theorem sX11_init_153 {n : Int32} {N : Nat} (hn : ¬ n < 0) (hN : n.toNatClampNeg = N) (hb : N ≤ 10000) (hr1 : P.2.1 + 1 ≤ w.z + 601024) (hr2 : P.2.2 + N ≤ 7293034) (k : X w mX11_init d Q 155 ls (.ref P.2.1 :: st) (xal P (xA 0 N (fun _ => 0)) N)) : X w mX11_init d Q 153 ls (.int n :: st) P := X_newaI (M := mX11_init) (dX11_init_153) (Or.inl ⟨rfl, rfl⟩) xw_22 hn hN hb hr1 hr2 k
theorem dX11_init_155 : decode cX11_init 155 = .ok (.putfield 66, 3) := by decide +kernel
theorem sX11_init_155 {a : Nat} {fs : List Value} {v : Nat} (hP : P.1 a = some (xO 9 fs)) (hl : 21 < fs.length) (k : X w mX11_init d Q 158 ls st (xs P a (xO 9 (fs.set 21 (.ref v))))) : X w mX11_init d Q 155 ls (.ref v :: .ref a :: st) P := X_putF (M := mX11_init) (j := 21) (T := TX11) (dX11_init_155) rfl (by decide) x_c11 xw_422 rfl rfl rfl hP rfl rfl hl k
theorem dX11_init_158 : decode cX11_init 158 = .ok (.aload_n 0, 1) := by decide +kernel
theorem sX11_init_158 {x : Nat} (k : X w mX11_init d Q 159 [some (.ref x)] (.ref x :: st) P) : X w mX11_init d Q 158 [some (.ref x)] st P := X_aload_n (M := mX11_init) (dX11_init_158) rfl rfl k
theorem dX11_init_159 : decode cX11_init 159 = .ok (.sipush 1536, 3) := by decide +kernel
theorem sX11_init_159 (k : X w mX11_init d Q 162 ls (.int (1536 : Int32) :: st) P) : X w mX11_init d Q 159 ls st P := X_sipush (M := mX11_init) (dX11_init_159) (by decide) k
theorem dX11_init_162 : decode cX11_init 162 = .ok (.newarray .int, 2) := by decide +kernel
theorem sX11_init_162 {n : Int32} {N : Nat} (hn : ¬ n < 0) (hN : n.toNatClampNeg = N) (hb : N ≤ 10000) (hr1 : P.2.1 + 1 ≤ w.z + 601024) (hr2 : P.2.2 + N ≤ 7293034) (k : X w mX11_init d Q 164 ls (.ref P.2.1 :: st) (xal P (xA 0 N (fun _ => 0)) N)) : X w mX11_init d Q 162 ls (.int n :: st) P := X_newaI (M := mX11_init) (dX11_init_162) (Or.inl ⟨rfl, rfl⟩) xw_22 hn hN hb hr1 hr2 k
theorem dX11_init_164 : decode cX11_init 164 = .ok (.putfield 69, 3) := by decide +kernel
theorem sX11_init_164 {a : Nat} {fs : List Value} {v : Nat} (hP : P.1 a = some (xO 9 fs)) (hl : 22 < fs.length) (k : X w mX11_init d Q 167 ls st (xs P a (xO 9 (fs.set 22 (.ref v))))) : X w mX11_init d Q 164 ls (.ref v :: .ref a :: st) P := X_putF (M := mX11_init) (j := 22) (T := TX11) (dX11_init_164) rfl (by decide) x_c11 xw_423 rfl rfl rfl hP rfl rfl hl k
theorem dX11_init_167 : decode cX11_init 167 = .ok (.aload_n 0, 1) := by decide +kernel
theorem sX11_init_167 {x : Nat} (k : X w mX11_init d Q 168 [some (.ref x)] (.ref x :: st) P) : X w mX11_init d Q 167 [some (.ref x)] st P := X_aload_n (M := mX11_init) (dX11_init_167) rfl rfl k
theorem dX11_init_168 : decode cX11_init 168 = .ok (.sipush 1500, 3) := by decide +kernel
theorem sX11_init_168 (k : X w mX11_init d Q 171 ls (.int (1500 : Int32) :: st) P) : X w mX11_init d Q 168 ls st P := X_sipush (M := mX11_init) (dX11_init_168) (by decide) k
theorem dX11_init_171 : decode cX11_init 171 = .ok (.newarray .int, 2) := by decide +kernel
theorem sX11_init_171 {n : Int32} {N : Nat} (hn : ¬ n < 0) (hN : n.toNatClampNeg = N) (hb : N ≤ 10000) (hr1 : P.2.1 + 1 ≤ w.z + 601024) (hr2 : P.2.2 + N ≤ 7293034) (k : X w mX11_init d Q 173 ls (.ref P.2.1 :: st) (xal P (xA 0 N (fun _ => 0)) N)) : X w mX11_init d Q 171 ls (.int n :: st) P := X_newaI (M := mX11_init) (dX11_init_171) (Or.inl ⟨rfl, rfl⟩) xw_22 hn hN hb hr1 hr2 k
theorem dX11_init_173 : decode cX11_init 173 = .ok (.putfield 72, 3) := by decide +kernel
theorem sX11_init_173 {a : Nat} {fs : List Value} {v : Nat} (hP : P.1 a = some (xO 9 fs)) (hl : 31 < fs.length) (k : X w mX11_init d Q 176 ls st (xs P a (xO 9 (fs.set 31 (.ref v))))) : X w mX11_init d Q 173 ls (.ref v :: .ref a :: st) P := X_putF (M := mX11_init) (j := 31) (T := TX11) (dX11_init_173) rfl (by decide) x_c11 xw_424 rfl rfl rfl hP rfl rfl hl k
theorem dX11_init_176 : decode cX11_init 176 = .ok (.aload_n 0, 1) := by decide +kernel
theorem sX11_init_176 {x : Nat} (k : X w mX11_init d Q 177 [some (.ref x)] (.ref x :: st) P) : X w mX11_init d Q 176 [some (.ref x)] st P := X_aload_n (M := mX11_init) (dX11_init_176) rfl rfl k
theorem dX11_init_177 : decode cX11_init 177 = .ok (.sipush 200, 3) := by decide +kernel
theorem sX11_init_177 (k : X w mX11_init d Q 180 ls (.int (200 : Int32) :: st) P) : X w mX11_init d Q 177 ls st P := X_sipush (M := mX11_init) (dX11_init_177) (by decide) k
theorem dX11_init_180 : decode cX11_init 180 = .ok (.newarray .long, 2) := by decide +kernel
theorem sX11_init_180 {n : Int32} {N : Nat} (hn : ¬ n < 0) (hN : n.toNatClampNeg = N) (hb : N ≤ 10000) (hr1 : P.2.1 + 1 ≤ w.z + 601024) (hr2 : P.2.2 + N ≤ 7293034) (k : X w mX11_init d Q 182 ls (.ref P.2.1 :: st) (xal P (xJ N (fun _ => 0)) N)) : X w mX11_init d Q 180 ls (.int n :: st) P := X_newaJ (M := mX11_init) (dX11_init_180) xw_60 hn hN hb hr1 hr2 k
theorem dX11_init_182 : decode cX11_init 182 = .ok (.putfield 75, 3) := by decide +kernel
theorem sX11_init_182 {a : Nat} {fs : List Value} {v : Nat} (hP : P.1 a = some (xO 9 fs)) (hl : 33 < fs.length) (k : X w mX11_init d Q 185 ls st (xs P a (xO 9 (fs.set 33 (.ref v))))) : X w mX11_init d Q 182 ls (.ref v :: .ref a :: st) P := X_putF (M := mX11_init) (j := 33) (T := TX11) (dX11_init_182) rfl (by decide) x_c11 xw_425 rfl rfl rfl hP rfl rfl hl k
theorem dX11_init_185 : decode cX11_init 185 = .ok (.aload_n 0, 1) := by decide +kernel
theorem sX11_init_185 {x : Nat} (k : X w mX11_init d Q 186 [some (.ref x)] (.ref x :: st) P) : X w mX11_init d Q 185 [some (.ref x)] st P := X_aload_n (M := mX11_init) (dX11_init_185) rfl rfl k
theorem dX11_init_186 : decode cX11_init 186 = .ok (.bipush 6, 2) := by decide +kernel
theorem sX11_init_186 (k : X w mX11_init d Q 188 ls (.int (6 : Int32) :: st) P) : X w mX11_init d Q 186 ls st P := X_bipush (M := mX11_init) (dX11_init_186) (by decide) k
theorem dX11_init_188 : decode cX11_init 188 = .ok (.newarray .int, 2) := by decide +kernel
theorem sX11_init_188 {n : Int32} {N : Nat} (hn : ¬ n < 0) (hN : n.toNatClampNeg = N) (hb : N ≤ 10000) (hr1 : P.2.1 + 1 ≤ w.z + 601024) (hr2 : P.2.2 + N ≤ 7293034) (k : X w mX11_init d Q 190 ls (.ref P.2.1 :: st) (xal P (xA 0 N (fun _ => 0)) N)) : X w mX11_init d Q 188 ls (.int n :: st) P := X_newaI (M := mX11_init) (dX11_init_188) (Or.inl ⟨rfl, rfl⟩) xw_22 hn hN hb hr1 hr2 k
theorem dX11_init_190 : decode cX11_init 190 = .ok (.putfield 78, 3) := by decide +kernel
theorem sX11_init_190 {a : Nat} {fs : List Value} {v : Nat} (hP : P.1 a = some (xO 9 fs)) (hl : 35 < fs.length) (k : X w mX11_init d Q 193 ls st (xs P a (xO 9 (fs.set 35 (.ref v))))) : X w mX11_init d Q 190 ls (.ref v :: .ref a :: st) P := X_putF (M := mX11_init) (j := 35) (T := TX11) (dX11_init_190) rfl (by decide) x_c11 xw_426 rfl rfl rfl hP rfl rfl hl k
theorem dX11_init_193 : decode cX11_init 193 = .ok (.aload_n 0, 1) := by decide +kernel
theorem sX11_init_193 {x : Nat} (k : X w mX11_init d Q 194 [some (.ref x)] (.ref x :: st) P) : X w mX11_init d Q 193 [some (.ref x)] st P := X_aload_n (M := mX11_init) (dX11_init_193) rfl rfl k
theorem dX11_init_194 : decode cX11_init 194 = .ok (.bipush 12, 2) := by decide +kernel
theorem sX11_init_194 (k : X w mX11_init d Q 196 ls (.int (12 : Int32) :: st) P) : X w mX11_init d Q 194 ls st P := X_bipush (M := mX11_init) (dX11_init_194) (by decide) k
theorem dX11_init_196 : decode cX11_init 196 = .ok (.newarray .int, 2) := by decide +kernel
theorem sX11_init_196 {n : Int32} {N : Nat} (hn : ¬ n < 0) (hN : n.toNatClampNeg = N) (hb : N ≤ 10000) (hr1 : P.2.1 + 1 ≤ w.z + 601024) (hr2 : P.2.2 + N ≤ 7293034) (k : X w mX11_init d Q 198 ls (.ref P.2.1 :: st) (xal P (xA 0 N (fun _ => 0)) N)) : X w mX11_init d Q 196 ls (.int n :: st) P := X_newaI (M := mX11_init) (dX11_init_196) (Or.inl ⟨rfl, rfl⟩) xw_22 hn hN hb hr1 hr2 k
theorem dX11_init_198 : decode cX11_init 198 = .ok (.putfield 81, 3) := by decide +kernel
theorem sX11_init_198 {a : Nat} {fs : List Value} {v : Nat} (hP : P.1 a = some (xO 9 fs)) (hl : 36 < fs.length) (k : X w mX11_init d Q 201 ls st (xs P a (xO 9 (fs.set 36 (.ref v))))) : X w mX11_init d Q 198 ls (.ref v :: .ref a :: st) P := X_putF (M := mX11_init) (j := 36) (T := TX11) (dX11_init_198) rfl (by decide) x_c11 xw_427 rfl rfl rfl hP rfl rfl hl k
theorem dX11_init_201 : decode cX11_init 201 = .ok (.return_, 1) := by decide +kernel
theorem sX11_init_201 (hq : Q (.returned none) P) : X w mX11_init d Q 201 ls [] P := X_vret (M := mX11_init) (dX11_init_201) rfl hq
theorem dX11_thrown_0 : decode cX11_thrown 0 = .ok (.aload_n 0, 1) := by decide +kernel
theorem sX11_thrown_0 {x : Nat} (k : X w mX11_thrown d Q 1 [some (.ref x)] (.ref x :: st) P) : X w mX11_thrown d Q 0 [some (.ref x)] st P := X_aload_n (M := mX11_thrown) (dX11_thrown_0) rfl rfl k
theorem dX11_thrown_1 : decode cX11_thrown 1 = .ok (.getfield 84, 3) := by decide +kernel
theorem sX11_thrown_1 {a : Nat} {fs : List Value} {v : Int32} (hP : P.1 a = some (xO 9 fs)) (hv : fs[0]? = some (.int v)) (k : X w mX11_thrown d Q 4 ls (.int v :: st) P) : X w mX11_thrown d Q 1 ls (.ref a :: st) P := X_get (M := mX11_thrown) (j := 0) (T := TX11) (dX11_thrown_1) rfl (by decide) x_in11 xw_428 hP hv k
theorem dX11_thrown_4 : decode cX11_thrown 4 = .ok (.ireturn, 1) := by decide +kernel
theorem sX11_thrown_4 {v : Int32} (hq : Q (.returned (some (.int v))) P) : X w mX11_thrown d Q 4 ls [.int v] P := X_iret (M := mX11_thrown) (dX11_thrown_4) rfl hq
theorem dX11_isCharacter_0 : decode cX11_isCharacter 0 = .ok (.iload_n 0, 1) := by decide +kernel
theorem sX11_isCharacter_0 {x : Int32} (k : X w mX11_isCharacter d Q 1 [some (.int x)] (.int x :: st) P) : X w mX11_isCharacter d Q 0 [some (.int x)] st P := X_iload_n (M := mX11_isCharacter) (dX11_isCharacter_0) rfl rfl k
theorem dX11_isCharacter_1 : decode cX11_isCharacter 1 = .ok (.bipush 10, 2) := by decide +kernel
theorem sX11_isCharacter_1 (k : X w mX11_isCharacter d Q 3 ls (.int (10 : Int32) :: st) P) : X w mX11_isCharacter d Q 1 ls st P := X_bipush (M := mX11_isCharacter) (dX11_isCharacter_1) (by decide) k
theorem dX11_isCharacter_3 : decode cX11_isCharacter 3 = .ok (.if_icmp .eq 15, 3) := by decide +kernel
theorem sX11_isCharacter_3 {x y : Int32} (kt : x = y → X w mX11_isCharacter d Q 18 ls st P) (kf : ¬ x = y → X w mX11_isCharacter d Q 6 ls st P) : X w mX11_isCharacter d Q 3 ls (.int y :: .int x :: st) P := X_icmp_eq (M := mX11_isCharacter) (dX11_isCharacter_3) (by decide) kt kf
theorem dX11_isCharacter_6 : decode cX11_isCharacter 6 = .ok (.iload_n 0, 1) := by decide +kernel
theorem sX11_isCharacter_6 {x : Int32} (k : X w mX11_isCharacter d Q 7 [some (.int x)] (.int x :: st) P) : X w mX11_isCharacter d Q 6 [some (.int x)] st P := X_iload_n (M := mX11_isCharacter) (dX11_isCharacter_6) rfl rfl k
theorem dX11_isCharacter_7 : decode cX11_isCharacter 7 = .ok (.bipush 32, 2) := by decide +kernel
theorem sX11_isCharacter_7 (k : X w mX11_isCharacter d Q 9 ls (.int (32 : Int32) :: st) P) : X w mX11_isCharacter d Q 7 ls st P := X_bipush (M := mX11_isCharacter) (dX11_isCharacter_7) (by decide) k
theorem dX11_isCharacter_9 : decode cX11_isCharacter 9 = .ok (.if_icmp .lt 13, 3) := by decide +kernel
theorem sX11_isCharacter_9 {x y : Int32} (kt : x < y → X w mX11_isCharacter d Q 22 ls st P) (kf : ¬ x < y → X w mX11_isCharacter d Q 12 ls st P) : X w mX11_isCharacter d Q 9 ls (.int y :: .int x :: st) P := X_icmp_lt (M := mX11_isCharacter) (dX11_isCharacter_9) (by decide) kt kf
theorem dX11_isCharacter_12 : decode cX11_isCharacter 12 = .ok (.iload_n 0, 1) := by decide +kernel
theorem sX11_isCharacter_12 {x : Int32} (k : X w mX11_isCharacter d Q 13 [some (.int x)] (.int x :: st) P) : X w mX11_isCharacter d Q 12 [some (.int x)] st P := X_iload_n (M := mX11_isCharacter) (dX11_isCharacter_12) rfl rfl k
theorem dX11_isCharacter_13 : decode cX11_isCharacter 13 = .ok (.bipush 126, 2) := by decide +kernel
theorem sX11_isCharacter_13 (k : X w mX11_isCharacter d Q 15 ls (.int (126 : Int32) :: st) P) : X w mX11_isCharacter d Q 13 ls st P := X_bipush (M := mX11_isCharacter) (dX11_isCharacter_13) (by decide) k
theorem dX11_isCharacter_15 : decode cX11_isCharacter 15 = .ok (.if_icmp .gt 7, 3) := by decide +kernel
theorem sX11_isCharacter_15 {x y : Int32} (kt : y < x → X w mX11_isCharacter d Q 22 ls st P) (kf : ¬ y < x → X w mX11_isCharacter d Q 18 ls st P) : X w mX11_isCharacter d Q 15 ls (.int y :: .int x :: st) P := X_icmp_gt (M := mX11_isCharacter) (dX11_isCharacter_15) (by decide) kt kf
theorem dX11_isCharacter_18 : decode cX11_isCharacter 18 = .ok (.iconst 1, 1) := by decide +kernel
theorem sX11_isCharacter_18 (k : X w mX11_isCharacter d Q 19 ls (.int (1 : Int32) :: st) P) : X w mX11_isCharacter d Q 18 ls st P := X_iconst (M := mX11_isCharacter) (dX11_isCharacter_18) (by decide) k
theorem dX11_isCharacter_19 : decode cX11_isCharacter 19 = .ok (.goto 4, 3) := by decide +kernel
theorem sX11_isCharacter_19 (k : X w mX11_isCharacter d Q 23 ls st P) : X w mX11_isCharacter d Q 19 ls st P := X_goto (M := mX11_isCharacter) (dX11_isCharacter_19) (by decide) k
theorem dX11_isCharacter_22 : decode cX11_isCharacter 22 = .ok (.iconst 0, 1) := by decide +kernel
theorem sX11_isCharacter_22 (k : X w mX11_isCharacter d Q 23 ls (.int (0 : Int32) :: st) P) : X w mX11_isCharacter d Q 22 ls st P := X_iconst (M := mX11_isCharacter) (dX11_isCharacter_22) (by decide) k
theorem dX11_isCharacter_23 : decode cX11_isCharacter 23 = .ok (.ireturn, 1) := by decide +kernel
theorem sX11_isCharacter_23 {v : Int32} (hb : v = 0 ∨ v = 1) (hq : Q (.returned (some (.int v))) P) : X w mX11_isCharacter d Q 23 ls [.int v] P := X_zret (M := mX11_isCharacter) (ty := .boolean) (dX11_isCharacter_23) rfl (xz_n hb) hq
theorem dX11_unit_0 : decode cX11_unit 0 = .ok (.aload_n 0, 1) := by decide +kernel
theorem sX11_unit_0 {l1 : Option Value} {x : Nat} (k : X w mX11_unit d Q 1 [some (.ref x), l1] (.ref x :: st) P) : X w mX11_unit d Q 0 [some (.ref x), l1] st P := X_aload_n (M := mX11_unit) (dX11_unit_0) rfl rfl k
theorem dX11_unit_1 : decode cX11_unit 1 = .ok (.iconst 0, 1) := by decide +kernel
theorem sX11_unit_1 (k : X w mX11_unit d Q 2 ls (.int (0 : Int32) :: st) P) : X w mX11_unit d Q 1 ls st P := X_iconst (M := mX11_unit) (dX11_unit_1) (by decide) k
theorem dX11_unit_2 : decode cX11_unit 2 = .ok (.putfield 84, 3) := by decide +kernel
theorem sX11_unit_2 {a : Nat} {fs : List Value} {v : Int32} (hP : P.1 a = some (xO 9 fs)) (hl : 0 < fs.length) (k : X w mX11_unit d Q 5 ls st (xs P a (xO 9 (fs.set 0 (.int v))))) : X w mX11_unit d Q 2 ls (.int v :: .ref a :: st) P := X_put (M := mX11_unit) (j := 0) (T := TX11) (dX11_unit_2) rfl (by decide) x_c11 xw_428 rfl hP rfl rfl hl k
theorem dX11_unit_5 : decode cX11_unit 5 = .ok (.iload_n 1, 1) := by decide +kernel
theorem sX11_unit_5 {l0 : Option Value} {x : Int32} (k : X w mX11_unit d Q 6 [l0, some (.int x)] (.int x :: st) P) : X w mX11_unit d Q 5 [l0, some (.int x)] st P := X_iload_n (M := mX11_unit) (dX11_unit_5) rfl rfl k
theorem dX11_unit_6 : decode cX11_unit 6 = .ok (.invokestatic 88, 3) := by decide +kernel
theorem sX11_unit_6_g {a0 : Int32} {Qc : Outcome → xH → Prop} (hst : (st.map fun v => v.category).sum ≤ 8) (hC : xC w d mX11_isCharacter [.int a0] P Qc) (kr : ∀ v P1, Qc (.returned v) P1 → X w mX11_unit (d + 1) Q 9 ls (v.toList ++ st) P1) (kt : ∀ q P1, Qc (.threw q) P1 → Xt w mX11_unit (d + 1) Q 6 ls st P1 q) : X w mX11_unit (d + 1) Q 6 ls (.int a0 :: st) P := X_callS (M := mX11_unit) (MC := mX11_isCharacter) (As := [.int a0]) (dX11_unit_6) calX11_isCharacter xw_429 xw_430 rfl hC hst kr kt
theorem sX11_unit_6 {a0 : Int32} {r : Int32} {P1 : xH} (hst : (st.map fun v => v.category).sum ≤ 8) (hC : xC w d mX11_isCharacter [.int a0] P (xRet (some (.int r)) P1)) (k : X w mX11_unit (d + 1) Q 9 ls (.int r :: st) P1) : X w mX11_unit (d + 1) Q 6 ls (.int a0 :: st) P := X_callS (M := mX11_unit) (MC := mX11_isCharacter) (As := [.int a0]) (dX11_unit_6) calX11_isCharacter xw_429 xw_430 rfl hC hst (fun v P2 h => by obtain ⟨h1, rfl⟩ := h; cases h1; exact k) (fun q P2 h => by cases h.1)
theorem sX11_unit_6_r {a0 : Int32} {r : Int32} {Rp : xH → Prop} (hst : (st.map fun v => v.category).sum ≤ 8) (hC : xC w d mX11_isCharacter [.int a0] P (xRl (some (.int r)) Rp)) (k : ∀ P1, Rp P1 → X w mX11_unit (d + 1) Q 9 ls (.int r :: st) P1) : X w mX11_unit (d + 1) Q 6 ls (.int a0 :: st) P := X_callS (M := mX11_unit) (MC := mX11_isCharacter) (As := [.int a0]) (dX11_unit_6) calX11_isCharacter xw_429 xw_430 rfl hC hst (fun v P2 h => by obtain ⟨h1, hR⟩ := h; cases h1; exact k P2 hR) (fun q P2 h => by cases h.1)
theorem sX11_unit_6_t {a0 : Int32} {q : Nat} {P1 : xH} (hst : (st.map fun v => v.category).sum ≤ 8) (hC : xC w d mX11_isCharacter [.int a0] P (xThr q P1)) (hq : Q (.threw q) P1) : X w mX11_unit (d + 1) Q 6 ls (.int a0 :: st) P := X_callS (M := mX11_unit) (MC := mX11_isCharacter) (As := [.int a0]) (dX11_unit_6) calX11_isCharacter xw_429 xw_430 rfl hC hst (fun v P2 h => by cases h.1) (fun q2 P2 h => by obtain ⟨h1, rfl⟩ := h; cases h1; exact Xt_out rfl hq)
theorem dX11_unit_9 : decode cX11_unit 9 = .ok (.ifCond .eq 13, 3) := by decide +kernel
theorem sX11_unit_9 {x : Int32} (kt : x = 0 → X w mX11_unit d Q 22 ls st P) (kf : ¬ x = 0 → X w mX11_unit d Q 12 ls st P) : X w mX11_unit d Q 9 ls (.int x :: st) P := X_if_eq (M := mX11_unit) (dX11_unit_9) (by decide) kt kf
theorem dX11_unit_12 : decode cX11_unit 12 = .ok (.aload_n 0, 1) := by decide +kernel
theorem sX11_unit_12 {l1 : Option Value} {x : Nat} (k : X w mX11_unit d Q 13 [some (.ref x), l1] (.ref x :: st) P) : X w mX11_unit d Q 12 [some (.ref x), l1] st P := X_aload_n (M := mX11_unit) (dX11_unit_12) rfl rfl k
theorem dX11_unit_13 : decode cX11_unit 13 = .ok (.getfield 92, 3) := by decide +kernel
theorem sX11_unit_13 {a : Nat} {fs : List Value} {v : Int32} (hP : P.1 a = some (xO 9 fs)) (hv : fs[1]? = some (.int v)) (k : X w mX11_unit d Q 16 ls (.int v :: st) P) : X w mX11_unit d Q 13 ls (.ref a :: st) P := X_get (M := mX11_unit) (j := 1) (T := TX11) (dX11_unit_13) rfl (by decide) x_in11 xw_431 hP hv k
theorem dX11_unit_16 : decode cX11_unit 16 = .ok (.sipush 1400, 3) := by decide +kernel
theorem sX11_unit_16 (k : X w mX11_unit d Q 19 ls (.int (1400 : Int32) :: st) P) : X w mX11_unit d Q 16 ls st P := X_sipush (M := mX11_unit) (dX11_unit_16) (by decide) k
theorem dX11_unit_19 : decode cX11_unit 19 = .ok (.if_icmp .ne 5, 3) := by decide +kernel
theorem sX11_unit_19 {x y : Int32} (kt : ¬ x = y → X w mX11_unit d Q 24 ls st P) (kf : x = y → X w mX11_unit d Q 22 ls st P) : X w mX11_unit d Q 19 ls (.int y :: .int x :: st) P := X_icmp_ne (M := mX11_unit) (dX11_unit_19) (by decide) kt kf
theorem dX11_unit_22 : decode cX11_unit 22 = .ok (.iconst 0, 1) := by decide +kernel
theorem sX11_unit_22 (k : X w mX11_unit d Q 23 ls (.int (0 : Int32) :: st) P) : X w mX11_unit d Q 22 ls st P := X_iconst (M := mX11_unit) (dX11_unit_22) (by decide) k
theorem dX11_unit_23 : decode cX11_unit 23 = .ok (.ireturn, 1) := by decide +kernel
theorem sX11_unit_23 {v : Int32} (hb : v = 0 ∨ v = 1) (hq : Q (.returned (some (.int v))) P) : X w mX11_unit d Q 23 ls [.int v] P := X_zret (M := mX11_unit) (ty := .boolean) (dX11_unit_23) rfl (xz_n hb) hq
theorem dX11_unit_24 : decode cX11_unit 24 = .ok (.aload_n 0, 1) := by decide +kernel
theorem sX11_unit_24 {l1 : Option Value} {x : Nat} (k : X w mX11_unit d Q 25 [some (.ref x), l1] (.ref x :: st) P) : X w mX11_unit d Q 24 [some (.ref x), l1] st P := X_aload_n (M := mX11_unit) (dX11_unit_24) rfl rfl k
theorem dX11_unit_25 : decode cX11_unit 25 = .ok (.getfield 7, 3) := by decide +kernel
theorem sX11_unit_25 {a : Nat} {fs : List Value} {v : Nat} (hP : P.1 a = some (xO 9 fs)) (hv : fs[2]? = some (.ref v)) (k : X w mX11_unit d Q 28 ls (.ref v :: st) P) : X w mX11_unit d Q 25 ls (.ref a :: st) P := X_get (M := mX11_unit) (j := 2) (T := TX11) (dX11_unit_25) rfl (by decide) x_in11 xw_404 hP hv k
theorem dX11_unit_28 : decode cX11_unit 28 = .ok (.aload_n 0, 1) := by decide +kernel
theorem sX11_unit_28 {l1 : Option Value} {x : Nat} (k : X w mX11_unit d Q 29 [some (.ref x), l1] (.ref x :: st) P) : X w mX11_unit d Q 28 [some (.ref x), l1] st P := X_aload_n (M := mX11_unit) (dX11_unit_28) rfl rfl k
theorem dX11_unit_29 : decode cX11_unit 29 = .ok (.getfield 92, 3) := by decide +kernel
theorem sX11_unit_29 {a : Nat} {fs : List Value} {v : Int32} (hP : P.1 a = some (xO 9 fs)) (hv : fs[1]? = some (.int v)) (k : X w mX11_unit d Q 32 ls (.int v :: st) P) : X w mX11_unit d Q 29 ls (.ref a :: st) P := X_get (M := mX11_unit) (j := 1) (T := TX11) (dX11_unit_29) rfl (by decide) x_in11 xw_431 hP hv k
theorem dX11_unit_32 : decode cX11_unit 32 = .ok (.iload_n 1, 1) := by decide +kernel
theorem sX11_unit_32 {l0 : Option Value} {x : Int32} (k : X w mX11_unit d Q 33 [l0, some (.int x)] (.int x :: st) P) : X w mX11_unit d Q 32 [l0, some (.int x)] st P := X_iload_n (M := mX11_unit) (dX11_unit_32) rfl rfl k
theorem dX11_unit_33 : decode cX11_unit 33 = .ok (.iastore, 1) := by decide +kernel
theorem sX11_unit_33 {a n : Nat} {f : Nat → Int32} {i x : Int32} (hP : P.1 a = some (xA 0 n f)) (hi : vp_in i n) (k : X w mX11_unit d Q 34 ls st (xs P a (xA 0 n (upd f i.toNatClampNeg x)))) : X w mX11_unit d Q 33 ls (.int x :: .int i :: .ref a :: st) P := X_iast (M := mX11_unit) (dX11_unit_33) hP hi k
theorem dX11_unit_34 : decode cX11_unit 34 = .ok (.aload_n 0, 1) := by decide +kernel
theorem sX11_unit_34 {l1 : Option Value} {x : Nat} (k : X w mX11_unit d Q 35 [some (.ref x), l1] (.ref x :: st) P) : X w mX11_unit d Q 34 [some (.ref x), l1] st P := X_aload_n (M := mX11_unit) (dX11_unit_34) rfl rfl k
theorem dX11_unit_35 : decode cX11_unit 35 = .ok (.dup, 1) := by decide +kernel
theorem sX11_unit_35 {v : Value} (hv : v.category = 1) (k : X w mX11_unit d Q 36 ls (v :: v :: st) P) : X w mX11_unit d Q 35 ls (v :: st) P := X_dup (M := mX11_unit) (dX11_unit_35) hv k
theorem dX11_unit_36 : decode cX11_unit 36 = .ok (.getfield 92, 3) := by decide +kernel
theorem sX11_unit_36 {a : Nat} {fs : List Value} {v : Int32} (hP : P.1 a = some (xO 9 fs)) (hv : fs[1]? = some (.int v)) (k : X w mX11_unit d Q 39 ls (.int v :: st) P) : X w mX11_unit d Q 36 ls (.ref a :: st) P := X_get (M := mX11_unit) (j := 1) (T := TX11) (dX11_unit_36) rfl (by decide) x_in11 xw_431 hP hv k
theorem dX11_unit_39 : decode cX11_unit 39 = .ok (.iconst 1, 1) := by decide +kernel
theorem sX11_unit_39 (k : X w mX11_unit d Q 40 ls (.int (1 : Int32) :: st) P) : X w mX11_unit d Q 39 ls st P := X_iconst (M := mX11_unit) (dX11_unit_39) (by decide) k
theorem dX11_unit_40 : decode cX11_unit 40 = .ok (.iadd, 1) := by decide +kernel
theorem sX11_unit_40 {x y : Int32} (k : X w mX11_unit d Q 41 ls (.int (x + y) :: st) P) : X w mX11_unit d Q 40 ls (.int y :: .int x :: st) P := X_iadd (M := mX11_unit) (dX11_unit_40) k
theorem dX11_unit_41 : decode cX11_unit 41 = .ok (.putfield 92, 3) := by decide +kernel
theorem sX11_unit_41 {a : Nat} {fs : List Value} {v : Int32} (hP : P.1 a = some (xO 9 fs)) (hl : 1 < fs.length) (k : X w mX11_unit d Q 44 ls st (xs P a (xO 9 (fs.set 1 (.int v))))) : X w mX11_unit d Q 41 ls (.int v :: .ref a :: st) P := X_put (M := mX11_unit) (j := 1) (T := TX11) (dX11_unit_41) rfl (by decide) x_c11 xw_431 rfl hP rfl rfl hl k
theorem dX11_unit_44 : decode cX11_unit 44 = .ok (.iconst 1, 1) := by decide +kernel
theorem sX11_unit_44 (k : X w mX11_unit d Q 45 ls (.int (1 : Int32) :: st) P) : X w mX11_unit d Q 44 ls st P := X_iconst (M := mX11_unit) (dX11_unit_44) (by decide) k
theorem dX11_unit_45 : decode cX11_unit 45 = .ok (.ireturn, 1) := by decide +kernel
theorem sX11_unit_45 {v : Int32} (hb : v = 0 ∨ v = 1) (hq : Q (.returned (some (.int v))) P) : X w mX11_unit d Q 45 ls [.int v] P := X_zret (M := mX11_unit) (ty := .boolean) (dX11_unit_45) rfl (xz_n hb) hq
theorem dX11_units_0 : decode cX11_units 0 = .ok (.aload_n 0, 1) := by decide +kernel
theorem sX11_units_0 {l1 l2 l3 l4 : Option Value} {x : Nat} (k : X w mX11_units d Q 1 [some (.ref x), l1, l2, l3, l4] (.ref x :: st) P) : X w mX11_units d Q 0 [some (.ref x), l1, l2, l3, l4] st P := X_aload_n (M := mX11_units) (dX11_units_0) rfl rfl k
theorem dX11_units_1 : decode cX11_units 1 = .ok (.iconst 0, 1) := by decide +kernel
theorem sX11_units_1 (k : X w mX11_units d Q 2 ls (.int (0 : Int32) :: st) P) : X w mX11_units d Q 1 ls st P := X_iconst (M := mX11_units) (dX11_units_1) (by decide) k
theorem dX11_units_2 : decode cX11_units 2 = .ok (.putfield 84, 3) := by decide +kernel
theorem sX11_units_2 {a : Nat} {fs : List Value} {v : Int32} (hP : P.1 a = some (xO 9 fs)) (hl : 0 < fs.length) (k : X w mX11_units d Q 5 ls st (xs P a (xO 9 (fs.set 0 (.int v))))) : X w mX11_units d Q 2 ls (.int v :: .ref a :: st) P := X_put (M := mX11_units) (j := 0) (T := TX11) (dX11_units_2) rfl (by decide) x_c11 xw_428 rfl hP rfl rfl hl k
theorem dX11_units_5 : decode cX11_units 5 = .ok (.iconst 0, 1) := by decide +kernel
theorem sX11_units_5 (k : X w mX11_units d Q 6 ls (.int (0 : Int32) :: st) P) : X w mX11_units d Q 5 ls st P := X_iconst (M := mX11_units) (dX11_units_5) (by decide) k
theorem dX11_units_6 : decode cX11_units 6 = .ok (.istore_n 2, 1) := by decide +kernel
theorem sX11_units_6 {l0 l1 l2 l3 l4 : Option Value} {x : Int32} (hn : xnl l1 = true) (k : X w mX11_units d Q 7 [l0, l1, some (.int x), l3, l4] st P) : X w mX11_units d Q 6 [l0, l1, l2, l3, l4] (.int x :: st) P := X_istore_n (M := mX11_units) (dX11_units_6) rfl (by decide) rfl (xnl_p (ls := [l0, l1, l2, l3, l4]) (j := 1) rfl hn) k
theorem dX11_units_7 : decode cX11_units 7 = .ok (.bipush 24, 2) := by decide +kernel
theorem sX11_units_7 (k : X w mX11_units d Q 9 ls (.int (24 : Int32) :: st) P) : X w mX11_units d Q 7 ls st P := X_bipush (M := mX11_units) (dX11_units_7) (by decide) k
theorem dX11_units_9 : decode cX11_units 9 = .ok (.istore_n 3, 1) := by decide +kernel
theorem sX11_units_9 {l0 l1 l2 l3 l4 : Option Value} {x : Int32} (hn : xnl l2 = true) (k : X w mX11_units d Q 10 [l0, l1, l2, some (.int x), l4] st P) : X w mX11_units d Q 9 [l0, l1, l2, l3, l4] (.int x :: st) P := X_istore_n (M := mX11_units) (dX11_units_9) rfl (by decide) rfl (xnl_p (ls := [l0, l1, l2, l3, l4]) (j := 2) rfl hn) k
theorem dX11_units_10 : decode cX11_units 10 = .ok (.iload_n 3, 1) := by decide +kernel
theorem sX11_units_10 {l0 l1 l2 l4 : Option Value} {x : Int32} (k : X w mX11_units d Q 11 [l0, l1, l2, some (.int x), l4] (.int x :: st) P) : X w mX11_units d Q 10 [l0, l1, l2, some (.int x), l4] st P := X_iload_n (M := mX11_units) (dX11_units_10) rfl rfl k
theorem dX11_units_11 : decode cX11_units 11 = .ok (.ifCond .lt 46, 3) := by decide +kernel
theorem sX11_units_11 {x : Int32} (kt : x < 0 → X w mX11_units d Q 57 ls st P) (kf : ¬ x < 0 → X w mX11_units d Q 14 ls st P) : X w mX11_units d Q 11 ls (.int x :: st) P := X_if_lt (M := mX11_units) (dX11_units_11) (by decide) kt kf
theorem dX11_units_14 : decode cX11_units 14 = .ok (.iload_n 1, 1) := by decide +kernel
theorem sX11_units_14 {l0 l2 l3 l4 : Option Value} {x : Int32} (k : X w mX11_units d Q 15 [l0, some (.int x), l2, l3, l4] (.int x :: st) P) : X w mX11_units d Q 14 [l0, some (.int x), l2, l3, l4] st P := X_iload_n (M := mX11_units) (dX11_units_14) rfl rfl k
theorem dX11_units_15 : decode cX11_units 15 = .ok (.iload_n 3, 1) := by decide +kernel
theorem sX11_units_15 {l0 l1 l2 l4 : Option Value} {x : Int32} (k : X w mX11_units d Q 16 [l0, l1, l2, some (.int x), l4] (.int x :: st) P) : X w mX11_units d Q 15 [l0, l1, l2, some (.int x), l4] st P := X_iload_n (M := mX11_units) (dX11_units_15) rfl rfl k
theorem dX11_units_16 : decode cX11_units 16 = .ok (.ishr, 1) := by decide +kernel
theorem sX11_units_16 {x y : Int32} (k : X w mX11_units d Q 17 ls (.int (x >>> (y &&& 31)) :: st) P) : X w mX11_units d Q 16 ls (.int y :: .int x :: st) P := X_ishr (M := mX11_units) (dX11_units_16) k
theorem dX11_units_17 : decode cX11_units 17 = .ok (.sipush 255, 3) := by decide +kernel
theorem sX11_units_17 (k : X w mX11_units d Q 20 ls (.int (255 : Int32) :: st) P) : X w mX11_units d Q 17 ls st P := X_sipush (M := mX11_units) (dX11_units_17) (by decide) k
theorem dX11_units_20 : decode cX11_units 20 = .ok (.iand, 1) := by decide +kernel
theorem sX11_units_20 {x y : Int32} (k : X w mX11_units d Q 21 ls (.int (x &&& y) :: st) P) : X w mX11_units d Q 20 ls (.int y :: .int x :: st) P := X_iand (M := mX11_units) (dX11_units_20) k
theorem dX11_units_21 : decode cX11_units 21 = .ok (.istore 4, 2) := by decide +kernel
theorem sX11_units_21 {l0 l1 l2 l3 l4 : Option Value} {x : Int32} (hn : xnl l3 = true) (k : X w mX11_units d Q 23 [l0, l1, l2, l3, some (.int x)] st P) : X w mX11_units d Q 21 [l0, l1, l2, l3, l4] (.int x :: st) P := X_istore (M := mX11_units) (dX11_units_21) (by decide) rfl (xnl_p (ls := [l0, l1, l2, l3, l4]) (j := 3) rfl hn) k
theorem dX11_units_23 : decode cX11_units 23 = .ok (.iload 4, 2) := by decide +kernel
theorem sX11_units_23 {l0 l1 l2 l3 : Option Value} {x : Int32} (k : X w mX11_units d Q 25 [l0, l1, l2, l3, some (.int x)] (.int x :: st) P) : X w mX11_units d Q 23 [l0, l1, l2, l3, some (.int x)] st P := X_iload (M := mX11_units) (dX11_units_23) rfl k
theorem dX11_units_25 : decode cX11_units 25 = .ok (.ifCond .eq 13, 3) := by decide +kernel
theorem sX11_units_25 {x : Int32} (kt : x = 0 → X w mX11_units d Q 38 ls st P) (kf : ¬ x = 0 → X w mX11_units d Q 28 ls st P) : X w mX11_units d Q 25 ls (.int x :: st) P := X_if_eq (M := mX11_units) (dX11_units_25) (by decide) kt kf
theorem dX11_units_28 : decode cX11_units 28 = .ok (.iload 4, 2) := by decide +kernel
theorem sX11_units_28 {l0 l1 l2 l3 : Option Value} {x : Int32} (k : X w mX11_units d Q 30 [l0, l1, l2, l3, some (.int x)] (.int x :: st) P) : X w mX11_units d Q 28 [l0, l1, l2, l3, some (.int x)] st P := X_iload (M := mX11_units) (dX11_units_28) rfl k
theorem dX11_units_30 : decode cX11_units 30 = .ok (.invokestatic 88, 3) := by decide +kernel
theorem sX11_units_30_g {a0 : Int32} {Qc : Outcome → xH → Prop} (hst : (st.map fun v => v.category).sum ≤ 8) (hC : xC w d mX11_isCharacter [.int a0] P Qc) (kr : ∀ v P1, Qc (.returned v) P1 → X w mX11_units (d + 1) Q 33 ls (v.toList ++ st) P1) (kt : ∀ q P1, Qc (.threw q) P1 → Xt w mX11_units (d + 1) Q 30 ls st P1 q) : X w mX11_units (d + 1) Q 30 ls (.int a0 :: st) P := X_callS (M := mX11_units) (MC := mX11_isCharacter) (As := [.int a0]) (dX11_units_30) calX11_isCharacter xw_429 xw_430 rfl hC hst kr kt
theorem sX11_units_30 {a0 : Int32} {r : Int32} {P1 : xH} (hst : (st.map fun v => v.category).sum ≤ 8) (hC : xC w d mX11_isCharacter [.int a0] P (xRet (some (.int r)) P1)) (k : X w mX11_units (d + 1) Q 33 ls (.int r :: st) P1) : X w mX11_units (d + 1) Q 30 ls (.int a0 :: st) P := X_callS (M := mX11_units) (MC := mX11_isCharacter) (As := [.int a0]) (dX11_units_30) calX11_isCharacter xw_429 xw_430 rfl hC hst (fun v P2 h => by obtain ⟨h1, rfl⟩ := h; cases h1; exact k) (fun q P2 h => by cases h.1)
theorem sX11_units_30_r {a0 : Int32} {r : Int32} {Rp : xH → Prop} (hst : (st.map fun v => v.category).sum ≤ 8) (hC : xC w d mX11_isCharacter [.int a0] P (xRl (some (.int r)) Rp)) (k : ∀ P1, Rp P1 → X w mX11_units (d + 1) Q 33 ls (.int r :: st) P1) : X w mX11_units (d + 1) Q 30 ls (.int a0 :: st) P := X_callS (M := mX11_units) (MC := mX11_isCharacter) (As := [.int a0]) (dX11_units_30) calX11_isCharacter xw_429 xw_430 rfl hC hst (fun v P2 h => by obtain ⟨h1, hR⟩ := h; cases h1; exact k P2 hR) (fun q P2 h => by cases h.1)
theorem sX11_units_30_t {a0 : Int32} {q : Nat} {P1 : xH} (hst : (st.map fun v => v.category).sum ≤ 8) (hC : xC w d mX11_isCharacter [.int a0] P (xThr q P1)) (hq : Q (.threw q) P1) : X w mX11_units (d + 1) Q 30 ls (.int a0 :: st) P := X_callS (M := mX11_units) (MC := mX11_isCharacter) (As := [.int a0]) (dX11_units_30) calX11_isCharacter xw_429 xw_430 rfl hC hst (fun v P2 h => by cases h.1) (fun q2 P2 h => by obtain ⟨h1, rfl⟩ := h; cases h1; exact Xt_out rfl hq)
theorem dX11_units_33 : decode cX11_units 33 = .ok (.ifCond .ne 5, 3) := by decide +kernel
theorem sX11_units_33 {x : Int32} (kt : ¬ x = 0 → X w mX11_units d Q 38 ls st P) (kf : x = 0 → X w mX11_units d Q 36 ls st P) : X w mX11_units d Q 33 ls (.int x :: st) P := X_if_ne (M := mX11_units) (dX11_units_33) (by decide) kt kf
theorem dX11_units_36 : decode cX11_units 36 = .ok (.iconst 0, 1) := by decide +kernel
theorem sX11_units_36 (k : X w mX11_units d Q 37 ls (.int (0 : Int32) :: st) P) : X w mX11_units d Q 36 ls st P := X_iconst (M := mX11_units) (dX11_units_36) (by decide) k
theorem dX11_units_37 : decode cX11_units 37 = .ok (.ireturn, 1) := by decide +kernel
theorem sX11_units_37 {v : Int32} (hb : v = 0 ∨ v = 1) (hq : Q (.returned (some (.int v))) P) : X w mX11_units d Q 37 ls [.int v] P := X_zret (M := mX11_units) (ty := .boolean) (dX11_units_37) rfl (xz_n hb) hq
theorem dX11_units_38 : decode cX11_units 38 = .ok (.iload_n 2, 1) := by decide +kernel
theorem sX11_units_38 {l0 l1 l3 l4 : Option Value} {x : Int32} (k : X w mX11_units d Q 39 [l0, l1, some (.int x), l3, l4] (.int x :: st) P) : X w mX11_units d Q 38 [l0, l1, some (.int x), l3, l4] st P := X_iload_n (M := mX11_units) (dX11_units_38) rfl rfl k
theorem dX11_units_39 : decode cX11_units 39 = .ok (.iload 4, 2) := by decide +kernel
theorem sX11_units_39 {l0 l1 l2 l3 : Option Value} {x : Int32} (k : X w mX11_units d Q 41 [l0, l1, l2, l3, some (.int x)] (.int x :: st) P) : X w mX11_units d Q 39 [l0, l1, l2, l3, some (.int x)] st P := X_iload (M := mX11_units) (dX11_units_39) rfl k
theorem dX11_units_41 : decode cX11_units 41 = .ok (.ifCond .eq 7, 3) := by decide +kernel
theorem sX11_units_41 {x : Int32} (kt : x = 0 → X w mX11_units d Q 48 ls st P) (kf : ¬ x = 0 → X w mX11_units d Q 44 ls st P) : X w mX11_units d Q 41 ls (.int x :: st) P := X_if_eq (M := mX11_units) (dX11_units_41) (by decide) kt kf
theorem dX11_units_44 : decode cX11_units 44 = .ok (.iconst 1, 1) := by decide +kernel
theorem sX11_units_44 (k : X w mX11_units d Q 45 ls (.int (1 : Int32) :: st) P) : X w mX11_units d Q 44 ls st P := X_iconst (M := mX11_units) (dX11_units_44) (by decide) k
theorem dX11_units_45 : decode cX11_units 45 = .ok (.goto 4, 3) := by decide +kernel
theorem sX11_units_45 (k : X w mX11_units d Q 49 ls st P) : X w mX11_units d Q 45 ls st P := X_goto (M := mX11_units) (dX11_units_45) (by decide) k
theorem dX11_units_48 : decode cX11_units 48 = .ok (.iconst 0, 1) := by decide +kernel
theorem sX11_units_48 (k : X w mX11_units d Q 49 ls (.int (0 : Int32) :: st) P) : X w mX11_units d Q 48 ls st P := X_iconst (M := mX11_units) (dX11_units_48) (by decide) k
theorem dX11_units_49 : decode cX11_units 49 = .ok (.iadd, 1) := by decide +kernel
theorem sX11_units_49 {x y : Int32} (k : X w mX11_units d Q 50 ls (.int (x + y) :: st) P) : X w mX11_units d Q 49 ls (.int y :: .int x :: st) P := X_iadd (M := mX11_units) (dX11_units_49) k
theorem dX11_units_50 : decode cX11_units 50 = .ok (.istore_n 2, 1) := by decide +kernel
theorem sX11_units_50 {l0 l1 l2 l3 l4 : Option Value} {x : Int32} (hn : xnl l1 = true) (k : X w mX11_units d Q 51 [l0, l1, some (.int x), l3, l4] st P) : X w mX11_units d Q 50 [l0, l1, l2, l3, l4] (.int x :: st) P := X_istore_n (M := mX11_units) (dX11_units_50) rfl (by decide) rfl (xnl_p (ls := [l0, l1, l2, l3, l4]) (j := 1) rfl hn) k
theorem dX11_units_51 : decode cX11_units 51 = .ok (.iinc 3 (-8), 3) := by decide +kernel
theorem sX11_units_51 {l0 l1 l2 l4 : Option Value} {x : Int32} (hn : xnl l2 = true) (k : X w mX11_units d Q 54 [l0, l1, l2, some (.int (x + (-8 : Int32))), l4] st P) : X w mX11_units d Q 51 [l0, l1, l2, some (.int x), l4] st P := X_iinc (M := mX11_units) (dX11_units_51) rfl (by rfl) (by decide) rfl (xnl_p (ls := [l0, l1, l2, some (.int x), l4]) (j := 2) rfl hn) k
theorem dX11_units_54 : decode cX11_units 54 = .ok (.goto (-44), 3) := by decide +kernel
theorem sX11_units_54 (k : X w mX11_units d Q 10 ls st P) : X w mX11_units d Q 54 ls st P := X_goto (M := mX11_units) (dX11_units_54) (by decide) k
theorem dX11_units_57 : decode cX11_units 57 = .ok (.aload_n 0, 1) := by decide +kernel
theorem sX11_units_57 {l1 l2 l3 l4 : Option Value} {x : Nat} (k : X w mX11_units d Q 58 [some (.ref x), l1, l2, l3, l4] (.ref x :: st) P) : X w mX11_units d Q 57 [some (.ref x), l1, l2, l3, l4] st P := X_aload_n (M := mX11_units) (dX11_units_57) rfl rfl k
theorem dX11_units_58 : decode cX11_units 58 = .ok (.getfield 92, 3) := by decide +kernel
theorem sX11_units_58 {a : Nat} {fs : List Value} {v : Int32} (hP : P.1 a = some (xO 9 fs)) (hv : fs[1]? = some (.int v)) (k : X w mX11_units d Q 61 ls (.int v :: st) P) : X w mX11_units d Q 58 ls (.ref a :: st) P := X_get (M := mX11_units) (j := 1) (T := TX11) (dX11_units_58) rfl (by decide) x_in11 xw_431 hP hv k
theorem dX11_units_61 : decode cX11_units 61 = .ok (.iload_n 2, 1) := by decide +kernel
theorem sX11_units_61 {l0 l1 l3 l4 : Option Value} {x : Int32} (k : X w mX11_units d Q 62 [l0, l1, some (.int x), l3, l4] (.int x :: st) P) : X w mX11_units d Q 61 [l0, l1, some (.int x), l3, l4] st P := X_iload_n (M := mX11_units) (dX11_units_61) rfl rfl k
theorem dX11_units_62 : decode cX11_units 62 = .ok (.iadd, 1) := by decide +kernel
theorem sX11_units_62 {x y : Int32} (k : X w mX11_units d Q 63 ls (.int (x + y) :: st) P) : X w mX11_units d Q 62 ls (.int y :: .int x :: st) P := X_iadd (M := mX11_units) (dX11_units_62) k
theorem dX11_units_63 : decode cX11_units 63 = .ok (.sipush 1400, 3) := by decide +kernel
theorem sX11_units_63 (k : X w mX11_units d Q 66 ls (.int (1400 : Int32) :: st) P) : X w mX11_units d Q 63 ls st P := X_sipush (M := mX11_units) (dX11_units_63) (by decide) k
theorem dX11_units_66 : decode cX11_units 66 = .ok (.if_icmp .le 5, 3) := by decide +kernel
theorem sX11_units_66 {x y : Int32} (kt : x ≤ y → X w mX11_units d Q 71 ls st P) (kf : ¬ x ≤ y → X w mX11_units d Q 69 ls st P) : X w mX11_units d Q 66 ls (.int y :: .int x :: st) P := X_icmp_le (M := mX11_units) (dX11_units_66) (by decide) kt kf
theorem dX11_units_69 : decode cX11_units 69 = .ok (.iconst 0, 1) := by decide +kernel
theorem sX11_units_69 (k : X w mX11_units d Q 70 ls (.int (0 : Int32) :: st) P) : X w mX11_units d Q 69 ls st P := X_iconst (M := mX11_units) (dX11_units_69) (by decide) k
theorem dX11_units_70 : decode cX11_units 70 = .ok (.ireturn, 1) := by decide +kernel
theorem sX11_units_70 {v : Int32} (hb : v = 0 ∨ v = 1) (hq : Q (.returned (some (.int v))) P) : X w mX11_units d Q 70 ls [.int v] P := X_zret (M := mX11_units) (ty := .boolean) (dX11_units_70) rfl (xz_n hb) hq
theorem dX11_units_71 : decode cX11_units 71 = .ok (.bipush 24, 2) := by decide +kernel
theorem sX11_units_71 (k : X w mX11_units d Q 73 ls (.int (24 : Int32) :: st) P) : X w mX11_units d Q 71 ls st P := X_bipush (M := mX11_units) (dX11_units_71) (by decide) k
theorem dX11_units_73 : decode cX11_units 73 = .ok (.istore_n 3, 1) := by decide +kernel
theorem sX11_units_73 {l0 l1 l2 l3 l4 : Option Value} {x : Int32} (hn : xnl l2 = true) (k : X w mX11_units d Q 74 [l0, l1, l2, some (.int x), l4] st P) : X w mX11_units d Q 73 [l0, l1, l2, l3, l4] (.int x :: st) P := X_istore_n (M := mX11_units) (dX11_units_73) rfl (by decide) rfl (xnl_p (ls := [l0, l1, l2, l3, l4]) (j := 2) rfl hn) k
theorem dX11_units_74 : decode cX11_units 74 = .ok (.iload_n 3, 1) := by decide +kernel
theorem sX11_units_74 {l0 l1 l2 l4 : Option Value} {x : Int32} (k : X w mX11_units d Q 75 [l0, l1, l2, some (.int x), l4] (.int x :: st) P) : X w mX11_units d Q 74 [l0, l1, l2, some (.int x), l4] st P := X_iload_n (M := mX11_units) (dX11_units_74) rfl rfl k
theorem dX11_units_75 : decode cX11_units 75 = .ok (.ifCond .lt 44, 3) := by decide +kernel
theorem sX11_units_75 {x : Int32} (kt : x < 0 → X w mX11_units d Q 119 ls st P) (kf : ¬ x < 0 → X w mX11_units d Q 78 ls st P) : X w mX11_units d Q 75 ls (.int x :: st) P := X_if_lt (M := mX11_units) (dX11_units_75) (by decide) kt kf
theorem dX11_units_78 : decode cX11_units 78 = .ok (.iload_n 1, 1) := by decide +kernel
theorem sX11_units_78 {l0 l2 l3 l4 : Option Value} {x : Int32} (k : X w mX11_units d Q 79 [l0, some (.int x), l2, l3, l4] (.int x :: st) P) : X w mX11_units d Q 78 [l0, some (.int x), l2, l3, l4] st P := X_iload_n (M := mX11_units) (dX11_units_78) rfl rfl k
theorem dX11_units_79 : decode cX11_units 79 = .ok (.iload_n 3, 1) := by decide +kernel
theorem sX11_units_79 {l0 l1 l2 l4 : Option Value} {x : Int32} (k : X w mX11_units d Q 80 [l0, l1, l2, some (.int x), l4] (.int x :: st) P) : X w mX11_units d Q 79 [l0, l1, l2, some (.int x), l4] st P := X_iload_n (M := mX11_units) (dX11_units_79) rfl rfl k
theorem dX11_units_80 : decode cX11_units 80 = .ok (.ishr, 1) := by decide +kernel
theorem sX11_units_80 {x y : Int32} (k : X w mX11_units d Q 81 ls (.int (x >>> (y &&& 31)) :: st) P) : X w mX11_units d Q 80 ls (.int y :: .int x :: st) P := X_ishr (M := mX11_units) (dX11_units_80) k
theorem dX11_units_81 : decode cX11_units 81 = .ok (.sipush 255, 3) := by decide +kernel
theorem sX11_units_81 (k : X w mX11_units d Q 84 ls (.int (255 : Int32) :: st) P) : X w mX11_units d Q 81 ls st P := X_sipush (M := mX11_units) (dX11_units_81) (by decide) k
theorem dX11_units_84 : decode cX11_units 84 = .ok (.iand, 1) := by decide +kernel
theorem sX11_units_84 {x y : Int32} (k : X w mX11_units d Q 85 ls (.int (x &&& y) :: st) P) : X w mX11_units d Q 84 ls (.int y :: .int x :: st) P := X_iand (M := mX11_units) (dX11_units_84) k
theorem dX11_units_85 : decode cX11_units 85 = .ok (.istore 4, 2) := by decide +kernel
theorem sX11_units_85 {l0 l1 l2 l3 l4 : Option Value} {x : Int32} (hn : xnl l3 = true) (k : X w mX11_units d Q 87 [l0, l1, l2, l3, some (.int x)] st P) : X w mX11_units d Q 85 [l0, l1, l2, l3, l4] (.int x :: st) P := X_istore (M := mX11_units) (dX11_units_85) (by decide) rfl (xnl_p (ls := [l0, l1, l2, l3, l4]) (j := 3) rfl hn) k
theorem dX11_units_87 : decode cX11_units 87 = .ok (.iload 4, 2) := by decide +kernel
theorem sX11_units_87 {l0 l1 l2 l3 : Option Value} {x : Int32} (k : X w mX11_units d Q 89 [l0, l1, l2, l3, some (.int x)] (.int x :: st) P) : X w mX11_units d Q 87 [l0, l1, l2, l3, some (.int x)] st P := X_iload (M := mX11_units) (dX11_units_87) rfl k
theorem dX11_units_89 : decode cX11_units 89 = .ok (.ifCond .eq 24, 3) := by decide +kernel
theorem sX11_units_89 {x : Int32} (kt : x = 0 → X w mX11_units d Q 113 ls st P) (kf : ¬ x = 0 → X w mX11_units d Q 92 ls st P) : X w mX11_units d Q 89 ls (.int x :: st) P := X_if_eq (M := mX11_units) (dX11_units_89) (by decide) kt kf
theorem dX11_units_92 : decode cX11_units 92 = .ok (.aload_n 0, 1) := by decide +kernel
theorem sX11_units_92 {l1 l2 l3 l4 : Option Value} {x : Nat} (k : X w mX11_units d Q 93 [some (.ref x), l1, l2, l3, l4] (.ref x :: st) P) : X w mX11_units d Q 92 [some (.ref x), l1, l2, l3, l4] st P := X_aload_n (M := mX11_units) (dX11_units_92) rfl rfl k
theorem dX11_units_93 : decode cX11_units 93 = .ok (.getfield 7, 3) := by decide +kernel
theorem sX11_units_93 {a : Nat} {fs : List Value} {v : Nat} (hP : P.1 a = some (xO 9 fs)) (hv : fs[2]? = some (.ref v)) (k : X w mX11_units d Q 96 ls (.ref v :: st) P) : X w mX11_units d Q 93 ls (.ref a :: st) P := X_get (M := mX11_units) (j := 2) (T := TX11) (dX11_units_93) rfl (by decide) x_in11 xw_404 hP hv k
theorem dX11_units_96 : decode cX11_units 96 = .ok (.aload_n 0, 1) := by decide +kernel
theorem sX11_units_96 {l1 l2 l3 l4 : Option Value} {x : Nat} (k : X w mX11_units d Q 97 [some (.ref x), l1, l2, l3, l4] (.ref x :: st) P) : X w mX11_units d Q 96 [some (.ref x), l1, l2, l3, l4] st P := X_aload_n (M := mX11_units) (dX11_units_96) rfl rfl k
theorem dX11_units_97 : decode cX11_units 97 = .ok (.getfield 92, 3) := by decide +kernel
theorem sX11_units_97 {a : Nat} {fs : List Value} {v : Int32} (hP : P.1 a = some (xO 9 fs)) (hv : fs[1]? = some (.int v)) (k : X w mX11_units d Q 100 ls (.int v :: st) P) : X w mX11_units d Q 97 ls (.ref a :: st) P := X_get (M := mX11_units) (j := 1) (T := TX11) (dX11_units_97) rfl (by decide) x_in11 xw_431 hP hv k
theorem dX11_units_100 : decode cX11_units 100 = .ok (.iload 4, 2) := by decide +kernel
theorem sX11_units_100 {l0 l1 l2 l3 : Option Value} {x : Int32} (k : X w mX11_units d Q 102 [l0, l1, l2, l3, some (.int x)] (.int x :: st) P) : X w mX11_units d Q 100 [l0, l1, l2, l3, some (.int x)] st P := X_iload (M := mX11_units) (dX11_units_100) rfl k
theorem dX11_units_102 : decode cX11_units 102 = .ok (.iastore, 1) := by decide +kernel
theorem sX11_units_102 {a n : Nat} {f : Nat → Int32} {i x : Int32} (hP : P.1 a = some (xA 0 n f)) (hi : vp_in i n) (k : X w mX11_units d Q 103 ls st (xs P a (xA 0 n (upd f i.toNatClampNeg x)))) : X w mX11_units d Q 102 ls (.int x :: .int i :: .ref a :: st) P := X_iast (M := mX11_units) (dX11_units_102) hP hi k
theorem dX11_units_103 : decode cX11_units 103 = .ok (.aload_n 0, 1) := by decide +kernel
theorem sX11_units_103 {l1 l2 l3 l4 : Option Value} {x : Nat} (k : X w mX11_units d Q 104 [some (.ref x), l1, l2, l3, l4] (.ref x :: st) P) : X w mX11_units d Q 103 [some (.ref x), l1, l2, l3, l4] st P := X_aload_n (M := mX11_units) (dX11_units_103) rfl rfl k
theorem dX11_units_104 : decode cX11_units 104 = .ok (.dup, 1) := by decide +kernel
theorem sX11_units_104 {v : Value} (hv : v.category = 1) (k : X w mX11_units d Q 105 ls (v :: v :: st) P) : X w mX11_units d Q 104 ls (v :: st) P := X_dup (M := mX11_units) (dX11_units_104) hv k
theorem dX11_units_105 : decode cX11_units 105 = .ok (.getfield 92, 3) := by decide +kernel
theorem sX11_units_105 {a : Nat} {fs : List Value} {v : Int32} (hP : P.1 a = some (xO 9 fs)) (hv : fs[1]? = some (.int v)) (k : X w mX11_units d Q 108 ls (.int v :: st) P) : X w mX11_units d Q 105 ls (.ref a :: st) P := X_get (M := mX11_units) (j := 1) (T := TX11) (dX11_units_105) rfl (by decide) x_in11 xw_431 hP hv k
theorem dX11_units_108 : decode cX11_units 108 = .ok (.iconst 1, 1) := by decide +kernel
theorem sX11_units_108 (k : X w mX11_units d Q 109 ls (.int (1 : Int32) :: st) P) : X w mX11_units d Q 108 ls st P := X_iconst (M := mX11_units) (dX11_units_108) (by decide) k
theorem dX11_units_109 : decode cX11_units 109 = .ok (.iadd, 1) := by decide +kernel
theorem sX11_units_109 {x y : Int32} (k : X w mX11_units d Q 110 ls (.int (x + y) :: st) P) : X w mX11_units d Q 109 ls (.int y :: .int x :: st) P := X_iadd (M := mX11_units) (dX11_units_109) k
theorem dX11_units_110 : decode cX11_units 110 = .ok (.putfield 92, 3) := by decide +kernel
theorem sX11_units_110 {a : Nat} {fs : List Value} {v : Int32} (hP : P.1 a = some (xO 9 fs)) (hl : 1 < fs.length) (k : X w mX11_units d Q 113 ls st (xs P a (xO 9 (fs.set 1 (.int v))))) : X w mX11_units d Q 110 ls (.int v :: .ref a :: st) P := X_put (M := mX11_units) (j := 1) (T := TX11) (dX11_units_110) rfl (by decide) x_c11 xw_431 rfl hP rfl rfl hl k
theorem dX11_units_113 : decode cX11_units 113 = .ok (.iinc 3 (-8), 3) := by decide +kernel
theorem sX11_units_113 {l0 l1 l2 l4 : Option Value} {x : Int32} (hn : xnl l2 = true) (k : X w mX11_units d Q 116 [l0, l1, l2, some (.int (x + (-8 : Int32))), l4] st P) : X w mX11_units d Q 113 [l0, l1, l2, some (.int x), l4] st P := X_iinc (M := mX11_units) (dX11_units_113) rfl (by rfl) (by decide) rfl (xnl_p (ls := [l0, l1, l2, some (.int x), l4]) (j := 2) rfl hn) k
theorem dX11_units_116 : decode cX11_units 116 = .ok (.goto (-42), 3) := by decide +kernel
theorem sX11_units_116 (k : X w mX11_units d Q 74 ls st P) : X w mX11_units d Q 116 ls st P := X_goto (M := mX11_units) (dX11_units_116) (by decide) k
theorem dX11_units_119 : decode cX11_units 119 = .ok (.iconst 1, 1) := by decide +kernel
theorem sX11_units_119 (k : X w mX11_units d Q 120 ls (.int (1 : Int32) :: st) P) : X w mX11_units d Q 119 ls st P := X_iconst (M := mX11_units) (dX11_units_119) (by decide) k
theorem dX11_units_120 : decode cX11_units 120 = .ok (.ireturn, 1) := by decide +kernel
theorem sX11_units_120 {v : Int32} (hb : v = 0 ∨ v = 1) (hq : Q (.returned (some (.int v))) P) : X w mX11_units d Q 120 ls [.int v] P := X_zret (M := mX11_units) (ty := .boolean) (dX11_units_120) rfl (xz_n hb) hq
theorem dX11_isLetter_0 : decode cX11_isLetter 0 = .ok (.iload_n 0, 1) := by decide +kernel
theorem sX11_isLetter_0 {x : Int32} (k : X w mX11_isLetter d Q 1 [some (.int x)] (.int x :: st) P) : X w mX11_isLetter d Q 0 [some (.int x)] st P := X_iload_n (M := mX11_isLetter) (dX11_isLetter_0) rfl rfl k
theorem dX11_isLetter_1 : decode cX11_isLetter 1 = .ok (.bipush 97, 2) := by decide +kernel
theorem sX11_isLetter_1 (k : X w mX11_isLetter d Q 3 ls (.int (97 : Int32) :: st) P) : X w mX11_isLetter d Q 1 ls st P := X_bipush (M := mX11_isLetter) (dX11_isLetter_1) (by decide) k
theorem dX11_isLetter_3 : decode cX11_isLetter 3 = .ok (.if_icmp .lt 9, 3) := by decide +kernel
theorem sX11_isLetter_3 {x y : Int32} (kt : x < y → X w mX11_isLetter d Q 12 ls st P) (kf : ¬ x < y → X w mX11_isLetter d Q 6 ls st P) : X w mX11_isLetter d Q 3 ls (.int y :: .int x :: st) P := X_icmp_lt (M := mX11_isLetter) (dX11_isLetter_3) (by decide) kt kf
theorem dX11_isLetter_6 : decode cX11_isLetter 6 = .ok (.iload_n 0, 1) := by decide +kernel
theorem sX11_isLetter_6 {x : Int32} (k : X w mX11_isLetter d Q 7 [some (.int x)] (.int x :: st) P) : X w mX11_isLetter d Q 6 [some (.int x)] st P := X_iload_n (M := mX11_isLetter) (dX11_isLetter_6) rfl rfl k
theorem dX11_isLetter_7 : decode cX11_isLetter 7 = .ok (.bipush 122, 2) := by decide +kernel
theorem sX11_isLetter_7 (k : X w mX11_isLetter d Q 9 ls (.int (122 : Int32) :: st) P) : X w mX11_isLetter d Q 7 ls st P := X_bipush (M := mX11_isLetter) (dX11_isLetter_7) (by decide) k
theorem dX11_isLetter_9 : decode cX11_isLetter 9 = .ok (.if_icmp .le 21, 3) := by decide +kernel
theorem sX11_isLetter_9 {x y : Int32} (kt : x ≤ y → X w mX11_isLetter d Q 30 ls st P) (kf : ¬ x ≤ y → X w mX11_isLetter d Q 12 ls st P) : X w mX11_isLetter d Q 9 ls (.int y :: .int x :: st) P := X_icmp_le (M := mX11_isLetter) (dX11_isLetter_9) (by decide) kt kf
theorem dX11_isLetter_12 : decode cX11_isLetter 12 = .ok (.iload_n 0, 1) := by decide +kernel
theorem sX11_isLetter_12 {x : Int32} (k : X w mX11_isLetter d Q 13 [some (.int x)] (.int x :: st) P) : X w mX11_isLetter d Q 12 [some (.int x)] st P := X_iload_n (M := mX11_isLetter) (dX11_isLetter_12) rfl rfl k
theorem dX11_isLetter_13 : decode cX11_isLetter 13 = .ok (.bipush 65, 2) := by decide +kernel
theorem sX11_isLetter_13 (k : X w mX11_isLetter d Q 15 ls (.int (65 : Int32) :: st) P) : X w mX11_isLetter d Q 13 ls st P := X_bipush (M := mX11_isLetter) (dX11_isLetter_13) (by decide) k
theorem dX11_isLetter_15 : decode cX11_isLetter 15 = .ok (.if_icmp .lt 9, 3) := by decide +kernel
theorem sX11_isLetter_15 {x y : Int32} (kt : x < y → X w mX11_isLetter d Q 24 ls st P) (kf : ¬ x < y → X w mX11_isLetter d Q 18 ls st P) : X w mX11_isLetter d Q 15 ls (.int y :: .int x :: st) P := X_icmp_lt (M := mX11_isLetter) (dX11_isLetter_15) (by decide) kt kf
theorem dX11_isLetter_18 : decode cX11_isLetter 18 = .ok (.iload_n 0, 1) := by decide +kernel
theorem sX11_isLetter_18 {x : Int32} (k : X w mX11_isLetter d Q 19 [some (.int x)] (.int x :: st) P) : X w mX11_isLetter d Q 18 [some (.int x)] st P := X_iload_n (M := mX11_isLetter) (dX11_isLetter_18) rfl rfl k
theorem dX11_isLetter_19 : decode cX11_isLetter 19 = .ok (.bipush 90, 2) := by decide +kernel
theorem sX11_isLetter_19 (k : X w mX11_isLetter d Q 21 ls (.int (90 : Int32) :: st) P) : X w mX11_isLetter d Q 19 ls st P := X_bipush (M := mX11_isLetter) (dX11_isLetter_19) (by decide) k
theorem dX11_isLetter_21 : decode cX11_isLetter 21 = .ok (.if_icmp .le 9, 3) := by decide +kernel
theorem sX11_isLetter_21 {x y : Int32} (kt : x ≤ y → X w mX11_isLetter d Q 30 ls st P) (kf : ¬ x ≤ y → X w mX11_isLetter d Q 24 ls st P) : X w mX11_isLetter d Q 21 ls (.int y :: .int x :: st) P := X_icmp_le (M := mX11_isLetter) (dX11_isLetter_21) (by decide) kt kf
theorem dX11_isLetter_24 : decode cX11_isLetter 24 = .ok (.iload_n 0, 1) := by decide +kernel
theorem sX11_isLetter_24 {x : Int32} (k : X w mX11_isLetter d Q 25 [some (.int x)] (.int x :: st) P) : X w mX11_isLetter d Q 24 [some (.int x)] st P := X_iload_n (M := mX11_isLetter) (dX11_isLetter_24) rfl rfl k
theorem dX11_isLetter_25 : decode cX11_isLetter 25 = .ok (.bipush 95, 2) := by decide +kernel
theorem sX11_isLetter_25 (k : X w mX11_isLetter d Q 27 ls (.int (95 : Int32) :: st) P) : X w mX11_isLetter d Q 25 ls st P := X_bipush (M := mX11_isLetter) (dX11_isLetter_25) (by decide) k
theorem dX11_isLetter_27 : decode cX11_isLetter 27 = .ok (.if_icmp .ne 7, 3) := by decide +kernel
theorem sX11_isLetter_27 {x y : Int32} (kt : ¬ x = y → X w mX11_isLetter d Q 34 ls st P) (kf : x = y → X w mX11_isLetter d Q 30 ls st P) : X w mX11_isLetter d Q 27 ls (.int y :: .int x :: st) P := X_icmp_ne (M := mX11_isLetter) (dX11_isLetter_27) (by decide) kt kf
theorem dX11_isLetter_30 : decode cX11_isLetter 30 = .ok (.iconst 1, 1) := by decide +kernel
theorem sX11_isLetter_30 (k : X w mX11_isLetter d Q 31 ls (.int (1 : Int32) :: st) P) : X w mX11_isLetter d Q 30 ls st P := X_iconst (M := mX11_isLetter) (dX11_isLetter_30) (by decide) k
theorem dX11_isLetter_31 : decode cX11_isLetter 31 = .ok (.goto 4, 3) := by decide +kernel
theorem sX11_isLetter_31 (k : X w mX11_isLetter d Q 35 ls st P) : X w mX11_isLetter d Q 31 ls st P := X_goto (M := mX11_isLetter) (dX11_isLetter_31) (by decide) k
theorem dX11_isLetter_34 : decode cX11_isLetter 34 = .ok (.iconst 0, 1) := by decide +kernel
theorem sX11_isLetter_34 (k : X w mX11_isLetter d Q 35 ls (.int (0 : Int32) :: st) P) : X w mX11_isLetter d Q 34 ls st P := X_iconst (M := mX11_isLetter) (dX11_isLetter_34) (by decide) k
theorem dX11_isLetter_35 : decode cX11_isLetter 35 = .ok (.ireturn, 1) := by decide +kernel
theorem sX11_isLetter_35 {v : Int32} (hb : v = 0 ∨ v = 1) (hq : Q (.returned (some (.int v))) P) : X w mX11_isLetter d Q 35 ls [.int v] P := X_zret (M := mX11_isLetter) (ty := .boolean) (dX11_isLetter_35) rfl (xz_n hb) hq
theorem dX11_isDigit_0 : decode cX11_isDigit 0 = .ok (.iload_n 0, 1) := by decide +kernel
theorem sX11_isDigit_0 {x : Int32} (k : X w mX11_isDigit d Q 1 [some (.int x)] (.int x :: st) P) : X w mX11_isDigit d Q 0 [some (.int x)] st P := X_iload_n (M := mX11_isDigit) (dX11_isDigit_0) rfl rfl k
theorem dX11_isDigit_1 : decode cX11_isDigit 1 = .ok (.bipush 48, 2) := by decide +kernel
theorem sX11_isDigit_1 (k : X w mX11_isDigit d Q 3 ls (.int (48 : Int32) :: st) P) : X w mX11_isDigit d Q 1 ls st P := X_bipush (M := mX11_isDigit) (dX11_isDigit_1) (by decide) k
theorem dX11_isDigit_3 : decode cX11_isDigit 3 = .ok (.if_icmp .lt 13, 3) := by decide +kernel
theorem sX11_isDigit_3 {x y : Int32} (kt : x < y → X w mX11_isDigit d Q 16 ls st P) (kf : ¬ x < y → X w mX11_isDigit d Q 6 ls st P) : X w mX11_isDigit d Q 3 ls (.int y :: .int x :: st) P := X_icmp_lt (M := mX11_isDigit) (dX11_isDigit_3) (by decide) kt kf
theorem dX11_isDigit_6 : decode cX11_isDigit 6 = .ok (.iload_n 0, 1) := by decide +kernel
theorem sX11_isDigit_6 {x : Int32} (k : X w mX11_isDigit d Q 7 [some (.int x)] (.int x :: st) P) : X w mX11_isDigit d Q 6 [some (.int x)] st P := X_iload_n (M := mX11_isDigit) (dX11_isDigit_6) rfl rfl k
theorem dX11_isDigit_7 : decode cX11_isDigit 7 = .ok (.bipush 57, 2) := by decide +kernel
theorem sX11_isDigit_7 (k : X w mX11_isDigit d Q 9 ls (.int (57 : Int32) :: st) P) : X w mX11_isDigit d Q 7 ls st P := X_bipush (M := mX11_isDigit) (dX11_isDigit_7) (by decide) k
theorem dX11_isDigit_9 : decode cX11_isDigit 9 = .ok (.if_icmp .gt 7, 3) := by decide +kernel
theorem sX11_isDigit_9 {x y : Int32} (kt : y < x → X w mX11_isDigit d Q 16 ls st P) (kf : ¬ y < x → X w mX11_isDigit d Q 12 ls st P) : X w mX11_isDigit d Q 9 ls (.int y :: .int x :: st) P := X_icmp_gt (M := mX11_isDigit) (dX11_isDigit_9) (by decide) kt kf
theorem dX11_isDigit_12 : decode cX11_isDigit 12 = .ok (.iconst 1, 1) := by decide +kernel
theorem sX11_isDigit_12 (k : X w mX11_isDigit d Q 13 ls (.int (1 : Int32) :: st) P) : X w mX11_isDigit d Q 12 ls st P := X_iconst (M := mX11_isDigit) (dX11_isDigit_12) (by decide) k
theorem dX11_isDigit_13 : decode cX11_isDigit 13 = .ok (.goto 4, 3) := by decide +kernel
theorem sX11_isDigit_13 (k : X w mX11_isDigit d Q 17 ls st P) : X w mX11_isDigit d Q 13 ls st P := X_goto (M := mX11_isDigit) (dX11_isDigit_13) (by decide) k
theorem dX11_isDigit_16 : decode cX11_isDigit 16 = .ok (.iconst 0, 1) := by decide +kernel
theorem sX11_isDigit_16 (k : X w mX11_isDigit d Q 17 ls (.int (0 : Int32) :: st) P) : X w mX11_isDigit d Q 16 ls st P := X_iconst (M := mX11_isDigit) (dX11_isDigit_16) (by decide) k
theorem dX11_isDigit_17 : decode cX11_isDigit 17 = .ok (.ireturn, 1) := by decide +kernel
theorem sX11_isDigit_17 {v : Int32} (hb : v = 0 ∨ v = 1) (hq : Q (.returned (some (.int v))) P) : X w mX11_isDigit d Q 17 ls [.int v] P := X_zret (M := mX11_isDigit) (ty := .boolean) (dX11_isDigit_17) rfl (xz_n hb) hq
theorem dX11_look_0 : decode cX11_look 0 = .ok (.aload_n 0, 1) := by decide +kernel
theorem sX11_look_0 {x : Nat} (k : X w mX11_look d Q 1 [some (.ref x)] (.ref x :: st) P) : X w mX11_look d Q 0 [some (.ref x)] st P := X_aload_n (M := mX11_look) (dX11_look_0) rfl rfl k
theorem dX11_look_1 : decode cX11_look 1 = .ok (.getfield 95, 3) := by decide +kernel
theorem sX11_look_1 {a : Nat} {fs : List Value} {v : Int32} (hP : P.1 a = some (xO 9 fs)) (hv : fs[23]? = some (.int v)) (k : X w mX11_look d Q 4 ls (.int v :: st) P) : X w mX11_look d Q 1 ls (.ref a :: st) P := X_get (M := mX11_look) (j := 23) (T := TX11) (dX11_look_1) rfl (by decide) x_in11 xw_432 hP hv k
theorem dX11_look_4 : decode cX11_look 4 = .ok (.aload_n 0, 1) := by decide +kernel
theorem sX11_look_4 {x : Nat} (k : X w mX11_look d Q 5 [some (.ref x)] (.ref x :: st) P) : X w mX11_look d Q 4 [some (.ref x)] st P := X_aload_n (M := mX11_look) (dX11_look_4) rfl rfl k
theorem dX11_look_5 : decode cX11_look 5 = .ok (.getfield 92, 3) := by decide +kernel
theorem sX11_look_5 {a : Nat} {fs : List Value} {v : Int32} (hP : P.1 a = some (xO 9 fs)) (hv : fs[1]? = some (.int v)) (k : X w mX11_look d Q 8 ls (.int v :: st) P) : X w mX11_look d Q 5 ls (.ref a :: st) P := X_get (M := mX11_look) (j := 1) (T := TX11) (dX11_look_5) rfl (by decide) x_in11 xw_431 hP hv k
theorem dX11_look_8 : decode cX11_look 8 = .ok (.if_icmp .ge 44, 3) := by decide +kernel
theorem sX11_look_8 {x y : Int32} (kt : y ≤ x → X w mX11_look d Q 52 ls st P) (kf : ¬ y ≤ x → X w mX11_look d Q 11 ls st P) : X w mX11_look d Q 8 ls (.int y :: .int x :: st) P := X_icmp_ge (M := mX11_look) (dX11_look_8) (by decide) kt kf
theorem dX11_look_11 : decode cX11_look 11 = .ok (.aload_n 0, 1) := by decide +kernel
theorem sX11_look_11 {x : Nat} (k : X w mX11_look d Q 12 [some (.ref x)] (.ref x :: st) P) : X w mX11_look d Q 11 [some (.ref x)] st P := X_aload_n (M := mX11_look) (dX11_look_11) rfl rfl k
theorem dX11_look_12 : decode cX11_look 12 = .ok (.getfield 7, 3) := by decide +kernel
theorem sX11_look_12 {a : Nat} {fs : List Value} {v : Nat} (hP : P.1 a = some (xO 9 fs)) (hv : fs[2]? = some (.ref v)) (k : X w mX11_look d Q 15 ls (.ref v :: st) P) : X w mX11_look d Q 12 ls (.ref a :: st) P := X_get (M := mX11_look) (j := 2) (T := TX11) (dX11_look_12) rfl (by decide) x_in11 xw_404 hP hv k
theorem dX11_look_15 : decode cX11_look 15 = .ok (.aload_n 0, 1) := by decide +kernel
theorem sX11_look_15 {x : Nat} (k : X w mX11_look d Q 16 [some (.ref x)] (.ref x :: st) P) : X w mX11_look d Q 15 [some (.ref x)] st P := X_aload_n (M := mX11_look) (dX11_look_15) rfl rfl k
theorem dX11_look_16 : decode cX11_look 16 = .ok (.getfield 95, 3) := by decide +kernel
theorem sX11_look_16 {a : Nat} {fs : List Value} {v : Int32} (hP : P.1 a = some (xO 9 fs)) (hv : fs[23]? = some (.int v)) (k : X w mX11_look d Q 19 ls (.int v :: st) P) : X w mX11_look d Q 16 ls (.ref a :: st) P := X_get (M := mX11_look) (j := 23) (T := TX11) (dX11_look_16) rfl (by decide) x_in11 xw_432 hP hv k
theorem dX11_look_19 : decode cX11_look 19 = .ok (.iaload, 1) := by decide +kernel
theorem sX11_look_19 {a n : Nat} {f : Nat → Int32} {i : Int32} (hP : P.1 a = some (xA 0 n f)) (hi : vp_in i n) (k : X w mX11_look d Q 20 ls (.int (f i.toNatClampNeg) :: st) P) : X w mX11_look d Q 19 ls (.int i :: .ref a :: st) P := X_iald (M := mX11_look) (dX11_look_19) hP hi k
theorem dX11_look_20 : decode cX11_look 20 = .ok (.bipush 32, 2) := by decide +kernel
theorem sX11_look_20 (k : X w mX11_look d Q 22 ls (.int (32 : Int32) :: st) P) : X w mX11_look d Q 20 ls st P := X_bipush (M := mX11_look) (dX11_look_20) (by decide) k
theorem dX11_look_22 : decode cX11_look 22 = .ok (.if_icmp .eq 17, 3) := by decide +kernel
theorem sX11_look_22 {x y : Int32} (kt : x = y → X w mX11_look d Q 39 ls st P) (kf : ¬ x = y → X w mX11_look d Q 25 ls st P) : X w mX11_look d Q 22 ls (.int y :: .int x :: st) P := X_icmp_eq (M := mX11_look) (dX11_look_22) (by decide) kt kf
theorem dX11_look_25 : decode cX11_look 25 = .ok (.aload_n 0, 1) := by decide +kernel
theorem sX11_look_25 {x : Nat} (k : X w mX11_look d Q 26 [some (.ref x)] (.ref x :: st) P) : X w mX11_look d Q 25 [some (.ref x)] st P := X_aload_n (M := mX11_look) (dX11_look_25) rfl rfl k
theorem dX11_look_26 : decode cX11_look 26 = .ok (.getfield 7, 3) := by decide +kernel
theorem sX11_look_26 {a : Nat} {fs : List Value} {v : Nat} (hP : P.1 a = some (xO 9 fs)) (hv : fs[2]? = some (.ref v)) (k : X w mX11_look d Q 29 ls (.ref v :: st) P) : X w mX11_look d Q 26 ls (.ref a :: st) P := X_get (M := mX11_look) (j := 2) (T := TX11) (dX11_look_26) rfl (by decide) x_in11 xw_404 hP hv k
theorem dX11_look_29 : decode cX11_look 29 = .ok (.aload_n 0, 1) := by decide +kernel
theorem sX11_look_29 {x : Nat} (k : X w mX11_look d Q 30 [some (.ref x)] (.ref x :: st) P) : X w mX11_look d Q 29 [some (.ref x)] st P := X_aload_n (M := mX11_look) (dX11_look_29) rfl rfl k
theorem dX11_look_30 : decode cX11_look 30 = .ok (.getfield 95, 3) := by decide +kernel
theorem sX11_look_30 {a : Nat} {fs : List Value} {v : Int32} (hP : P.1 a = some (xO 9 fs)) (hv : fs[23]? = some (.int v)) (k : X w mX11_look d Q 33 ls (.int v :: st) P) : X w mX11_look d Q 30 ls (.ref a :: st) P := X_get (M := mX11_look) (j := 23) (T := TX11) (dX11_look_30) rfl (by decide) x_in11 xw_432 hP hv k
theorem dX11_look_33 : decode cX11_look 33 = .ok (.iaload, 1) := by decide +kernel
theorem sX11_look_33 {a n : Nat} {f : Nat → Int32} {i : Int32} (hP : P.1 a = some (xA 0 n f)) (hi : vp_in i n) (k : X w mX11_look d Q 34 ls (.int (f i.toNatClampNeg) :: st) P) : X w mX11_look d Q 33 ls (.int i :: .ref a :: st) P := X_iald (M := mX11_look) (dX11_look_33) hP hi k
theorem dX11_look_34 : decode cX11_look 34 = .ok (.bipush 10, 2) := by decide +kernel
theorem sX11_look_34 (k : X w mX11_look d Q 36 ls (.int (10 : Int32) :: st) P) : X w mX11_look d Q 34 ls st P := X_bipush (M := mX11_look) (dX11_look_34) (by decide) k
theorem dX11_look_36 : decode cX11_look 36 = .ok (.if_icmp .ne 16, 3) := by decide +kernel
theorem sX11_look_36 {x y : Int32} (kt : ¬ x = y → X w mX11_look d Q 52 ls st P) (kf : x = y → X w mX11_look d Q 39 ls st P) : X w mX11_look d Q 36 ls (.int y :: .int x :: st) P := X_icmp_ne (M := mX11_look) (dX11_look_36) (by decide) kt kf
theorem dX11_look_39 : decode cX11_look 39 = .ok (.aload_n 0, 1) := by decide +kernel
theorem sX11_look_39 {x : Nat} (k : X w mX11_look d Q 40 [some (.ref x)] (.ref x :: st) P) : X w mX11_look d Q 39 [some (.ref x)] st P := X_aload_n (M := mX11_look) (dX11_look_39) rfl rfl k
theorem dX11_look_40 : decode cX11_look 40 = .ok (.dup, 1) := by decide +kernel
theorem sX11_look_40 {v : Value} (hv : v.category = 1) (k : X w mX11_look d Q 41 ls (v :: v :: st) P) : X w mX11_look d Q 40 ls (v :: st) P := X_dup (M := mX11_look) (dX11_look_40) hv k
theorem dX11_look_41 : decode cX11_look 41 = .ok (.getfield 95, 3) := by decide +kernel
theorem sX11_look_41 {a : Nat} {fs : List Value} {v : Int32} (hP : P.1 a = some (xO 9 fs)) (hv : fs[23]? = some (.int v)) (k : X w mX11_look d Q 44 ls (.int v :: st) P) : X w mX11_look d Q 41 ls (.ref a :: st) P := X_get (M := mX11_look) (j := 23) (T := TX11) (dX11_look_41) rfl (by decide) x_in11 xw_432 hP hv k
theorem dX11_look_44 : decode cX11_look 44 = .ok (.iconst 1, 1) := by decide +kernel
theorem sX11_look_44 (k : X w mX11_look d Q 45 ls (.int (1 : Int32) :: st) P) : X w mX11_look d Q 44 ls st P := X_iconst (M := mX11_look) (dX11_look_44) (by decide) k
theorem dX11_look_45 : decode cX11_look 45 = .ok (.iadd, 1) := by decide +kernel
theorem sX11_look_45 {x y : Int32} (k : X w mX11_look d Q 46 ls (.int (x + y) :: st) P) : X w mX11_look d Q 45 ls (.int y :: .int x :: st) P := X_iadd (M := mX11_look) (dX11_look_45) k
theorem dX11_look_46 : decode cX11_look 46 = .ok (.putfield 95, 3) := by decide +kernel
theorem sX11_look_46 {a : Nat} {fs : List Value} {v : Int32} (hP : P.1 a = some (xO 9 fs)) (hl : 23 < fs.length) (k : X w mX11_look d Q 49 ls st (xs P a (xO 9 (fs.set 23 (.int v))))) : X w mX11_look d Q 46 ls (.int v :: .ref a :: st) P := X_put (M := mX11_look) (j := 23) (T := TX11) (dX11_look_46) rfl (by decide) x_c11 xw_432 rfl hP rfl rfl hl k
theorem dX11_look_49 : decode cX11_look 49 = .ok (.goto (-49), 3) := by decide +kernel
theorem sX11_look_49 (k : X w mX11_look d Q 0 ls st P) : X w mX11_look d Q 49 ls st P := X_goto (M := mX11_look) (dX11_look_49) (by decide) k
theorem dX11_look_52 : decode cX11_look 52 = .ok (.aload_n 0, 1) := by decide +kernel
theorem sX11_look_52 {x : Nat} (k : X w mX11_look d Q 53 [some (.ref x)] (.ref x :: st) P) : X w mX11_look d Q 52 [some (.ref x)] st P := X_aload_n (M := mX11_look) (dX11_look_52) rfl rfl k
theorem dX11_look_53 : decode cX11_look 53 = .ok (.aload_n 0, 1) := by decide +kernel
theorem sX11_look_53 {x : Nat} (k : X w mX11_look d Q 54 [some (.ref x)] (.ref x :: st) P) : X w mX11_look d Q 53 [some (.ref x)] st P := X_aload_n (M := mX11_look) (dX11_look_53) rfl rfl k
theorem dX11_look_54 : decode cX11_look 54 = .ok (.getfield 95, 3) := by decide +kernel
theorem sX11_look_54 {a : Nat} {fs : List Value} {v : Int32} (hP : P.1 a = some (xO 9 fs)) (hv : fs[23]? = some (.int v)) (k : X w mX11_look d Q 57 ls (.int v :: st) P) : X w mX11_look d Q 54 ls (.ref a :: st) P := X_get (M := mX11_look) (j := 23) (T := TX11) (dX11_look_54) rfl (by decide) x_in11 xw_432 hP hv k
theorem dX11_look_57 : decode cX11_look 57 = .ok (.putfield 98, 3) := by decide +kernel
theorem sX11_look_57 {a : Nat} {fs : List Value} {v : Int32} (hP : P.1 a = some (xO 9 fs)) (hl : 24 < fs.length) (k : X w mX11_look d Q 60 ls st (xs P a (xO 9 (fs.set 24 (.int v))))) : X w mX11_look d Q 57 ls (.int v :: .ref a :: st) P := X_put (M := mX11_look) (j := 24) (T := TX11) (dX11_look_57) rfl (by decide) x_c11 xw_433 rfl hP rfl rfl hl k
theorem dX11_look_60 : decode cX11_look 60 = .ok (.aload_n 0, 1) := by decide +kernel
theorem sX11_look_60 {x : Nat} (k : X w mX11_look d Q 61 [some (.ref x)] (.ref x :: st) P) : X w mX11_look d Q 60 [some (.ref x)] st P := X_aload_n (M := mX11_look) (dX11_look_60) rfl rfl k
theorem dX11_look_61 : decode cX11_look 61 = .ok (.lconst 0, 1) := by decide +kernel
theorem sX11_look_61 (k : X w mX11_look d Q 62 ls (.long (0 : Int64) :: st) P) : X w mX11_look d Q 61 ls st P := X_lconst (M := mX11_look) (dX11_look_61) (by decide) k
theorem dX11_look_62 : decode cX11_look 62 = .ok (.putfield 101, 3) := by decide +kernel
theorem sX11_look_62 {a : Nat} {fs : List Value} {v : Int64} (hP : P.1 a = some (xO 9 fs)) (hl : 26 < fs.length) (k : X w mX11_look d Q 65 ls st (xs P a (xO 9 (fs.set 26 (.long v))))) : X w mX11_look d Q 62 ls (.long v :: .ref a :: st) P := X_put (M := mX11_look) (j := 26) (T := TX11) (dX11_look_62) rfl (by decide) x_c11 xw_434 rfl hP rfl rfl hl k
theorem dX11_look_65 : decode cX11_look 65 = .ok (.aload_n 0, 1) := by decide +kernel
theorem sX11_look_65 {x : Nat} (k : X w mX11_look d Q 66 [some (.ref x)] (.ref x :: st) P) : X w mX11_look d Q 65 [some (.ref x)] st P := X_aload_n (M := mX11_look) (dX11_look_65) rfl rfl k
theorem dX11_look_66 : decode cX11_look 66 = .ok (.iconst 0, 1) := by decide +kernel
theorem sX11_look_66 (k : X w mX11_look d Q 67 ls (.int (0 : Int32) :: st) P) : X w mX11_look d Q 66 ls st P := X_iconst (M := mX11_look) (dX11_look_66) (by decide) k
theorem dX11_look_67 : decode cX11_look 67 = .ok (.putfield 105, 3) := by decide +kernel
theorem sX11_look_67 {a : Nat} {fs : List Value} {v : Int32} (hP : P.1 a = some (xO 9 fs)) (hl : 27 < fs.length) (k : X w mX11_look d Q 70 ls st (xs P a (xO 9 (fs.set 27 (.int v))))) : X w mX11_look d Q 67 ls (.int v :: .ref a :: st) P := X_put (M := mX11_look) (j := 27) (T := TX11) (dX11_look_67) rfl (by decide) x_c11 xw_435 rfl hP rfl rfl hl k
theorem dX11_look_70 : decode cX11_look 70 = .ok (.aload_n 0, 1) := by decide +kernel
theorem sX11_look_70 {x : Nat} (k : X w mX11_look d Q 71 [some (.ref x)] (.ref x :: st) P) : X w mX11_look d Q 70 [some (.ref x)] st P := X_aload_n (M := mX11_look) (dX11_look_70) rfl rfl k
theorem dX11_look_71 : decode cX11_look 71 = .ok (.getfield 95, 3) := by decide +kernel
theorem sX11_look_71 {a : Nat} {fs : List Value} {v : Int32} (hP : P.1 a = some (xO 9 fs)) (hv : fs[23]? = some (.int v)) (k : X w mX11_look d Q 74 ls (.int v :: st) P) : X w mX11_look d Q 71 ls (.ref a :: st) P := X_get (M := mX11_look) (j := 23) (T := TX11) (dX11_look_71) rfl (by decide) x_in11 xw_432 hP hv k
theorem dX11_look_74 : decode cX11_look 74 = .ok (.aload_n 0, 1) := by decide +kernel
theorem sX11_look_74 {x : Nat} (k : X w mX11_look d Q 75 [some (.ref x)] (.ref x :: st) P) : X w mX11_look d Q 74 [some (.ref x)] st P := X_aload_n (M := mX11_look) (dX11_look_74) rfl rfl k
theorem dX11_look_75 : decode cX11_look 75 = .ok (.getfield 92, 3) := by decide +kernel
theorem sX11_look_75 {a : Nat} {fs : List Value} {v : Int32} (hP : P.1 a = some (xO 9 fs)) (hv : fs[1]? = some (.int v)) (k : X w mX11_look d Q 78 ls (.int v :: st) P) : X w mX11_look d Q 75 ls (.ref a :: st) P := X_get (M := mX11_look) (j := 1) (T := TX11) (dX11_look_75) rfl (by decide) x_in11 xw_431 hP hv k
theorem dX11_look_78 : decode cX11_look 78 = .ok (.if_icmp .ne 9, 3) := by decide +kernel
theorem sX11_look_78 {x y : Int32} (kt : ¬ x = y → X w mX11_look d Q 87 ls st P) (kf : x = y → X w mX11_look d Q 81 ls st P) : X w mX11_look d Q 78 ls (.int y :: .int x :: st) P := X_icmp_ne (M := mX11_look) (dX11_look_78) (by decide) kt kf
theorem dX11_look_81 : decode cX11_look 81 = .ok (.aload_n 0, 1) := by decide +kernel
theorem sX11_look_81 {x : Nat} (k : X w mX11_look d Q 82 [some (.ref x)] (.ref x :: st) P) : X w mX11_look d Q 81 [some (.ref x)] st P := X_aload_n (M := mX11_look) (dX11_look_81) rfl rfl k
theorem dX11_look_82 : decode cX11_look 82 = .ok (.iconst 0, 1) := by decide +kernel
theorem sX11_look_82 (k : X w mX11_look d Q 83 ls (.int (0 : Int32) :: st) P) : X w mX11_look d Q 82 ls st P := X_iconst (M := mX11_look) (dX11_look_82) (by decide) k
theorem dX11_look_83 : decode cX11_look 83 = .ok (.putfield 108, 3) := by decide +kernel
theorem sX11_look_83 {a : Nat} {fs : List Value} {v : Int32} (hP : P.1 a = some (xO 9 fs)) (hl : 25 < fs.length) (k : X w mX11_look d Q 86 ls st (xs P a (xO 9 (fs.set 25 (.int v))))) : X w mX11_look d Q 83 ls (.int v :: .ref a :: st) P := X_put (M := mX11_look) (j := 25) (T := TX11) (dX11_look_83) rfl (by decide) x_c11 xw_436 rfl hP rfl rfl hl k
theorem dX11_look_86 : decode cX11_look 86 = .ok (.return_, 1) := by decide +kernel
theorem sX11_look_86 (hq : Q (.returned none) P) : X w mX11_look d Q 86 ls [] P := X_vret (M := mX11_look) (dX11_look_86) rfl hq
theorem dX11_look_87 : decode cX11_look 87 = .ok (.aload_n 0, 1) := by decide +kernel
theorem sX11_look_87 {x : Nat} (k : X w mX11_look d Q 88 [some (.ref x)] (.ref x :: st) P) : X w mX11_look d Q 87 [some (.ref x)] st P := X_aload_n (M := mX11_look) (dX11_look_87) rfl rfl k
theorem dX11_look_88 : decode cX11_look 88 = .ok (.getfield 7, 3) := by decide +kernel
theorem sX11_look_88 {a : Nat} {fs : List Value} {v : Nat} (hP : P.1 a = some (xO 9 fs)) (hv : fs[2]? = some (.ref v)) (k : X w mX11_look d Q 91 ls (.ref v :: st) P) : X w mX11_look d Q 88 ls (.ref a :: st) P := X_get (M := mX11_look) (j := 2) (T := TX11) (dX11_look_88) rfl (by decide) x_in11 xw_404 hP hv k
theorem dX11_look_91 : decode cX11_look 91 = .ok (.aload_n 0, 1) := by decide +kernel
theorem sX11_look_91 {x : Nat} (k : X w mX11_look d Q 92 [some (.ref x)] (.ref x :: st) P) : X w mX11_look d Q 91 [some (.ref x)] st P := X_aload_n (M := mX11_look) (dX11_look_91) rfl rfl k
theorem dX11_look_92 : decode cX11_look 92 = .ok (.getfield 95, 3) := by decide +kernel
theorem sX11_look_92 {a : Nat} {fs : List Value} {v : Int32} (hP : P.1 a = some (xO 9 fs)) (hv : fs[23]? = some (.int v)) (k : X w mX11_look d Q 95 ls (.int v :: st) P) : X w mX11_look d Q 92 ls (.ref a :: st) P := X_get (M := mX11_look) (j := 23) (T := TX11) (dX11_look_92) rfl (by decide) x_in11 xw_432 hP hv k
theorem dX11_look_95 : decode cX11_look 95 = .ok (.iaload, 1) := by decide +kernel
theorem sX11_look_95 {a n : Nat} {f : Nat → Int32} {i : Int32} (hP : P.1 a = some (xA 0 n f)) (hi : vp_in i n) (k : X w mX11_look d Q 96 ls (.int (f i.toNatClampNeg) :: st) P) : X w mX11_look d Q 95 ls (.int i :: .ref a :: st) P := X_iald (M := mX11_look) (dX11_look_95) hP hi k
theorem dX11_look_96 : decode cX11_look 96 = .ok (.invokestatic 111, 3) := by decide +kernel
theorem sX11_look_96_g {a0 : Int32} {Qc : Outcome → xH → Prop} (hst : (st.map fun v => v.category).sum ≤ 8) (hC : xC w d mX11_isLetter [.int a0] P Qc) (kr : ∀ v P1, Qc (.returned v) P1 → X w mX11_look (d + 1) Q 99 ls (v.toList ++ st) P1) (kt : ∀ q P1, Qc (.threw q) P1 → Xt w mX11_look (d + 1) Q 96 ls st P1 q) : X w mX11_look (d + 1) Q 96 ls (.int a0 :: st) P := X_callS (M := mX11_look) (MC := mX11_isLetter) (As := [.int a0]) (dX11_look_96) calX11_isLetter xw_437 xw_438 rfl hC hst kr kt
theorem sX11_look_96 {a0 : Int32} {r : Int32} {P1 : xH} (hst : (st.map fun v => v.category).sum ≤ 8) (hC : xC w d mX11_isLetter [.int a0] P (xRet (some (.int r)) P1)) (k : X w mX11_look (d + 1) Q 99 ls (.int r :: st) P1) : X w mX11_look (d + 1) Q 96 ls (.int a0 :: st) P := X_callS (M := mX11_look) (MC := mX11_isLetter) (As := [.int a0]) (dX11_look_96) calX11_isLetter xw_437 xw_438 rfl hC hst (fun v P2 h => by obtain ⟨h1, rfl⟩ := h; cases h1; exact k) (fun q P2 h => by cases h.1)
theorem sX11_look_96_r {a0 : Int32} {r : Int32} {Rp : xH → Prop} (hst : (st.map fun v => v.category).sum ≤ 8) (hC : xC w d mX11_isLetter [.int a0] P (xRl (some (.int r)) Rp)) (k : ∀ P1, Rp P1 → X w mX11_look (d + 1) Q 99 ls (.int r :: st) P1) : X w mX11_look (d + 1) Q 96 ls (.int a0 :: st) P := X_callS (M := mX11_look) (MC := mX11_isLetter) (As := [.int a0]) (dX11_look_96) calX11_isLetter xw_437 xw_438 rfl hC hst (fun v P2 h => by obtain ⟨h1, hR⟩ := h; cases h1; exact k P2 hR) (fun q P2 h => by cases h.1)
theorem sX11_look_96_t {a0 : Int32} {q : Nat} {P1 : xH} (hst : (st.map fun v => v.category).sum ≤ 8) (hC : xC w d mX11_isLetter [.int a0] P (xThr q P1)) (hq : Q (.threw q) P1) : X w mX11_look (d + 1) Q 96 ls (.int a0 :: st) P := X_callS (M := mX11_look) (MC := mX11_isLetter) (As := [.int a0]) (dX11_look_96) calX11_isLetter xw_437 xw_438 rfl hC hst (fun v P2 h => by cases h.1) (fun q2 P2 h => by obtain ⟨h1, rfl⟩ := h; cases h1; exact Xt_out rfl hq)
theorem dX11_look_99 : decode cX11_look 99 = .ok (.ifCond .eq 137, 3) := by decide +kernel
theorem sX11_look_99 {x : Int32} (kt : x = 0 → X w mX11_look d Q 236 ls st P) (kf : ¬ x = 0 → X w mX11_look d Q 102 ls st P) : X w mX11_look d Q 99 ls (.int x :: st) P := X_if_eq (M := mX11_look) (dX11_look_99) (by decide) kt kf
theorem dX11_look_102 : decode cX11_look 102 = .ok (.aload_n 0, 1) := by decide +kernel
theorem sX11_look_102 {x : Nat} (k : X w mX11_look d Q 103 [some (.ref x)] (.ref x :: st) P) : X w mX11_look d Q 102 [some (.ref x)] st P := X_aload_n (M := mX11_look) (dX11_look_102) rfl rfl k
theorem dX11_look_103 : decode cX11_look 103 = .ok (.getfield 98, 3) := by decide +kernel
theorem sX11_look_103 {a : Nat} {fs : List Value} {v : Int32} (hP : P.1 a = some (xO 9 fs)) (hv : fs[24]? = some (.int v)) (k : X w mX11_look d Q 106 ls (.int v :: st) P) : X w mX11_look d Q 103 ls (.ref a :: st) P := X_get (M := mX11_look) (j := 24) (T := TX11) (dX11_look_103) rfl (by decide) x_in11 xw_433 hP hv k
theorem dX11_look_106 : decode cX11_look 106 = .ok (.aload_n 0, 1) := by decide +kernel
theorem sX11_look_106 {x : Nat} (k : X w mX11_look d Q 107 [some (.ref x)] (.ref x :: st) P) : X w mX11_look d Q 106 [some (.ref x)] st P := X_aload_n (M := mX11_look) (dX11_look_106) rfl rfl k
theorem dX11_look_107 : decode cX11_look 107 = .ok (.getfield 92, 3) := by decide +kernel
theorem sX11_look_107 {a : Nat} {fs : List Value} {v : Int32} (hP : P.1 a = some (xO 9 fs)) (hv : fs[1]? = some (.int v)) (k : X w mX11_look d Q 110 ls (.int v :: st) P) : X w mX11_look d Q 107 ls (.ref a :: st) P := X_get (M := mX11_look) (j := 1) (T := TX11) (dX11_look_107) rfl (by decide) x_in11 xw_431 hP hv k
theorem dX11_look_110 : decode cX11_look 110 = .ok (.if_icmp .ge 102, 3) := by decide +kernel
theorem sX11_look_110 {x y : Int32} (kt : y ≤ x → X w mX11_look d Q 212 ls st P) (kf : ¬ y ≤ x → X w mX11_look d Q 113 ls st P) : X w mX11_look d Q 110 ls (.int y :: .int x :: st) P := X_icmp_ge (M := mX11_look) (dX11_look_110) (by decide) kt kf
theorem dX11_look_113 : decode cX11_look 113 = .ok (.aload_n 0, 1) := by decide +kernel
theorem sX11_look_113 {x : Nat} (k : X w mX11_look d Q 114 [some (.ref x)] (.ref x :: st) P) : X w mX11_look d Q 113 [some (.ref x)] st P := X_aload_n (M := mX11_look) (dX11_look_113) rfl rfl k
theorem dX11_look_114 : decode cX11_look 114 = .ok (.getfield 7, 3) := by decide +kernel
theorem sX11_look_114 {a : Nat} {fs : List Value} {v : Nat} (hP : P.1 a = some (xO 9 fs)) (hv : fs[2]? = some (.ref v)) (k : X w mX11_look d Q 117 ls (.ref v :: st) P) : X w mX11_look d Q 114 ls (.ref a :: st) P := X_get (M := mX11_look) (j := 2) (T := TX11) (dX11_look_114) rfl (by decide) x_in11 xw_404 hP hv k
theorem dX11_look_117 : decode cX11_look 117 = .ok (.aload_n 0, 1) := by decide +kernel
theorem sX11_look_117 {x : Nat} (k : X w mX11_look d Q 118 [some (.ref x)] (.ref x :: st) P) : X w mX11_look d Q 117 [some (.ref x)] st P := X_aload_n (M := mX11_look) (dX11_look_117) rfl rfl k
theorem dX11_look_118 : decode cX11_look 118 = .ok (.getfield 98, 3) := by decide +kernel
theorem sX11_look_118 {a : Nat} {fs : List Value} {v : Int32} (hP : P.1 a = some (xO 9 fs)) (hv : fs[24]? = some (.int v)) (k : X w mX11_look d Q 121 ls (.int v :: st) P) : X w mX11_look d Q 118 ls (.ref a :: st) P := X_get (M := mX11_look) (j := 24) (T := TX11) (dX11_look_118) rfl (by decide) x_in11 xw_433 hP hv k
theorem dX11_look_121 : decode cX11_look 121 = .ok (.iaload, 1) := by decide +kernel
theorem sX11_look_121 {a n : Nat} {f : Nat → Int32} {i : Int32} (hP : P.1 a = some (xA 0 n f)) (hi : vp_in i n) (k : X w mX11_look d Q 122 ls (.int (f i.toNatClampNeg) :: st) P) : X w mX11_look d Q 121 ls (.int i :: .ref a :: st) P := X_iald (M := mX11_look) (dX11_look_121) hP hi k
theorem dX11_look_122 : decode cX11_look 122 = .ok (.invokestatic 111, 3) := by decide +kernel
theorem sX11_look_122_g {a0 : Int32} {Qc : Outcome → xH → Prop} (hst : (st.map fun v => v.category).sum ≤ 8) (hC : xC w d mX11_isLetter [.int a0] P Qc) (kr : ∀ v P1, Qc (.returned v) P1 → X w mX11_look (d + 1) Q 125 ls (v.toList ++ st) P1) (kt : ∀ q P1, Qc (.threw q) P1 → Xt w mX11_look (d + 1) Q 122 ls st P1 q) : X w mX11_look (d + 1) Q 122 ls (.int a0 :: st) P := X_callS (M := mX11_look) (MC := mX11_isLetter) (As := [.int a0]) (dX11_look_122) calX11_isLetter xw_437 xw_438 rfl hC hst kr kt
theorem sX11_look_122 {a0 : Int32} {r : Int32} {P1 : xH} (hst : (st.map fun v => v.category).sum ≤ 8) (hC : xC w d mX11_isLetter [.int a0] P (xRet (some (.int r)) P1)) (k : X w mX11_look (d + 1) Q 125 ls (.int r :: st) P1) : X w mX11_look (d + 1) Q 122 ls (.int a0 :: st) P := X_callS (M := mX11_look) (MC := mX11_isLetter) (As := [.int a0]) (dX11_look_122) calX11_isLetter xw_437 xw_438 rfl hC hst (fun v P2 h => by obtain ⟨h1, rfl⟩ := h; cases h1; exact k) (fun q P2 h => by cases h.1)
theorem sX11_look_122_r {a0 : Int32} {r : Int32} {Rp : xH → Prop} (hst : (st.map fun v => v.category).sum ≤ 8) (hC : xC w d mX11_isLetter [.int a0] P (xRl (some (.int r)) Rp)) (k : ∀ P1, Rp P1 → X w mX11_look (d + 1) Q 125 ls (.int r :: st) P1) : X w mX11_look (d + 1) Q 122 ls (.int a0 :: st) P := X_callS (M := mX11_look) (MC := mX11_isLetter) (As := [.int a0]) (dX11_look_122) calX11_isLetter xw_437 xw_438 rfl hC hst (fun v P2 h => by obtain ⟨h1, hR⟩ := h; cases h1; exact k P2 hR) (fun q P2 h => by cases h.1)
theorem sX11_look_122_t {a0 : Int32} {q : Nat} {P1 : xH} (hst : (st.map fun v => v.category).sum ≤ 8) (hC : xC w d mX11_isLetter [.int a0] P (xThr q P1)) (hq : Q (.threw q) P1) : X w mX11_look (d + 1) Q 122 ls (.int a0 :: st) P := X_callS (M := mX11_look) (MC := mX11_isLetter) (As := [.int a0]) (dX11_look_122) calX11_isLetter xw_437 xw_438 rfl hC hst (fun v P2 h => by cases h.1) (fun q2 P2 h => by obtain ⟨h1, rfl⟩ := h; cases h1; exact Xt_out rfl hq)
theorem dX11_look_125 : decode cX11_look 125 = .ok (.ifCond .ne 18, 3) := by decide +kernel
theorem sX11_look_125 {x : Int32} (kt : ¬ x = 0 → X w mX11_look d Q 143 ls st P) (kf : x = 0 → X w mX11_look d Q 128 ls st P) : X w mX11_look d Q 125 ls (.int x :: st) P := X_if_ne (M := mX11_look) (dX11_look_125) (by decide) kt kf
theorem dX11_look_128 : decode cX11_look 128 = .ok (.aload_n 0, 1) := by decide +kernel
theorem sX11_look_128 {x : Nat} (k : X w mX11_look d Q 129 [some (.ref x)] (.ref x :: st) P) : X w mX11_look d Q 128 [some (.ref x)] st P := X_aload_n (M := mX11_look) (dX11_look_128) rfl rfl k
theorem dX11_look_129 : decode cX11_look 129 = .ok (.getfield 7, 3) := by decide +kernel
theorem sX11_look_129 {a : Nat} {fs : List Value} {v : Nat} (hP : P.1 a = some (xO 9 fs)) (hv : fs[2]? = some (.ref v)) (k : X w mX11_look d Q 132 ls (.ref v :: st) P) : X w mX11_look d Q 129 ls (.ref a :: st) P := X_get (M := mX11_look) (j := 2) (T := TX11) (dX11_look_129) rfl (by decide) x_in11 xw_404 hP hv k
theorem dX11_look_132 : decode cX11_look 132 = .ok (.aload_n 0, 1) := by decide +kernel
theorem sX11_look_132 {x : Nat} (k : X w mX11_look d Q 133 [some (.ref x)] (.ref x :: st) P) : X w mX11_look d Q 132 [some (.ref x)] st P := X_aload_n (M := mX11_look) (dX11_look_132) rfl rfl k
theorem dX11_look_133 : decode cX11_look 133 = .ok (.getfield 98, 3) := by decide +kernel
theorem sX11_look_133 {a : Nat} {fs : List Value} {v : Int32} (hP : P.1 a = some (xO 9 fs)) (hv : fs[24]? = some (.int v)) (k : X w mX11_look d Q 136 ls (.int v :: st) P) : X w mX11_look d Q 133 ls (.ref a :: st) P := X_get (M := mX11_look) (j := 24) (T := TX11) (dX11_look_133) rfl (by decide) x_in11 xw_433 hP hv k
theorem dX11_look_136 : decode cX11_look 136 = .ok (.iaload, 1) := by decide +kernel
theorem sX11_look_136 {a n : Nat} {f : Nat → Int32} {i : Int32} (hP : P.1 a = some (xA 0 n f)) (hi : vp_in i n) (k : X w mX11_look d Q 137 ls (.int (f i.toNatClampNeg) :: st) P) : X w mX11_look d Q 136 ls (.int i :: .ref a :: st) P := X_iald (M := mX11_look) (dX11_look_136) hP hi k
theorem dX11_look_137 : decode cX11_look 137 = .ok (.invokestatic 114, 3) := by decide +kernel
theorem sX11_look_137_g {a0 : Int32} {Qc : Outcome → xH → Prop} (hst : (st.map fun v => v.category).sum ≤ 8) (hC : xC w d mX11_isDigit [.int a0] P Qc) (kr : ∀ v P1, Qc (.returned v) P1 → X w mX11_look (d + 1) Q 140 ls (v.toList ++ st) P1) (kt : ∀ q P1, Qc (.threw q) P1 → Xt w mX11_look (d + 1) Q 137 ls st P1 q) : X w mX11_look (d + 1) Q 137 ls (.int a0 :: st) P := X_callS (M := mX11_look) (MC := mX11_isDigit) (As := [.int a0]) (dX11_look_137) calX11_isDigit xw_439 xw_440 rfl hC hst kr kt
theorem sX11_look_137 {a0 : Int32} {r : Int32} {P1 : xH} (hst : (st.map fun v => v.category).sum ≤ 8) (hC : xC w d mX11_isDigit [.int a0] P (xRet (some (.int r)) P1)) (k : X w mX11_look (d + 1) Q 140 ls (.int r :: st) P1) : X w mX11_look (d + 1) Q 137 ls (.int a0 :: st) P := X_callS (M := mX11_look) (MC := mX11_isDigit) (As := [.int a0]) (dX11_look_137) calX11_isDigit xw_439 xw_440 rfl hC hst (fun v P2 h => by obtain ⟨h1, rfl⟩ := h; cases h1; exact k) (fun q P2 h => by cases h.1)
theorem sX11_look_137_r {a0 : Int32} {r : Int32} {Rp : xH → Prop} (hst : (st.map fun v => v.category).sum ≤ 8) (hC : xC w d mX11_isDigit [.int a0] P (xRl (some (.int r)) Rp)) (k : ∀ P1, Rp P1 → X w mX11_look (d + 1) Q 140 ls (.int r :: st) P1) : X w mX11_look (d + 1) Q 137 ls (.int a0 :: st) P := X_callS (M := mX11_look) (MC := mX11_isDigit) (As := [.int a0]) (dX11_look_137) calX11_isDigit xw_439 xw_440 rfl hC hst (fun v P2 h => by obtain ⟨h1, hR⟩ := h; cases h1; exact k P2 hR) (fun q P2 h => by cases h.1)
theorem sX11_look_137_t {a0 : Int32} {q : Nat} {P1 : xH} (hst : (st.map fun v => v.category).sum ≤ 8) (hC : xC w d mX11_isDigit [.int a0] P (xThr q P1)) (hq : Q (.threw q) P1) : X w mX11_look (d + 1) Q 137 ls (.int a0 :: st) P := X_callS (M := mX11_look) (MC := mX11_isDigit) (As := [.int a0]) (dX11_look_137) calX11_isDigit xw_439 xw_440 rfl hC hst (fun v P2 h => by cases h.1) (fun q2 P2 h => by obtain ⟨h1, rfl⟩ := h; cases h1; exact Xt_out rfl hq)
theorem dX11_look_140 : decode cX11_look 140 = .ok (.ifCond .eq 72, 3) := by decide +kernel
theorem sX11_look_140 {x : Int32} (kt : x = 0 → X w mX11_look d Q 212 ls st P) (kf : ¬ x = 0 → X w mX11_look d Q 143 ls st P) : X w mX11_look d Q 140 ls (.int x :: st) P := X_if_eq (M := mX11_look) (dX11_look_140) (by decide) kt kf
theorem dX11_look_143 : decode cX11_look 143 = .ok (.aload_n 0, 1) := by decide +kernel
theorem sX11_look_143 {x : Nat} (k : X w mX11_look d Q 144 [some (.ref x)] (.ref x :: st) P) : X w mX11_look d Q 143 [some (.ref x)] st P := X_aload_n (M := mX11_look) (dX11_look_143) rfl rfl k
theorem dX11_look_144 : decode cX11_look 144 = .ok (.aload_n 0, 1) := by decide +kernel
theorem sX11_look_144 {x : Nat} (k : X w mX11_look d Q 145 [some (.ref x)] (.ref x :: st) P) : X w mX11_look d Q 144 [some (.ref x)] st P := X_aload_n (M := mX11_look) (dX11_look_144) rfl rfl k
theorem dX11_look_145 : decode cX11_look 145 = .ok (.getfield 98, 3) := by decide +kernel
theorem sX11_look_145 {a : Nat} {fs : List Value} {v : Int32} (hP : P.1 a = some (xO 9 fs)) (hv : fs[24]? = some (.int v)) (k : X w mX11_look d Q 148 ls (.int v :: st) P) : X w mX11_look d Q 145 ls (.ref a :: st) P := X_get (M := mX11_look) (j := 24) (T := TX11) (dX11_look_145) rfl (by decide) x_in11 xw_433 hP hv k
theorem dX11_look_148 : decode cX11_look 148 = .ok (.aload_n 0, 1) := by decide +kernel
theorem sX11_look_148 {x : Nat} (k : X w mX11_look d Q 149 [some (.ref x)] (.ref x :: st) P) : X w mX11_look d Q 148 [some (.ref x)] st P := X_aload_n (M := mX11_look) (dX11_look_148) rfl rfl k
theorem dX11_look_149 : decode cX11_look 149 = .ok (.getfield 95, 3) := by decide +kernel
theorem sX11_look_149 {a : Nat} {fs : List Value} {v : Int32} (hP : P.1 a = some (xO 9 fs)) (hv : fs[23]? = some (.int v)) (k : X w mX11_look d Q 152 ls (.int v :: st) P) : X w mX11_look d Q 149 ls (.ref a :: st) P := X_get (M := mX11_look) (j := 23) (T := TX11) (dX11_look_149) rfl (by decide) x_in11 xw_432 hP hv k
theorem dX11_look_152 : decode cX11_look 152 = .ok (.isub, 1) := by decide +kernel
theorem sX11_look_152 {x y : Int32} (k : X w mX11_look d Q 153 ls (.int (x - y) :: st) P) : X w mX11_look d Q 152 ls (.int y :: .int x :: st) P := X_isub (M := mX11_look) (dX11_look_152) k
theorem dX11_look_153 : decode cX11_look 153 = .ok (.bipush 8, 2) := by decide +kernel
theorem sX11_look_153 (k : X w mX11_look d Q 155 ls (.int (8 : Int32) :: st) P) : X w mX11_look d Q 153 ls st P := X_bipush (M := mX11_look) (dX11_look_153) (by decide) k
theorem dX11_look_155 : decode cX11_look 155 = .ok (.if_icmp .ge 37, 3) := by decide +kernel
theorem sX11_look_155 {x y : Int32} (kt : y ≤ x → X w mX11_look d Q 192 ls st P) (kf : ¬ y ≤ x → X w mX11_look d Q 158 ls st P) : X w mX11_look d Q 155 ls (.int y :: .int x :: st) P := X_icmp_ge (M := mX11_look) (dX11_look_155) (by decide) kt kf
theorem dX11_look_158 : decode cX11_look 158 = .ok (.aload_n 0, 1) := by decide +kernel
theorem sX11_look_158 {x : Nat} (k : X w mX11_look d Q 159 [some (.ref x)] (.ref x :: st) P) : X w mX11_look d Q 158 [some (.ref x)] st P := X_aload_n (M := mX11_look) (dX11_look_158) rfl rfl k
theorem dX11_look_159 : decode cX11_look 159 = .ok (.getfield 101, 3) := by decide +kernel
theorem sX11_look_159 {a : Nat} {fs : List Value} {v : Int64} (hP : P.1 a = some (xO 9 fs)) (hv : fs[26]? = some (.long v)) (k : X w mX11_look d Q 162 ls (.long v :: st) P) : X w mX11_look d Q 159 ls (.ref a :: st) P := X_get (M := mX11_look) (j := 26) (T := TX11) (dX11_look_159) rfl (by decide) x_in11 xw_434 hP hv k
theorem dX11_look_162 : decode cX11_look 162 = .ok (.aload_n 0, 1) := by decide +kernel
theorem sX11_look_162 {x : Nat} (k : X w mX11_look d Q 163 [some (.ref x)] (.ref x :: st) P) : X w mX11_look d Q 162 [some (.ref x)] st P := X_aload_n (M := mX11_look) (dX11_look_162) rfl rfl k
theorem dX11_look_163 : decode cX11_look 163 = .ok (.getfield 7, 3) := by decide +kernel
theorem sX11_look_163 {a : Nat} {fs : List Value} {v : Nat} (hP : P.1 a = some (xO 9 fs)) (hv : fs[2]? = some (.ref v)) (k : X w mX11_look d Q 166 ls (.ref v :: st) P) : X w mX11_look d Q 163 ls (.ref a :: st) P := X_get (M := mX11_look) (j := 2) (T := TX11) (dX11_look_163) rfl (by decide) x_in11 xw_404 hP hv k
theorem dX11_look_166 : decode cX11_look 166 = .ok (.aload_n 0, 1) := by decide +kernel
theorem sX11_look_166 {x : Nat} (k : X w mX11_look d Q 167 [some (.ref x)] (.ref x :: st) P) : X w mX11_look d Q 166 [some (.ref x)] st P := X_aload_n (M := mX11_look) (dX11_look_166) rfl rfl k
theorem dX11_look_167 : decode cX11_look 167 = .ok (.getfield 98, 3) := by decide +kernel
theorem sX11_look_167 {a : Nat} {fs : List Value} {v : Int32} (hP : P.1 a = some (xO 9 fs)) (hv : fs[24]? = some (.int v)) (k : X w mX11_look d Q 170 ls (.int v :: st) P) : X w mX11_look d Q 167 ls (.ref a :: st) P := X_get (M := mX11_look) (j := 24) (T := TX11) (dX11_look_167) rfl (by decide) x_in11 xw_433 hP hv k
theorem dX11_look_170 : decode cX11_look 170 = .ok (.iaload, 1) := by decide +kernel
theorem sX11_look_170 {a n : Nat} {f : Nat → Int32} {i : Int32} (hP : P.1 a = some (xA 0 n f)) (hi : vp_in i n) (k : X w mX11_look d Q 171 ls (.int (f i.toNatClampNeg) :: st) P) : X w mX11_look d Q 170 ls (.int i :: .ref a :: st) P := X_iald (M := mX11_look) (dX11_look_170) hP hi k
theorem dX11_look_171 : decode cX11_look 171 = .ok (.i2l, 1) := by decide +kernel
theorem sX11_look_171 {x : Int32} (k : X w mX11_look d Q 172 ls (.long x.toInt64 :: st) P) : X w mX11_look d Q 171 ls (.int x :: st) P := X_i2l (M := mX11_look) (dX11_look_171) k
theorem dX11_look_172 : decode cX11_look 172 = .ok (.bipush 56, 2) := by decide +kernel
theorem sX11_look_172 (k : X w mX11_look d Q 174 ls (.int (56 : Int32) :: st) P) : X w mX11_look d Q 172 ls st P := X_bipush (M := mX11_look) (dX11_look_172) (by decide) k
theorem dX11_look_174 : decode cX11_look 174 = .ok (.bipush 8, 2) := by decide +kernel
theorem sX11_look_174 (k : X w mX11_look d Q 176 ls (.int (8 : Int32) :: st) P) : X w mX11_look d Q 174 ls st P := X_bipush (M := mX11_look) (dX11_look_174) (by decide) k
theorem dX11_look_176 : decode cX11_look 176 = .ok (.aload_n 0, 1) := by decide +kernel
theorem sX11_look_176 {x : Nat} (k : X w mX11_look d Q 177 [some (.ref x)] (.ref x :: st) P) : X w mX11_look d Q 176 [some (.ref x)] st P := X_aload_n (M := mX11_look) (dX11_look_176) rfl rfl k
theorem dX11_look_177 : decode cX11_look 177 = .ok (.getfield 98, 3) := by decide +kernel
theorem sX11_look_177 {a : Nat} {fs : List Value} {v : Int32} (hP : P.1 a = some (xO 9 fs)) (hv : fs[24]? = some (.int v)) (k : X w mX11_look d Q 180 ls (.int v :: st) P) : X w mX11_look d Q 177 ls (.ref a :: st) P := X_get (M := mX11_look) (j := 24) (T := TX11) (dX11_look_177) rfl (by decide) x_in11 xw_433 hP hv k
theorem dX11_look_180 : decode cX11_look 180 = .ok (.aload_n 0, 1) := by decide +kernel
theorem sX11_look_180 {x : Nat} (k : X w mX11_look d Q 181 [some (.ref x)] (.ref x :: st) P) : X w mX11_look d Q 180 [some (.ref x)] st P := X_aload_n (M := mX11_look) (dX11_look_180) rfl rfl k
theorem dX11_look_181 : decode cX11_look 181 = .ok (.getfield 95, 3) := by decide +kernel
theorem sX11_look_181 {a : Nat} {fs : List Value} {v : Int32} (hP : P.1 a = some (xO 9 fs)) (hv : fs[23]? = some (.int v)) (k : X w mX11_look d Q 184 ls (.int v :: st) P) : X w mX11_look d Q 181 ls (.ref a :: st) P := X_get (M := mX11_look) (j := 23) (T := TX11) (dX11_look_181) rfl (by decide) x_in11 xw_432 hP hv k
theorem dX11_look_184 : decode cX11_look 184 = .ok (.isub, 1) := by decide +kernel
theorem sX11_look_184 {x y : Int32} (k : X w mX11_look d Q 185 ls (.int (x - y) :: st) P) : X w mX11_look d Q 184 ls (.int y :: .int x :: st) P := X_isub (M := mX11_look) (dX11_look_184) k
theorem dX11_look_185 : decode cX11_look 185 = .ok (.imul, 1) := by decide +kernel
theorem sX11_look_185 {x y : Int32} (k : X w mX11_look d Q 186 ls (.int (x * y) :: st) P) : X w mX11_look d Q 185 ls (.int y :: .int x :: st) P := X_imul (M := mX11_look) (dX11_look_185) k
theorem dX11_look_186 : decode cX11_look 186 = .ok (.isub, 1) := by decide +kernel
theorem sX11_look_186 {x y : Int32} (k : X w mX11_look d Q 187 ls (.int (x - y) :: st) P) : X w mX11_look d Q 186 ls (.int y :: .int x :: st) P := X_isub (M := mX11_look) (dX11_look_186) k
theorem dX11_look_187 : decode cX11_look 187 = .ok (.lshl, 1) := by decide +kernel
theorem sX11_look_187 {x : Int64} {y : Int32} (k : X w mX11_look d Q 188 ls (.long (x <<< (y.toInt64 &&& 63)) :: st) P) : X w mX11_look d Q 187 ls (.int y :: .long x :: st) P := X_lshl (M := mX11_look) (dX11_look_187) k
theorem dX11_look_188 : decode cX11_look 188 = .ok (.lor, 1) := by decide +kernel
theorem sX11_look_188 {x y : Int64} (k : X w mX11_look d Q 189 ls (.long (x ||| y) :: st) P) : X w mX11_look d Q 188 ls (.long y :: .long x :: st) P := X_lor (M := mX11_look) (dX11_look_188) k
theorem dX11_look_189 : decode cX11_look 189 = .ok (.goto 7, 3) := by decide +kernel
theorem sX11_look_189 (k : X w mX11_look d Q 196 ls st P) : X w mX11_look d Q 189 ls st P := X_goto (M := mX11_look) (dX11_look_189) (by decide) k
theorem dX11_look_192 : decode cX11_look 192 = .ok (.aload_n 0, 1) := by decide +kernel
theorem sX11_look_192 {x : Nat} (k : X w mX11_look d Q 193 [some (.ref x)] (.ref x :: st) P) : X w mX11_look d Q 192 [some (.ref x)] st P := X_aload_n (M := mX11_look) (dX11_look_192) rfl rfl k
theorem dX11_look_193 : decode cX11_look 193 = .ok (.getfield 101, 3) := by decide +kernel
theorem sX11_look_193 {a : Nat} {fs : List Value} {v : Int64} (hP : P.1 a = some (xO 9 fs)) (hv : fs[26]? = some (.long v)) (k : X w mX11_look d Q 196 ls (.long v :: st) P) : X w mX11_look d Q 193 ls (.ref a :: st) P := X_get (M := mX11_look) (j := 26) (T := TX11) (dX11_look_193) rfl (by decide) x_in11 xw_434 hP hv k
theorem dX11_look_196 : decode cX11_look 196 = .ok (.putfield 101, 3) := by decide +kernel
theorem sX11_look_196 {a : Nat} {fs : List Value} {v : Int64} (hP : P.1 a = some (xO 9 fs)) (hl : 26 < fs.length) (k : X w mX11_look d Q 199 ls st (xs P a (xO 9 (fs.set 26 (.long v))))) : X w mX11_look d Q 196 ls (.long v :: .ref a :: st) P := X_put (M := mX11_look) (j := 26) (T := TX11) (dX11_look_196) rfl (by decide) x_c11 xw_434 rfl hP rfl rfl hl k
theorem dX11_look_199 : decode cX11_look 199 = .ok (.aload_n 0, 1) := by decide +kernel
theorem sX11_look_199 {x : Nat} (k : X w mX11_look d Q 200 [some (.ref x)] (.ref x :: st) P) : X w mX11_look d Q 199 [some (.ref x)] st P := X_aload_n (M := mX11_look) (dX11_look_199) rfl rfl k
theorem dX11_look_200 : decode cX11_look 200 = .ok (.dup, 1) := by decide +kernel
theorem sX11_look_200 {v : Value} (hv : v.category = 1) (k : X w mX11_look d Q 201 ls (v :: v :: st) P) : X w mX11_look d Q 200 ls (v :: st) P := X_dup (M := mX11_look) (dX11_look_200) hv k
theorem dX11_look_201 : decode cX11_look 201 = .ok (.getfield 98, 3) := by decide +kernel
theorem sX11_look_201 {a : Nat} {fs : List Value} {v : Int32} (hP : P.1 a = some (xO 9 fs)) (hv : fs[24]? = some (.int v)) (k : X w mX11_look d Q 204 ls (.int v :: st) P) : X w mX11_look d Q 201 ls (.ref a :: st) P := X_get (M := mX11_look) (j := 24) (T := TX11) (dX11_look_201) rfl (by decide) x_in11 xw_433 hP hv k
theorem dX11_look_204 : decode cX11_look 204 = .ok (.iconst 1, 1) := by decide +kernel
theorem sX11_look_204 (k : X w mX11_look d Q 205 ls (.int (1 : Int32) :: st) P) : X w mX11_look d Q 204 ls st P := X_iconst (M := mX11_look) (dX11_look_204) (by decide) k
theorem dX11_look_205 : decode cX11_look 205 = .ok (.iadd, 1) := by decide +kernel
theorem sX11_look_205 {x y : Int32} (k : X w mX11_look d Q 206 ls (.int (x + y) :: st) P) : X w mX11_look d Q 205 ls (.int y :: .int x :: st) P := X_iadd (M := mX11_look) (dX11_look_205) k
theorem dX11_look_206 : decode cX11_look 206 = .ok (.putfield 98, 3) := by decide +kernel
theorem sX11_look_206 {a : Nat} {fs : List Value} {v : Int32} (hP : P.1 a = some (xO 9 fs)) (hl : 24 < fs.length) (k : X w mX11_look d Q 209 ls st (xs P a (xO 9 (fs.set 24 (.int v))))) : X w mX11_look d Q 206 ls (.int v :: .ref a :: st) P := X_put (M := mX11_look) (j := 24) (T := TX11) (dX11_look_206) rfl (by decide) x_c11 xw_433 rfl hP rfl rfl hl k
theorem dX11_look_209 : decode cX11_look 209 = .ok (.goto (-107), 3) := by decide +kernel
theorem sX11_look_209 (k : X w mX11_look d Q 102 ls st P) : X w mX11_look d Q 209 ls st P := X_goto (M := mX11_look) (dX11_look_209) (by decide) k
theorem dX11_look_212 : decode cX11_look 212 = .ok (.aload_n 0, 1) := by decide +kernel
theorem sX11_look_212 {x : Nat} (k : X w mX11_look d Q 213 [some (.ref x)] (.ref x :: st) P) : X w mX11_look d Q 212 [some (.ref x)] st P := X_aload_n (M := mX11_look) (dX11_look_212) rfl rfl k
theorem dX11_look_213 : decode cX11_look 213 = .ok (.aload_n 0, 1) := by decide +kernel
theorem sX11_look_213 {x : Nat} (k : X w mX11_look d Q 214 [some (.ref x)] (.ref x :: st) P) : X w mX11_look d Q 213 [some (.ref x)] st P := X_aload_n (M := mX11_look) (dX11_look_213) rfl rfl k
theorem dX11_look_214 : decode cX11_look 214 = .ok (.getfield 98, 3) := by decide +kernel
theorem sX11_look_214 {a : Nat} {fs : List Value} {v : Int32} (hP : P.1 a = some (xO 9 fs)) (hv : fs[24]? = some (.int v)) (k : X w mX11_look d Q 217 ls (.int v :: st) P) : X w mX11_look d Q 214 ls (.ref a :: st) P := X_get (M := mX11_look) (j := 24) (T := TX11) (dX11_look_214) rfl (by decide) x_in11 xw_433 hP hv k
theorem dX11_look_217 : decode cX11_look 217 = .ok (.aload_n 0, 1) := by decide +kernel
theorem sX11_look_217 {x : Nat} (k : X w mX11_look d Q 218 [some (.ref x)] (.ref x :: st) P) : X w mX11_look d Q 217 [some (.ref x)] st P := X_aload_n (M := mX11_look) (dX11_look_217) rfl rfl k
theorem dX11_look_218 : decode cX11_look 218 = .ok (.getfield 95, 3) := by decide +kernel
theorem sX11_look_218 {a : Nat} {fs : List Value} {v : Int32} (hP : P.1 a = some (xO 9 fs)) (hv : fs[23]? = some (.int v)) (k : X w mX11_look d Q 221 ls (.int v :: st) P) : X w mX11_look d Q 218 ls (.ref a :: st) P := X_get (M := mX11_look) (j := 23) (T := TX11) (dX11_look_218) rfl (by decide) x_in11 xw_432 hP hv k
theorem dX11_look_221 : decode cX11_look 221 = .ok (.isub, 1) := by decide +kernel
theorem sX11_look_221 {x y : Int32} (k : X w mX11_look d Q 222 ls (.int (x - y) :: st) P) : X w mX11_look d Q 221 ls (.int y :: .int x :: st) P := X_isub (M := mX11_look) (dX11_look_221) k
theorem dX11_look_222 : decode cX11_look 222 = .ok (.bipush 8, 2) := by decide +kernel
theorem sX11_look_222 (k : X w mX11_look d Q 224 ls (.int (8 : Int32) :: st) P) : X w mX11_look d Q 222 ls st P := X_bipush (M := mX11_look) (dX11_look_222) (by decide) k
theorem dX11_look_224 : decode cX11_look 224 = .ok (.if_icmp .le 7, 3) := by decide +kernel
theorem sX11_look_224 {x y : Int32} (kt : x ≤ y → X w mX11_look d Q 231 ls st P) (kf : ¬ x ≤ y → X w mX11_look d Q 227 ls st P) : X w mX11_look d Q 224 ls (.int y :: .int x :: st) P := X_icmp_le (M := mX11_look) (dX11_look_224) (by decide) kt kf
theorem dX11_look_227 : decode cX11_look 227 = .ok (.iconst 4, 1) := by decide +kernel
theorem sX11_look_227 (k : X w mX11_look d Q 228 ls (.int (4 : Int32) :: st) P) : X w mX11_look d Q 227 ls st P := X_iconst (M := mX11_look) (dX11_look_227) (by decide) k
theorem dX11_look_228 : decode cX11_look 228 = .ok (.goto 4, 3) := by decide +kernel
theorem sX11_look_228 (k : X w mX11_look d Q 232 ls st P) : X w mX11_look d Q 228 ls st P := X_goto (M := mX11_look) (dX11_look_228) (by decide) k
theorem dX11_look_231 : decode cX11_look 231 = .ok (.iconst 1, 1) := by decide +kernel
theorem sX11_look_231 (k : X w mX11_look d Q 232 ls (.int (1 : Int32) :: st) P) : X w mX11_look d Q 231 ls st P := X_iconst (M := mX11_look) (dX11_look_231) (by decide) k
theorem dX11_look_232 : decode cX11_look 232 = .ok (.putfield 108, 3) := by decide +kernel
theorem sX11_look_232 {a : Nat} {fs : List Value} {v : Int32} (hP : P.1 a = some (xO 9 fs)) (hl : 25 < fs.length) (k : X w mX11_look d Q 235 ls st (xs P a (xO 9 (fs.set 25 (.int v))))) : X w mX11_look d Q 232 ls (.int v :: .ref a :: st) P := X_put (M := mX11_look) (j := 25) (T := TX11) (dX11_look_232) rfl (by decide) x_c11 xw_436 rfl hP rfl rfl hl k
theorem dX11_look_235 : decode cX11_look 235 = .ok (.return_, 1) := by decide +kernel
theorem sX11_look_235 (hq : Q (.returned none) P) : X w mX11_look d Q 235 ls [] P := X_vret (M := mX11_look) (dX11_look_235) rfl hq
theorem dX11_look_236 : decode cX11_look 236 = .ok (.aload_n 0, 1) := by decide +kernel
theorem sX11_look_236 {x : Nat} (k : X w mX11_look d Q 237 [some (.ref x)] (.ref x :: st) P) : X w mX11_look d Q 236 [some (.ref x)] st P := X_aload_n (M := mX11_look) (dX11_look_236) rfl rfl k
theorem dX11_look_237 : decode cX11_look 237 = .ok (.getfield 7, 3) := by decide +kernel
theorem sX11_look_237 {a : Nat} {fs : List Value} {v : Nat} (hP : P.1 a = some (xO 9 fs)) (hv : fs[2]? = some (.ref v)) (k : X w mX11_look d Q 240 ls (.ref v :: st) P) : X w mX11_look d Q 237 ls (.ref a :: st) P := X_get (M := mX11_look) (j := 2) (T := TX11) (dX11_look_237) rfl (by decide) x_in11 xw_404 hP hv k
theorem dX11_look_240 : decode cX11_look 240 = .ok (.aload_n 0, 1) := by decide +kernel
theorem sX11_look_240 {x : Nat} (k : X w mX11_look d Q 241 [some (.ref x)] (.ref x :: st) P) : X w mX11_look d Q 240 [some (.ref x)] st P := X_aload_n (M := mX11_look) (dX11_look_240) rfl rfl k
theorem dX11_look_241 : decode cX11_look 241 = .ok (.getfield 95, 3) := by decide +kernel
theorem sX11_look_241 {a : Nat} {fs : List Value} {v : Int32} (hP : P.1 a = some (xO 9 fs)) (hv : fs[23]? = some (.int v)) (k : X w mX11_look d Q 244 ls (.int v :: st) P) : X w mX11_look d Q 241 ls (.ref a :: st) P := X_get (M := mX11_look) (j := 23) (T := TX11) (dX11_look_241) rfl (by decide) x_in11 xw_432 hP hv k
theorem dX11_look_244 : decode cX11_look 244 = .ok (.iaload, 1) := by decide +kernel
theorem sX11_look_244 {a n : Nat} {f : Nat → Int32} {i : Int32} (hP : P.1 a = some (xA 0 n f)) (hi : vp_in i n) (k : X w mX11_look d Q 245 ls (.int (f i.toNatClampNeg) :: st) P) : X w mX11_look d Q 244 ls (.int i :: .ref a :: st) P := X_iald (M := mX11_look) (dX11_look_244) hP hi k
theorem dX11_look_245 : decode cX11_look 245 = .ok (.invokestatic 114, 3) := by decide +kernel
theorem sX11_look_245_g {a0 : Int32} {Qc : Outcome → xH → Prop} (hst : (st.map fun v => v.category).sum ≤ 8) (hC : xC w d mX11_isDigit [.int a0] P Qc) (kr : ∀ v P1, Qc (.returned v) P1 → X w mX11_look (d + 1) Q 248 ls (v.toList ++ st) P1) (kt : ∀ q P1, Qc (.threw q) P1 → Xt w mX11_look (d + 1) Q 245 ls st P1 q) : X w mX11_look (d + 1) Q 245 ls (.int a0 :: st) P := X_callS (M := mX11_look) (MC := mX11_isDigit) (As := [.int a0]) (dX11_look_245) calX11_isDigit xw_439 xw_440 rfl hC hst kr kt
theorem sX11_look_245 {a0 : Int32} {r : Int32} {P1 : xH} (hst : (st.map fun v => v.category).sum ≤ 8) (hC : xC w d mX11_isDigit [.int a0] P (xRet (some (.int r)) P1)) (k : X w mX11_look (d + 1) Q 248 ls (.int r :: st) P1) : X w mX11_look (d + 1) Q 245 ls (.int a0 :: st) P := X_callS (M := mX11_look) (MC := mX11_isDigit) (As := [.int a0]) (dX11_look_245) calX11_isDigit xw_439 xw_440 rfl hC hst (fun v P2 h => by obtain ⟨h1, rfl⟩ := h; cases h1; exact k) (fun q P2 h => by cases h.1)
theorem sX11_look_245_r {a0 : Int32} {r : Int32} {Rp : xH → Prop} (hst : (st.map fun v => v.category).sum ≤ 8) (hC : xC w d mX11_isDigit [.int a0] P (xRl (some (.int r)) Rp)) (k : ∀ P1, Rp P1 → X w mX11_look (d + 1) Q 248 ls (.int r :: st) P1) : X w mX11_look (d + 1) Q 245 ls (.int a0 :: st) P := X_callS (M := mX11_look) (MC := mX11_isDigit) (As := [.int a0]) (dX11_look_245) calX11_isDigit xw_439 xw_440 rfl hC hst (fun v P2 h => by obtain ⟨h1, hR⟩ := h; cases h1; exact k P2 hR) (fun q P2 h => by cases h.1)
theorem sX11_look_245_t {a0 : Int32} {q : Nat} {P1 : xH} (hst : (st.map fun v => v.category).sum ≤ 8) (hC : xC w d mX11_isDigit [.int a0] P (xThr q P1)) (hq : Q (.threw q) P1) : X w mX11_look (d + 1) Q 245 ls (.int a0 :: st) P := X_callS (M := mX11_look) (MC := mX11_isDigit) (As := [.int a0]) (dX11_look_245) calX11_isDigit xw_439 xw_440 rfl hC hst (fun v P2 h => by cases h.1) (fun q2 P2 h => by obtain ⟨h1, rfl⟩ := h; cases h1; exact Xt_out rfl hq)
theorem dX11_look_248 : decode cX11_look 248 = .ok (.ifCond .eq 111, 3) := by decide +kernel
theorem sX11_look_248 {x : Int32} (kt : x = 0 → X w mX11_look d Q 359 ls st P) (kf : ¬ x = 0 → X w mX11_look d Q 251 ls st P) : X w mX11_look d Q 248 ls (.int x :: st) P := X_if_eq (M := mX11_look) (dX11_look_248) (by decide) kt kf
theorem dX11_look_251 : decode cX11_look 251 = .ok (.aload_n 0, 1) := by decide +kernel
theorem sX11_look_251 {x : Nat} (k : X w mX11_look d Q 252 [some (.ref x)] (.ref x :: st) P) : X w mX11_look d Q 251 [some (.ref x)] st P := X_aload_n (M := mX11_look) (dX11_look_251) rfl rfl k
theorem dX11_look_252 : decode cX11_look 252 = .ok (.getfield 98, 3) := by decide +kernel
theorem sX11_look_252 {a : Nat} {fs : List Value} {v : Int32} (hP : P.1 a = some (xO 9 fs)) (hv : fs[24]? = some (.int v)) (k : X w mX11_look d Q 255 ls (.int v :: st) P) : X w mX11_look d Q 252 ls (.ref a :: st) P := X_get (M := mX11_look) (j := 24) (T := TX11) (dX11_look_252) rfl (by decide) x_in11 xw_433 hP hv k
theorem dX11_look_255 : decode cX11_look 255 = .ok (.aload_n 0, 1) := by decide +kernel
theorem sX11_look_255 {x : Nat} (k : X w mX11_look d Q 256 [some (.ref x)] (.ref x :: st) P) : X w mX11_look d Q 255 [some (.ref x)] st P := X_aload_n (M := mX11_look) (dX11_look_255) rfl rfl k
theorem dX11_look_256 : decode cX11_look 256 = .ok (.getfield 92, 3) := by decide +kernel
theorem sX11_look_256 {a : Nat} {fs : List Value} {v : Int32} (hP : P.1 a = some (xO 9 fs)) (hv : fs[1]? = some (.int v)) (k : X w mX11_look d Q 259 ls (.int v :: st) P) : X w mX11_look d Q 256 ls (.ref a :: st) P := X_get (M := mX11_look) (j := 1) (T := TX11) (dX11_look_256) rfl (by decide) x_in11 xw_431 hP hv k
theorem dX11_look_259 : decode cX11_look 259 = .ok (.if_icmp .ge 76, 3) := by decide +kernel
theorem sX11_look_259 {x y : Int32} (kt : y ≤ x → X w mX11_look d Q 335 ls st P) (kf : ¬ y ≤ x → X w mX11_look d Q 262 ls st P) : X w mX11_look d Q 259 ls (.int y :: .int x :: st) P := X_icmp_ge (M := mX11_look) (dX11_look_259) (by decide) kt kf
theorem dX11_look_262 : decode cX11_look 262 = .ok (.aload_n 0, 1) := by decide +kernel
theorem sX11_look_262 {x : Nat} (k : X w mX11_look d Q 263 [some (.ref x)] (.ref x :: st) P) : X w mX11_look d Q 262 [some (.ref x)] st P := X_aload_n (M := mX11_look) (dX11_look_262) rfl rfl k
theorem dX11_look_263 : decode cX11_look 263 = .ok (.getfield 7, 3) := by decide +kernel
theorem sX11_look_263 {a : Nat} {fs : List Value} {v : Nat} (hP : P.1 a = some (xO 9 fs)) (hv : fs[2]? = some (.ref v)) (k : X w mX11_look d Q 266 ls (.ref v :: st) P) : X w mX11_look d Q 263 ls (.ref a :: st) P := X_get (M := mX11_look) (j := 2) (T := TX11) (dX11_look_263) rfl (by decide) x_in11 xw_404 hP hv k
theorem dX11_look_266 : decode cX11_look 266 = .ok (.aload_n 0, 1) := by decide +kernel
theorem sX11_look_266 {x : Nat} (k : X w mX11_look d Q 267 [some (.ref x)] (.ref x :: st) P) : X w mX11_look d Q 266 [some (.ref x)] st P := X_aload_n (M := mX11_look) (dX11_look_266) rfl rfl k
theorem dX11_look_267 : decode cX11_look 267 = .ok (.getfield 98, 3) := by decide +kernel
theorem sX11_look_267 {a : Nat} {fs : List Value} {v : Int32} (hP : P.1 a = some (xO 9 fs)) (hv : fs[24]? = some (.int v)) (k : X w mX11_look d Q 270 ls (.int v :: st) P) : X w mX11_look d Q 267 ls (.ref a :: st) P := X_get (M := mX11_look) (j := 24) (T := TX11) (dX11_look_267) rfl (by decide) x_in11 xw_433 hP hv k
theorem dX11_look_270 : decode cX11_look 270 = .ok (.iaload, 1) := by decide +kernel
theorem sX11_look_270 {a n : Nat} {f : Nat → Int32} {i : Int32} (hP : P.1 a = some (xA 0 n f)) (hi : vp_in i n) (k : X w mX11_look d Q 271 ls (.int (f i.toNatClampNeg) :: st) P) : X w mX11_look d Q 270 ls (.int i :: .ref a :: st) P := X_iald (M := mX11_look) (dX11_look_270) hP hi k
theorem dX11_look_271 : decode cX11_look 271 = .ok (.invokestatic 114, 3) := by decide +kernel
theorem sX11_look_271_g {a0 : Int32} {Qc : Outcome → xH → Prop} (hst : (st.map fun v => v.category).sum ≤ 8) (hC : xC w d mX11_isDigit [.int a0] P Qc) (kr : ∀ v P1, Qc (.returned v) P1 → X w mX11_look (d + 1) Q 274 ls (v.toList ++ st) P1) (kt : ∀ q P1, Qc (.threw q) P1 → Xt w mX11_look (d + 1) Q 271 ls st P1 q) : X w mX11_look (d + 1) Q 271 ls (.int a0 :: st) P := X_callS (M := mX11_look) (MC := mX11_isDigit) (As := [.int a0]) (dX11_look_271) calX11_isDigit xw_439 xw_440 rfl hC hst kr kt
theorem sX11_look_271 {a0 : Int32} {r : Int32} {P1 : xH} (hst : (st.map fun v => v.category).sum ≤ 8) (hC : xC w d mX11_isDigit [.int a0] P (xRet (some (.int r)) P1)) (k : X w mX11_look (d + 1) Q 274 ls (.int r :: st) P1) : X w mX11_look (d + 1) Q 271 ls (.int a0 :: st) P := X_callS (M := mX11_look) (MC := mX11_isDigit) (As := [.int a0]) (dX11_look_271) calX11_isDigit xw_439 xw_440 rfl hC hst (fun v P2 h => by obtain ⟨h1, rfl⟩ := h; cases h1; exact k) (fun q P2 h => by cases h.1)
theorem sX11_look_271_r {a0 : Int32} {r : Int32} {Rp : xH → Prop} (hst : (st.map fun v => v.category).sum ≤ 8) (hC : xC w d mX11_isDigit [.int a0] P (xRl (some (.int r)) Rp)) (k : ∀ P1, Rp P1 → X w mX11_look (d + 1) Q 274 ls (.int r :: st) P1) : X w mX11_look (d + 1) Q 271 ls (.int a0 :: st) P := X_callS (M := mX11_look) (MC := mX11_isDigit) (As := [.int a0]) (dX11_look_271) calX11_isDigit xw_439 xw_440 rfl hC hst (fun v P2 h => by obtain ⟨h1, hR⟩ := h; cases h1; exact k P2 hR) (fun q P2 h => by cases h.1)
theorem sX11_look_271_t {a0 : Int32} {q : Nat} {P1 : xH} (hst : (st.map fun v => v.category).sum ≤ 8) (hC : xC w d mX11_isDigit [.int a0] P (xThr q P1)) (hq : Q (.threw q) P1) : X w mX11_look (d + 1) Q 271 ls (.int a0 :: st) P := X_callS (M := mX11_look) (MC := mX11_isDigit) (As := [.int a0]) (dX11_look_271) calX11_isDigit xw_439 xw_440 rfl hC hst (fun v P2 h => by cases h.1) (fun q2 P2 h => by obtain ⟨h1, rfl⟩ := h; cases h1; exact Xt_out rfl hq)
theorem dX11_look_274 : decode cX11_look 274 = .ok (.ifCond .eq 61, 3) := by decide +kernel
theorem sX11_look_274 {x : Int32} (kt : x = 0 → X w mX11_look d Q 335 ls st P) (kf : ¬ x = 0 → X w mX11_look d Q 277 ls st P) : X w mX11_look d Q 274 ls (.int x :: st) P := X_if_eq (M := mX11_look) (dX11_look_274) (by decide) kt kf
theorem dX11_look_277 : decode cX11_look 277 = .ok (.aload_n 0, 1) := by decide +kernel
theorem sX11_look_277 {x : Nat} (k : X w mX11_look d Q 278 [some (.ref x)] (.ref x :: st) P) : X w mX11_look d Q 277 [some (.ref x)] st P := X_aload_n (M := mX11_look) (dX11_look_277) rfl rfl k
theorem dX11_look_278 : decode cX11_look 278 = .ok (.aload_n 0, 1) := by decide +kernel
theorem sX11_look_278 {x : Nat} (k : X w mX11_look d Q 279 [some (.ref x)] (.ref x :: st) P) : X w mX11_look d Q 278 [some (.ref x)] st P := X_aload_n (M := mX11_look) (dX11_look_278) rfl rfl k
theorem dX11_look_279 : decode cX11_look 279 = .ok (.getfield 98, 3) := by decide +kernel
theorem sX11_look_279 {a : Nat} {fs : List Value} {v : Int32} (hP : P.1 a = some (xO 9 fs)) (hv : fs[24]? = some (.int v)) (k : X w mX11_look d Q 282 ls (.int v :: st) P) : X w mX11_look d Q 279 ls (.ref a :: st) P := X_get (M := mX11_look) (j := 24) (T := TX11) (dX11_look_279) rfl (by decide) x_in11 xw_433 hP hv k
theorem dX11_look_282 : decode cX11_look 282 = .ok (.aload_n 0, 1) := by decide +kernel
theorem sX11_look_282 {x : Nat} (k : X w mX11_look d Q 283 [some (.ref x)] (.ref x :: st) P) : X w mX11_look d Q 282 [some (.ref x)] st P := X_aload_n (M := mX11_look) (dX11_look_282) rfl rfl k
theorem dX11_look_283 : decode cX11_look 283 = .ok (.getfield 95, 3) := by decide +kernel
theorem sX11_look_283 {a : Nat} {fs : List Value} {v : Int32} (hP : P.1 a = some (xO 9 fs)) (hv : fs[23]? = some (.int v)) (k : X w mX11_look d Q 286 ls (.int v :: st) P) : X w mX11_look d Q 283 ls (.ref a :: st) P := X_get (M := mX11_look) (j := 23) (T := TX11) (dX11_look_283) rfl (by decide) x_in11 xw_432 hP hv k
theorem dX11_look_286 : decode cX11_look 286 = .ok (.isub, 1) := by decide +kernel
theorem sX11_look_286 {x y : Int32} (k : X w mX11_look d Q 287 ls (.int (x - y) :: st) P) : X w mX11_look d Q 286 ls (.int y :: .int x :: st) P := X_isub (M := mX11_look) (dX11_look_286) k
theorem dX11_look_287 : decode cX11_look 287 = .ok (.bipush 6, 2) := by decide +kernel
theorem sX11_look_287 (k : X w mX11_look d Q 289 ls (.int (6 : Int32) :: st) P) : X w mX11_look d Q 287 ls st P := X_bipush (M := mX11_look) (dX11_look_287) (by decide) k
theorem dX11_look_289 : decode cX11_look 289 = .ok (.if_icmp .ge 26, 3) := by decide +kernel
theorem sX11_look_289 {x y : Int32} (kt : y ≤ x → X w mX11_look d Q 315 ls st P) (kf : ¬ y ≤ x → X w mX11_look d Q 292 ls st P) : X w mX11_look d Q 289 ls (.int y :: .int x :: st) P := X_icmp_ge (M := mX11_look) (dX11_look_289) (by decide) kt kf
theorem dX11_look_292 : decode cX11_look 292 = .ok (.bipush 10, 2) := by decide +kernel
theorem sX11_look_292 (k : X w mX11_look d Q 294 ls (.int (10 : Int32) :: st) P) : X w mX11_look d Q 292 ls st P := X_bipush (M := mX11_look) (dX11_look_292) (by decide) k
theorem dX11_look_294 : decode cX11_look 294 = .ok (.aload_n 0, 1) := by decide +kernel
theorem sX11_look_294 {x : Nat} (k : X w mX11_look d Q 295 [some (.ref x)] (.ref x :: st) P) : X w mX11_look d Q 294 [some (.ref x)] st P := X_aload_n (M := mX11_look) (dX11_look_294) rfl rfl k
theorem dX11_look_295 : decode cX11_look 295 = .ok (.getfield 105, 3) := by decide +kernel
theorem sX11_look_295 {a : Nat} {fs : List Value} {v : Int32} (hP : P.1 a = some (xO 9 fs)) (hv : fs[27]? = some (.int v)) (k : X w mX11_look d Q 298 ls (.int v :: st) P) : X w mX11_look d Q 295 ls (.ref a :: st) P := X_get (M := mX11_look) (j := 27) (T := TX11) (dX11_look_295) rfl (by decide) x_in11 xw_435 hP hv k
theorem dX11_look_298 : decode cX11_look 298 = .ok (.imul, 1) := by decide +kernel
theorem sX11_look_298 {x y : Int32} (k : X w mX11_look d Q 299 ls (.int (x * y) :: st) P) : X w mX11_look d Q 298 ls (.int y :: .int x :: st) P := X_imul (M := mX11_look) (dX11_look_298) k
theorem dX11_look_299 : decode cX11_look 299 = .ok (.aload_n 0, 1) := by decide +kernel
theorem sX11_look_299 {x : Nat} (k : X w mX11_look d Q 300 [some (.ref x)] (.ref x :: st) P) : X w mX11_look d Q 299 [some (.ref x)] st P := X_aload_n (M := mX11_look) (dX11_look_299) rfl rfl k
theorem dX11_look_300 : decode cX11_look 300 = .ok (.getfield 7, 3) := by decide +kernel
theorem sX11_look_300 {a : Nat} {fs : List Value} {v : Nat} (hP : P.1 a = some (xO 9 fs)) (hv : fs[2]? = some (.ref v)) (k : X w mX11_look d Q 303 ls (.ref v :: st) P) : X w mX11_look d Q 300 ls (.ref a :: st) P := X_get (M := mX11_look) (j := 2) (T := TX11) (dX11_look_300) rfl (by decide) x_in11 xw_404 hP hv k
theorem dX11_look_303 : decode cX11_look 303 = .ok (.aload_n 0, 1) := by decide +kernel
theorem sX11_look_303 {x : Nat} (k : X w mX11_look d Q 304 [some (.ref x)] (.ref x :: st) P) : X w mX11_look d Q 303 [some (.ref x)] st P := X_aload_n (M := mX11_look) (dX11_look_303) rfl rfl k
theorem dX11_look_304 : decode cX11_look 304 = .ok (.getfield 98, 3) := by decide +kernel
theorem sX11_look_304 {a : Nat} {fs : List Value} {v : Int32} (hP : P.1 a = some (xO 9 fs)) (hv : fs[24]? = some (.int v)) (k : X w mX11_look d Q 307 ls (.int v :: st) P) : X w mX11_look d Q 304 ls (.ref a :: st) P := X_get (M := mX11_look) (j := 24) (T := TX11) (dX11_look_304) rfl (by decide) x_in11 xw_433 hP hv k
theorem dX11_look_307 : decode cX11_look 307 = .ok (.iaload, 1) := by decide +kernel
theorem sX11_look_307 {a n : Nat} {f : Nat → Int32} {i : Int32} (hP : P.1 a = some (xA 0 n f)) (hi : vp_in i n) (k : X w mX11_look d Q 308 ls (.int (f i.toNatClampNeg) :: st) P) : X w mX11_look d Q 307 ls (.int i :: .ref a :: st) P := X_iald (M := mX11_look) (dX11_look_307) hP hi k
theorem dX11_look_308 : decode cX11_look 308 = .ok (.iadd, 1) := by decide +kernel
theorem sX11_look_308 {x y : Int32} (k : X w mX11_look d Q 309 ls (.int (x + y) :: st) P) : X w mX11_look d Q 308 ls (.int y :: .int x :: st) P := X_iadd (M := mX11_look) (dX11_look_308) k
theorem dX11_look_309 : decode cX11_look 309 = .ok (.bipush 48, 2) := by decide +kernel
theorem sX11_look_309 (k : X w mX11_look d Q 311 ls (.int (48 : Int32) :: st) P) : X w mX11_look d Q 309 ls st P := X_bipush (M := mX11_look) (dX11_look_309) (by decide) k
theorem dX11_look_311 : decode cX11_look 311 = .ok (.isub, 1) := by decide +kernel
theorem sX11_look_311 {x y : Int32} (k : X w mX11_look d Q 312 ls (.int (x - y) :: st) P) : X w mX11_look d Q 311 ls (.int y :: .int x :: st) P := X_isub (M := mX11_look) (dX11_look_311) k
theorem dX11_look_312 : decode cX11_look 312 = .ok (.goto 7, 3) := by decide +kernel
theorem sX11_look_312 (k : X w mX11_look d Q 319 ls st P) : X w mX11_look d Q 312 ls st P := X_goto (M := mX11_look) (dX11_look_312) (by decide) k
theorem dX11_look_315 : decode cX11_look 315 = .ok (.aload_n 0, 1) := by decide +kernel
theorem sX11_look_315 {x : Nat} (k : X w mX11_look d Q 316 [some (.ref x)] (.ref x :: st) P) : X w mX11_look d Q 315 [some (.ref x)] st P := X_aload_n (M := mX11_look) (dX11_look_315) rfl rfl k
theorem dX11_look_316 : decode cX11_look 316 = .ok (.getfield 105, 3) := by decide +kernel
theorem sX11_look_316 {a : Nat} {fs : List Value} {v : Int32} (hP : P.1 a = some (xO 9 fs)) (hv : fs[27]? = some (.int v)) (k : X w mX11_look d Q 319 ls (.int v :: st) P) : X w mX11_look d Q 316 ls (.ref a :: st) P := X_get (M := mX11_look) (j := 27) (T := TX11) (dX11_look_316) rfl (by decide) x_in11 xw_435 hP hv k
theorem dX11_look_319 : decode cX11_look 319 = .ok (.putfield 105, 3) := by decide +kernel
theorem sX11_look_319 {a : Nat} {fs : List Value} {v : Int32} (hP : P.1 a = some (xO 9 fs)) (hl : 27 < fs.length) (k : X w mX11_look d Q 322 ls st (xs P a (xO 9 (fs.set 27 (.int v))))) : X w mX11_look d Q 319 ls (.int v :: .ref a :: st) P := X_put (M := mX11_look) (j := 27) (T := TX11) (dX11_look_319) rfl (by decide) x_c11 xw_435 rfl hP rfl rfl hl k
theorem dX11_look_322 : decode cX11_look 322 = .ok (.aload_n 0, 1) := by decide +kernel
theorem sX11_look_322 {x : Nat} (k : X w mX11_look d Q 323 [some (.ref x)] (.ref x :: st) P) : X w mX11_look d Q 322 [some (.ref x)] st P := X_aload_n (M := mX11_look) (dX11_look_322) rfl rfl k
theorem dX11_look_323 : decode cX11_look 323 = .ok (.dup, 1) := by decide +kernel
theorem sX11_look_323 {v : Value} (hv : v.category = 1) (k : X w mX11_look d Q 324 ls (v :: v :: st) P) : X w mX11_look d Q 323 ls (v :: st) P := X_dup (M := mX11_look) (dX11_look_323) hv k
theorem dX11_look_324 : decode cX11_look 324 = .ok (.getfield 98, 3) := by decide +kernel
theorem sX11_look_324 {a : Nat} {fs : List Value} {v : Int32} (hP : P.1 a = some (xO 9 fs)) (hv : fs[24]? = some (.int v)) (k : X w mX11_look d Q 327 ls (.int v :: st) P) : X w mX11_look d Q 324 ls (.ref a :: st) P := X_get (M := mX11_look) (j := 24) (T := TX11) (dX11_look_324) rfl (by decide) x_in11 xw_433 hP hv k
theorem dX11_look_327 : decode cX11_look 327 = .ok (.iconst 1, 1) := by decide +kernel
theorem sX11_look_327 (k : X w mX11_look d Q 328 ls (.int (1 : Int32) :: st) P) : X w mX11_look d Q 327 ls st P := X_iconst (M := mX11_look) (dX11_look_327) (by decide) k
theorem dX11_look_328 : decode cX11_look 328 = .ok (.iadd, 1) := by decide +kernel
theorem sX11_look_328 {x y : Int32} (k : X w mX11_look d Q 329 ls (.int (x + y) :: st) P) : X w mX11_look d Q 328 ls (.int y :: .int x :: st) P := X_iadd (M := mX11_look) (dX11_look_328) k
theorem dX11_look_329 : decode cX11_look 329 = .ok (.putfield 98, 3) := by decide +kernel
theorem sX11_look_329 {a : Nat} {fs : List Value} {v : Int32} (hP : P.1 a = some (xO 9 fs)) (hl : 24 < fs.length) (k : X w mX11_look d Q 332 ls st (xs P a (xO 9 (fs.set 24 (.int v))))) : X w mX11_look d Q 329 ls (.int v :: .ref a :: st) P := X_put (M := mX11_look) (j := 24) (T := TX11) (dX11_look_329) rfl (by decide) x_c11 xw_433 rfl hP rfl rfl hl k
theorem dX11_look_332 : decode cX11_look 332 = .ok (.goto (-81), 3) := by decide +kernel
theorem sX11_look_332 (k : X w mX11_look d Q 251 ls st P) : X w mX11_look d Q 332 ls st P := X_goto (M := mX11_look) (dX11_look_332) (by decide) k
theorem dX11_look_335 : decode cX11_look 335 = .ok (.aload_n 0, 1) := by decide +kernel
theorem sX11_look_335 {x : Nat} (k : X w mX11_look d Q 336 [some (.ref x)] (.ref x :: st) P) : X w mX11_look d Q 335 [some (.ref x)] st P := X_aload_n (M := mX11_look) (dX11_look_335) rfl rfl k
theorem dX11_look_336 : decode cX11_look 336 = .ok (.aload_n 0, 1) := by decide +kernel
theorem sX11_look_336 {x : Nat} (k : X w mX11_look d Q 337 [some (.ref x)] (.ref x :: st) P) : X w mX11_look d Q 336 [some (.ref x)] st P := X_aload_n (M := mX11_look) (dX11_look_336) rfl rfl k
theorem dX11_look_337 : decode cX11_look 337 = .ok (.getfield 98, 3) := by decide +kernel
theorem sX11_look_337 {a : Nat} {fs : List Value} {v : Int32} (hP : P.1 a = some (xO 9 fs)) (hv : fs[24]? = some (.int v)) (k : X w mX11_look d Q 340 ls (.int v :: st) P) : X w mX11_look d Q 337 ls (.ref a :: st) P := X_get (M := mX11_look) (j := 24) (T := TX11) (dX11_look_337) rfl (by decide) x_in11 xw_433 hP hv k
theorem dX11_look_340 : decode cX11_look 340 = .ok (.aload_n 0, 1) := by decide +kernel
theorem sX11_look_340 {x : Nat} (k : X w mX11_look d Q 341 [some (.ref x)] (.ref x :: st) P) : X w mX11_look d Q 340 [some (.ref x)] st P := X_aload_n (M := mX11_look) (dX11_look_340) rfl rfl k
theorem dX11_look_341 : decode cX11_look 341 = .ok (.getfield 95, 3) := by decide +kernel
theorem sX11_look_341 {a : Nat} {fs : List Value} {v : Int32} (hP : P.1 a = some (xO 9 fs)) (hv : fs[23]? = some (.int v)) (k : X w mX11_look d Q 344 ls (.int v :: st) P) : X w mX11_look d Q 341 ls (.ref a :: st) P := X_get (M := mX11_look) (j := 23) (T := TX11) (dX11_look_341) rfl (by decide) x_in11 xw_432 hP hv k
theorem dX11_look_344 : decode cX11_look 344 = .ok (.isub, 1) := by decide +kernel
theorem sX11_look_344 {x y : Int32} (k : X w mX11_look d Q 345 ls (.int (x - y) :: st) P) : X w mX11_look d Q 344 ls (.int y :: .int x :: st) P := X_isub (M := mX11_look) (dX11_look_344) k
theorem dX11_look_345 : decode cX11_look 345 = .ok (.bipush 6, 2) := by decide +kernel
theorem sX11_look_345 (k : X w mX11_look d Q 347 ls (.int (6 : Int32) :: st) P) : X w mX11_look d Q 345 ls st P := X_bipush (M := mX11_look) (dX11_look_345) (by decide) k
theorem dX11_look_347 : decode cX11_look 347 = .ok (.if_icmp .le 7, 3) := by decide +kernel
theorem sX11_look_347 {x y : Int32} (kt : x ≤ y → X w mX11_look d Q 354 ls st P) (kf : ¬ x ≤ y → X w mX11_look d Q 350 ls st P) : X w mX11_look d Q 347 ls (.int y :: .int x :: st) P := X_icmp_le (M := mX11_look) (dX11_look_347) (by decide) kt kf
theorem dX11_look_350 : decode cX11_look 350 = .ok (.iconst 4, 1) := by decide +kernel
theorem sX11_look_350 (k : X w mX11_look d Q 351 ls (.int (4 : Int32) :: st) P) : X w mX11_look d Q 350 ls st P := X_iconst (M := mX11_look) (dX11_look_350) (by decide) k
theorem dX11_look_351 : decode cX11_look 351 = .ok (.goto 4, 3) := by decide +kernel
theorem sX11_look_351 (k : X w mX11_look d Q 355 ls st P) : X w mX11_look d Q 351 ls st P := X_goto (M := mX11_look) (dX11_look_351) (by decide) k
theorem dX11_look_354 : decode cX11_look 354 = .ok (.iconst 2, 1) := by decide +kernel
theorem sX11_look_354 (k : X w mX11_look d Q 355 ls (.int (2 : Int32) :: st) P) : X w mX11_look d Q 354 ls st P := X_iconst (M := mX11_look) (dX11_look_354) (by decide) k
theorem dX11_look_355 : decode cX11_look 355 = .ok (.putfield 108, 3) := by decide +kernel
theorem sX11_look_355 {a : Nat} {fs : List Value} {v : Int32} (hP : P.1 a = some (xO 9 fs)) (hl : 25 < fs.length) (k : X w mX11_look d Q 358 ls st (xs P a (xO 9 (fs.set 25 (.int v))))) : X w mX11_look d Q 355 ls (.int v :: .ref a :: st) P := X_put (M := mX11_look) (j := 25) (T := TX11) (dX11_look_355) rfl (by decide) x_c11 xw_436 rfl hP rfl rfl hl k
theorem dX11_look_358 : decode cX11_look 358 = .ok (.return_, 1) := by decide +kernel
theorem sX11_look_358 (hq : Q (.returned none) P) : X w mX11_look d Q 358 ls [] P := X_vret (M := mX11_look) (dX11_look_358) rfl hq
theorem dX11_look_359 : decode cX11_look 359 = .ok (.aload_n 0, 1) := by decide +kernel
theorem sX11_look_359 {x : Nat} (k : X w mX11_look d Q 360 [some (.ref x)] (.ref x :: st) P) : X w mX11_look d Q 359 [some (.ref x)] st P := X_aload_n (M := mX11_look) (dX11_look_359) rfl rfl k
theorem dX11_look_360 : decode cX11_look 360 = .ok (.aload_n 0, 1) := by decide +kernel
theorem sX11_look_360 {x : Nat} (k : X w mX11_look d Q 361 [some (.ref x)] (.ref x :: st) P) : X w mX11_look d Q 360 [some (.ref x)] st P := X_aload_n (M := mX11_look) (dX11_look_360) rfl rfl k
theorem dX11_look_361 : decode cX11_look 361 = .ok (.getfield 95, 3) := by decide +kernel
theorem sX11_look_361 {a : Nat} {fs : List Value} {v : Int32} (hP : P.1 a = some (xO 9 fs)) (hv : fs[23]? = some (.int v)) (k : X w mX11_look d Q 364 ls (.int v :: st) P) : X w mX11_look d Q 361 ls (.ref a :: st) P := X_get (M := mX11_look) (j := 23) (T := TX11) (dX11_look_361) rfl (by decide) x_in11 xw_432 hP hv k
theorem dX11_look_364 : decode cX11_look 364 = .ok (.iconst 1, 1) := by decide +kernel
theorem sX11_look_364 (k : X w mX11_look d Q 365 ls (.int (1 : Int32) :: st) P) : X w mX11_look d Q 364 ls st P := X_iconst (M := mX11_look) (dX11_look_364) (by decide) k
theorem dX11_look_365 : decode cX11_look 365 = .ok (.iadd, 1) := by decide +kernel
theorem sX11_look_365 {x y : Int32} (k : X w mX11_look d Q 366 ls (.int (x + y) :: st) P) : X w mX11_look d Q 365 ls (.int y :: .int x :: st) P := X_iadd (M := mX11_look) (dX11_look_365) k
theorem dX11_look_366 : decode cX11_look 366 = .ok (.putfield 98, 3) := by decide +kernel
theorem sX11_look_366 {a : Nat} {fs : List Value} {v : Int32} (hP : P.1 a = some (xO 9 fs)) (hl : 24 < fs.length) (k : X w mX11_look d Q 369 ls st (xs P a (xO 9 (fs.set 24 (.int v))))) : X w mX11_look d Q 366 ls (.int v :: .ref a :: st) P := X_put (M := mX11_look) (j := 24) (T := TX11) (dX11_look_366) rfl (by decide) x_c11 xw_433 rfl hP rfl rfl hl k
theorem dX11_look_369 : decode cX11_look 369 = .ok (.aload_n 0, 1) := by decide +kernel
theorem sX11_look_369 {x : Nat} (k : X w mX11_look d Q 370 [some (.ref x)] (.ref x :: st) P) : X w mX11_look d Q 369 [some (.ref x)] st P := X_aload_n (M := mX11_look) (dX11_look_369) rfl rfl k
theorem dX11_look_370 : decode cX11_look 370 = .ok (.iconst 3, 1) := by decide +kernel
theorem sX11_look_370 (k : X w mX11_look d Q 371 ls (.int (3 : Int32) :: st) P) : X w mX11_look d Q 370 ls st P := X_iconst (M := mX11_look) (dX11_look_370) (by decide) k
theorem dX11_look_371 : decode cX11_look 371 = .ok (.putfield 108, 3) := by decide +kernel
theorem sX11_look_371 {a : Nat} {fs : List Value} {v : Int32} (hP : P.1 a = some (xO 9 fs)) (hl : 25 < fs.length) (k : X w mX11_look d Q 374 ls st (xs P a (xO 9 (fs.set 25 (.int v))))) : X w mX11_look d Q 371 ls (.int v :: .ref a :: st) P := X_put (M := mX11_look) (j := 25) (T := TX11) (dX11_look_371) rfl (by decide) x_c11 xw_436 rfl hP rfl rfl hl k
theorem dX11_look_374 : decode cX11_look 374 = .ok (.return_, 1) := by decide +kernel
theorem sX11_look_374 (hq : Q (.returned none) P) : X w mX11_look d Q 374 ls [] P := X_vret (M := mX11_look) (dX11_look_374) rfl hq
theorem dX11_go_0 : decode cX11_go 0 = .ok (.aload_n 0, 1) := by decide +kernel
theorem sX11_go_0 {x : Nat} (k : X w mX11_go d Q 1 [some (.ref x)] (.ref x :: st) P) : X w mX11_go d Q 0 [some (.ref x)] st P := X_aload_n (M := mX11_go) (dX11_go_0) rfl rfl k
theorem dX11_go_1 : decode cX11_go 1 = .ok (.getfield 117, 3) := by decide +kernel
theorem sX11_go_1 {a : Nat} {fs : List Value} {v : Int32} (hP : P.1 a = some (xO 9 fs)) (hv : fs[28]? = some (.int v)) (k : X w mX11_go d Q 4 ls (.int v :: st) P) : X w mX11_go d Q 1 ls (.ref a :: st) P := X_get (M := mX11_go) (j := 28) (T := TX11) (dX11_go_1) rfl (by decide) x_in11 xw_441 hP hv k
theorem dX11_go_4 : decode cX11_go 4 = .ok (.ifCond .eq 15, 3) := by decide +kernel
theorem sX11_go_4 {x : Int32} (kt : x = 0 → X w mX11_go d Q 19 ls st P) (kf : ¬ x = 0 → X w mX11_go d Q 7 ls st P) : X w mX11_go d Q 4 ls (.int x :: st) P := X_if_eq (M := mX11_go) (dX11_go_4) (by decide) kt kf
theorem dX11_go_7 : decode cX11_go 7 = .ok (.aload_n 0, 1) := by decide +kernel
theorem sX11_go_7 {x : Nat} (k : X w mX11_go d Q 8 [some (.ref x)] (.ref x :: st) P) : X w mX11_go d Q 7 [some (.ref x)] st P := X_aload_n (M := mX11_go) (dX11_go_7) rfl rfl k
theorem dX11_go_8 : decode cX11_go 8 = .ok (.aload_n 0, 1) := by decide +kernel
theorem sX11_go_8 {x : Nat} (k : X w mX11_go d Q 9 [some (.ref x)] (.ref x :: st) P) : X w mX11_go d Q 8 [some (.ref x)] st P := X_aload_n (M := mX11_go) (dX11_go_8) rfl rfl k
theorem dX11_go_9 : decode cX11_go 9 = .ok (.getfield 98, 3) := by decide +kernel
theorem sX11_go_9 {a : Nat} {fs : List Value} {v : Int32} (hP : P.1 a = some (xO 9 fs)) (hv : fs[24]? = some (.int v)) (k : X w mX11_go d Q 12 ls (.int v :: st) P) : X w mX11_go d Q 9 ls (.ref a :: st) P := X_get (M := mX11_go) (j := 24) (T := TX11) (dX11_go_9) rfl (by decide) x_in11 xw_433 hP hv k
theorem dX11_go_12 : decode cX11_go 12 = .ok (.putfield 95, 3) := by decide +kernel
theorem sX11_go_12 {a : Nat} {fs : List Value} {v : Int32} (hP : P.1 a = some (xO 9 fs)) (hl : 23 < fs.length) (k : X w mX11_go d Q 15 ls st (xs P a (xO 9 (fs.set 23 (.int v))))) : X w mX11_go d Q 12 ls (.int v :: .ref a :: st) P := X_put (M := mX11_go) (j := 23) (T := TX11) (dX11_go_12) rfl (by decide) x_c11 xw_432 rfl hP rfl rfl hl k
theorem dX11_go_15 : decode cX11_go 15 = .ok (.aload_n 0, 1) := by decide +kernel
theorem sX11_go_15 {x : Nat} (k : X w mX11_go d Q 16 [some (.ref x)] (.ref x :: st) P) : X w mX11_go d Q 15 [some (.ref x)] st P := X_aload_n (M := mX11_go) (dX11_go_15) rfl rfl k
theorem dX11_go_16 : decode cX11_go 16 = .ok (.invokevirtual 121, 3) := by decide +kernel
theorem sX11_go_16_g {b : Nat} {fs : List Value}  {Qc : Outcome → xH → Prop} (hst : (st.map fun v => v.category).sum ≤ 8) (hP : P.1 b = some (xO 9 fs)) (hC : xC w d mX11_look [.ref b] P Qc) (kr : ∀ v P1, Qc (.returned v) P1 → X w mX11_go (d + 1) Q 19 ls (v.toList ++ st) P1) (kt : ∀ q P1, Qc (.threw q) P1 → Xt w mX11_go (d + 1) Q 16 ls st P1 q) : X w mX11_go (d + 1) Q 16 ls (.ref b :: st) P := X_callV (M := mX11_go) (MC := mX11_look) (As := []) (T := TX11) (dX11_go_16) calX11_look xw_442 xw_443 xw_444 rfl rfl hP hC hst kr kt
theorem sX11_go_16 {b : Nat} {fs : List Value}  {P1 : xH} (hst : (st.map fun v => v.category).sum ≤ 8) (hP : P.1 b = some (xO 9 fs)) (hC : xC w d mX11_look [.ref b] P (xRet none P1)) (k : X w mX11_go (d + 1) Q 19 ls st P1) : X w mX11_go (d + 1) Q 16 ls (.ref b :: st) P := X_callV (M := mX11_go) (MC := mX11_look) (As := []) (T := TX11) (dX11_go_16) calX11_look xw_442 xw_443 xw_444 rfl rfl hP hC hst (fun v P2 h => by obtain ⟨h1, rfl⟩ := h; cases h1; exact k) (fun q P2 h => by cases h.1)
theorem sX11_go_16_r {b : Nat} {fs : List Value}  {Rp : xH → Prop} (hst : (st.map fun v => v.category).sum ≤ 8) (hP : P.1 b = some (xO 9 fs)) (hC : xC w d mX11_look [.ref b] P (xRl none Rp)) (k : ∀ P1, Rp P1 → X w mX11_go (d + 1) Q 19 ls st P1) : X w mX11_go (d + 1) Q 16 ls (.ref b :: st) P := X_callV (M := mX11_go) (MC := mX11_look) (As := []) (T := TX11) (dX11_go_16) calX11_look xw_442 xw_443 xw_444 rfl rfl hP hC hst (fun v P2 h => by obtain ⟨h1, hR⟩ := h; cases h1; exact k P2 hR) (fun q P2 h => by cases h.1)
theorem sX11_go_16_t {b : Nat} {fs : List Value}  {q : Nat} {P1 : xH} (hst : (st.map fun v => v.category).sum ≤ 8) (hP : P.1 b = some (xO 9 fs)) (hC : xC w d mX11_look [.ref b] P (xThr q P1)) (hq : Q (.threw q) P1) : X w mX11_go (d + 1) Q 16 ls (.ref b :: st) P := X_callV (M := mX11_go) (MC := mX11_look) (As := []) (T := TX11) (dX11_go_16) calX11_look xw_442 xw_443 xw_444 rfl rfl hP hC hst (fun v P2 h => by cases h.1) (fun q2 P2 h => by obtain ⟨h1, rfl⟩ := h; cases h1; exact Xt_out rfl hq)
theorem dX11_go_19 : decode cX11_go 19 = .ok (.return_, 1) := by decide +kernel
theorem sX11_go_19 (hq : Q (.returned none) P) : X w mX11_go d Q 19 ls [] P := X_vret (M := mX11_go) (dX11_go_19) rfl hq
theorem dX11_need_0 : decode cX11_need 0 = .ok (.aload_n 0, 1) := by decide +kernel
theorem sX11_need_0 {l1 : Option Value} {x : Nat} (k : X w mX11_need d Q 1 [some (.ref x), l1] (.ref x :: st) P) : X w mX11_need d Q 0 [some (.ref x), l1] st P := X_aload_n (M := mX11_need) (dX11_need_0) rfl rfl k
theorem dX11_need_1 : decode cX11_need 1 = .ok (.aload_n 0, 1) := by decide +kernel
theorem sX11_need_1 {l1 : Option Value} {x : Nat} (k : X w mX11_need d Q 2 [some (.ref x), l1] (.ref x :: st) P) : X w mX11_need d Q 1 [some (.ref x), l1] st P := X_aload_n (M := mX11_need) (dX11_need_1) rfl rfl k
theorem dX11_need_2 : decode cX11_need 2 = .ok (.getfield 117, 3) := by decide +kernel
theorem sX11_need_2 {a : Nat} {fs : List Value} {v : Int32} (hP : P.1 a = some (xO 9 fs)) (hv : fs[28]? = some (.int v)) (k : X w mX11_need d Q 5 ls (.int v :: st) P) : X w mX11_need d Q 2 ls (.ref a :: st) P := X_get (M := mX11_need) (j := 28) (T := TX11) (dX11_need_2) rfl (by decide) x_in11 xw_441 hP hv k
theorem dX11_need_5 : decode cX11_need 5 = .ok (.ifCond .eq 11, 3) := by decide +kernel
theorem sX11_need_5 {x : Int32} (kt : x = 0 → X w mX11_need d Q 16 ls st P) (kf : ¬ x = 0 → X w mX11_need d Q 8 ls st P) : X w mX11_need d Q 5 ls (.int x :: st) P := X_if_eq (M := mX11_need) (dX11_need_5) (by decide) kt kf
theorem dX11_need_8 : decode cX11_need 8 = .ok (.iload_n 1, 1) := by decide +kernel
theorem sX11_need_8 {l0 : Option Value} {x : Int32} (k : X w mX11_need d Q 9 [l0, some (.int x)] (.int x :: st) P) : X w mX11_need d Q 8 [l0, some (.int x)] st P := X_iload_n (M := mX11_need) (dX11_need_8) rfl rfl k
theorem dX11_need_9 : decode cX11_need 9 = .ok (.ifCond .eq 7, 3) := by decide +kernel
theorem sX11_need_9 {x : Int32} (kt : x = 0 → X w mX11_need d Q 16 ls st P) (kf : ¬ x = 0 → X w mX11_need d Q 12 ls st P) : X w mX11_need d Q 9 ls (.int x :: st) P := X_if_eq (M := mX11_need) (dX11_need_9) (by decide) kt kf
theorem dX11_need_12 : decode cX11_need 12 = .ok (.iconst 1, 1) := by decide +kernel
theorem sX11_need_12 (k : X w mX11_need d Q 13 ls (.int (1 : Int32) :: st) P) : X w mX11_need d Q 12 ls st P := X_iconst (M := mX11_need) (dX11_need_12) (by decide) k
theorem dX11_need_13 : decode cX11_need 13 = .ok (.goto 4, 3) := by decide +kernel
theorem sX11_need_13 (k : X w mX11_need d Q 17 ls st P) : X w mX11_need d Q 13 ls st P := X_goto (M := mX11_need) (dX11_need_13) (by decide) k
theorem dX11_need_16 : decode cX11_need 16 = .ok (.iconst 0, 1) := by decide +kernel
theorem sX11_need_16 (k : X w mX11_need d Q 17 ls (.int (0 : Int32) :: st) P) : X w mX11_need d Q 16 ls st P := X_iconst (M := mX11_need) (dX11_need_16) (by decide) k
theorem dX11_need_17 : decode cX11_need 17 = .ok (.putfield 117, 3) := by decide +kernel
theorem sX11_need_17 {a : Nat} {fs : List Value} {v : Int32} (hP : P.1 a = some (xO 9 fs)) (hl : 28 < fs.length) (hb : v = 0 ∨ v = 1) (k : X w mX11_need d Q 20 ls st (xs P a (xO 9 (fs.set 28 (.int v))))) : X w mX11_need d Q 17 ls (.int v :: .ref a :: st) P := X_put (M := mX11_need) (j := 28) (T := TX11) (dX11_need_17) rfl (by decide) x_c11 xw_441 rfl hP (xz_n hb) (xz_f hb) hl k
theorem dX11_need_20 : decode cX11_need 20 = .ok (.return_, 1) := by decide +kernel
theorem sX11_need_20 (hq : Q (.returned none) P) : X w mX11_need d Q 20 ls [] P := X_vret (M := mX11_need) (dX11_need_20) rfl hq
theorem dX11_isSign_0 : decode cX11_isSign 0 = .ok (.aload_n 0, 1) := by decide +kernel
theorem sX11_isSign_0 {l1 : Option Value} {x : Nat} (k : X w mX11_isSign d Q 1 [some (.ref x), l1] (.ref x :: st) P) : X w mX11_isSign d Q 0 [some (.ref x), l1] st P := X_aload_n (M := mX11_isSign) (dX11_isSign_0) rfl rfl k
theorem dX11_isSign_1 : decode cX11_isSign 1 = .ok (.getfield 108, 3) := by decide +kernel
theorem sX11_isSign_1 {a : Nat} {fs : List Value} {v : Int32} (hP : P.1 a = some (xO 9 fs)) (hv : fs[25]? = some (.int v)) (k : X w mX11_isSign d Q 4 ls (.int v :: st) P) : X w mX11_isSign d Q 1 ls (.ref a :: st) P := X_get (M := mX11_isSign) (j := 25) (T := TX11) (dX11_isSign_1) rfl (by decide) x_in11 xw_436 hP hv k
theorem dX11_isSign_4 : decode cX11_isSign 4 = .ok (.iconst 3, 1) := by decide +kernel
theorem sX11_isSign_4 (k : X w mX11_isSign d Q 5 ls (.int (3 : Int32) :: st) P) : X w mX11_isSign d Q 4 ls st P := X_iconst (M := mX11_isSign) (dX11_isSign_4) (by decide) k
theorem dX11_isSign_5 : decode cX11_isSign 5 = .ok (.if_icmp .ne 20, 3) := by decide +kernel
theorem sX11_isSign_5 {x y : Int32} (kt : ¬ x = y → X w mX11_isSign d Q 25 ls st P) (kf : x = y → X w mX11_isSign d Q 8 ls st P) : X w mX11_isSign d Q 5 ls (.int y :: .int x :: st) P := X_icmp_ne (M := mX11_isSign) (dX11_isSign_5) (by decide) kt kf
theorem dX11_isSign_8 : decode cX11_isSign 8 = .ok (.aload_n 0, 1) := by decide +kernel
theorem sX11_isSign_8 {l1 : Option Value} {x : Nat} (k : X w mX11_isSign d Q 9 [some (.ref x), l1] (.ref x :: st) P) : X w mX11_isSign d Q 8 [some (.ref x), l1] st P := X_aload_n (M := mX11_isSign) (dX11_isSign_8) rfl rfl k
theorem dX11_isSign_9 : decode cX11_isSign 9 = .ok (.getfield 7, 3) := by decide +kernel
theorem sX11_isSign_9 {a : Nat} {fs : List Value} {v : Nat} (hP : P.1 a = some (xO 9 fs)) (hv : fs[2]? = some (.ref v)) (k : X w mX11_isSign d Q 12 ls (.ref v :: st) P) : X w mX11_isSign d Q 9 ls (.ref a :: st) P := X_get (M := mX11_isSign) (j := 2) (T := TX11) (dX11_isSign_9) rfl (by decide) x_in11 xw_404 hP hv k
theorem dX11_isSign_12 : decode cX11_isSign 12 = .ok (.aload_n 0, 1) := by decide +kernel
theorem sX11_isSign_12 {l1 : Option Value} {x : Nat} (k : X w mX11_isSign d Q 13 [some (.ref x), l1] (.ref x :: st) P) : X w mX11_isSign d Q 12 [some (.ref x), l1] st P := X_aload_n (M := mX11_isSign) (dX11_isSign_12) rfl rfl k
theorem dX11_isSign_13 : decode cX11_isSign 13 = .ok (.getfield 95, 3) := by decide +kernel
theorem sX11_isSign_13 {a : Nat} {fs : List Value} {v : Int32} (hP : P.1 a = some (xO 9 fs)) (hv : fs[23]? = some (.int v)) (k : X w mX11_isSign d Q 16 ls (.int v :: st) P) : X w mX11_isSign d Q 13 ls (.ref a :: st) P := X_get (M := mX11_isSign) (j := 23) (T := TX11) (dX11_isSign_13) rfl (by decide) x_in11 xw_432 hP hv k
theorem dX11_isSign_16 : decode cX11_isSign 16 = .ok (.iaload, 1) := by decide +kernel
theorem sX11_isSign_16 {a n : Nat} {f : Nat → Int32} {i : Int32} (hP : P.1 a = some (xA 0 n f)) (hi : vp_in i n) (k : X w mX11_isSign d Q 17 ls (.int (f i.toNatClampNeg) :: st) P) : X w mX11_isSign d Q 16 ls (.int i :: .ref a :: st) P := X_iald (M := mX11_isSign) (dX11_isSign_16) hP hi k
theorem dX11_isSign_17 : decode cX11_isSign 17 = .ok (.iload_n 1, 1) := by decide +kernel
theorem sX11_isSign_17 {l0 : Option Value} {x : Int32} (k : X w mX11_isSign d Q 18 [l0, some (.int x)] (.int x :: st) P) : X w mX11_isSign d Q 17 [l0, some (.int x)] st P := X_iload_n (M := mX11_isSign) (dX11_isSign_17) rfl rfl k
theorem dX11_isSign_18 : decode cX11_isSign 18 = .ok (.if_icmp .ne 7, 3) := by decide +kernel
theorem sX11_isSign_18 {x y : Int32} (kt : ¬ x = y → X w mX11_isSign d Q 25 ls st P) (kf : x = y → X w mX11_isSign d Q 21 ls st P) : X w mX11_isSign d Q 18 ls (.int y :: .int x :: st) P := X_icmp_ne (M := mX11_isSign) (dX11_isSign_18) (by decide) kt kf
theorem dX11_isSign_21 : decode cX11_isSign 21 = .ok (.iconst 1, 1) := by decide +kernel
theorem sX11_isSign_21 (k : X w mX11_isSign d Q 22 ls (.int (1 : Int32) :: st) P) : X w mX11_isSign d Q 21 ls st P := X_iconst (M := mX11_isSign) (dX11_isSign_21) (by decide) k
theorem dX11_isSign_22 : decode cX11_isSign 22 = .ok (.goto 4, 3) := by decide +kernel
theorem sX11_isSign_22 (k : X w mX11_isSign d Q 26 ls st P) : X w mX11_isSign d Q 22 ls st P := X_goto (M := mX11_isSign) (dX11_isSign_22) (by decide) k
theorem dX11_isSign_25 : decode cX11_isSign 25 = .ok (.iconst 0, 1) := by decide +kernel
theorem sX11_isSign_25 (k : X w mX11_isSign d Q 26 ls (.int (0 : Int32) :: st) P) : X w mX11_isSign d Q 25 ls st P := X_iconst (M := mX11_isSign) (dX11_isSign_25) (by decide) k
theorem dX11_isSign_26 : decode cX11_isSign 26 = .ok (.ireturn, 1) := by decide +kernel
theorem sX11_isSign_26 {v : Int32} (hb : v = 0 ∨ v = 1) (hq : Q (.returned (some (.int v))) P) : X w mX11_isSign d Q 26 ls [.int v] P := X_zret (M := mX11_isSign) (ty := .boolean) (dX11_isSign_26) rfl (xz_n hb) hq
theorem dX11_sign_0 : decode cX11_sign 0 = .ok (.aload_n 0, 1) := by decide +kernel
theorem sX11_sign_0 {l1 : Option Value} {x : Nat} (k : X w mX11_sign d Q 1 [some (.ref x), l1] (.ref x :: st) P) : X w mX11_sign d Q 0 [some (.ref x), l1] st P := X_aload_n (M := mX11_sign) (dX11_sign_0) rfl rfl k
theorem dX11_sign_1 : decode cX11_sign 1 = .ok (.aload_n 0, 1) := by decide +kernel
theorem sX11_sign_1 {l1 : Option Value} {x : Nat} (k : X w mX11_sign d Q 2 [some (.ref x), l1] (.ref x :: st) P) : X w mX11_sign d Q 1 [some (.ref x), l1] st P := X_aload_n (M := mX11_sign) (dX11_sign_1) rfl rfl k
theorem dX11_sign_2 : decode cX11_sign 2 = .ok (.iload_n 1, 1) := by decide +kernel
theorem sX11_sign_2 {l0 : Option Value} {x : Int32} (k : X w mX11_sign d Q 3 [l0, some (.int x)] (.int x :: st) P) : X w mX11_sign d Q 2 [l0, some (.int x)] st P := X_iload_n (M := mX11_sign) (dX11_sign_2) rfl rfl k
theorem dX11_sign_3 : decode cX11_sign 3 = .ok (.invokevirtual 124, 3) := by decide +kernel
theorem sX11_sign_3_g {b : Nat} {fs : List Value} {a0 : Int32} {Qc : Outcome → xH → Prop} (hst : (st.map fun v => v.category).sum ≤ 8) (hP : P.1 b = some (xO 9 fs)) (hC : xC w d mX11_isSign [.ref b, .int a0] P Qc) (kr : ∀ v P1, Qc (.returned v) P1 → X w mX11_sign (d + 1) Q 6 ls (v.toList ++ st) P1) (kt : ∀ q P1, Qc (.threw q) P1 → Xt w mX11_sign (d + 1) Q 3 ls st P1 q) : X w mX11_sign (d + 1) Q 3 ls (.int a0 :: .ref b :: st) P := X_callV (M := mX11_sign) (MC := mX11_isSign) (As := [.int a0]) (T := TX11) (dX11_sign_3) calX11_isSign xw_445 xw_446 xw_447 rfl rfl hP hC hst kr kt
theorem sX11_sign_3 {b : Nat} {fs : List Value} {a0 : Int32} {r : Int32} {P1 : xH} (hst : (st.map fun v => v.category).sum ≤ 8) (hP : P.1 b = some (xO 9 fs)) (hC : xC w d mX11_isSign [.ref b, .int a0] P (xRet (some (.int r)) P1)) (k : X w mX11_sign (d + 1) Q 6 ls (.int r :: st) P1) : X w mX11_sign (d + 1) Q 3 ls (.int a0 :: .ref b :: st) P := X_callV (M := mX11_sign) (MC := mX11_isSign) (As := [.int a0]) (T := TX11) (dX11_sign_3) calX11_isSign xw_445 xw_446 xw_447 rfl rfl hP hC hst (fun v P2 h => by obtain ⟨h1, rfl⟩ := h; cases h1; exact k) (fun q P2 h => by cases h.1)
theorem sX11_sign_3_r {b : Nat} {fs : List Value} {a0 : Int32} {r : Int32} {Rp : xH → Prop} (hst : (st.map fun v => v.category).sum ≤ 8) (hP : P.1 b = some (xO 9 fs)) (hC : xC w d mX11_isSign [.ref b, .int a0] P (xRl (some (.int r)) Rp)) (k : ∀ P1, Rp P1 → X w mX11_sign (d + 1) Q 6 ls (.int r :: st) P1) : X w mX11_sign (d + 1) Q 3 ls (.int a0 :: .ref b :: st) P := X_callV (M := mX11_sign) (MC := mX11_isSign) (As := [.int a0]) (T := TX11) (dX11_sign_3) calX11_isSign xw_445 xw_446 xw_447 rfl rfl hP hC hst (fun v P2 h => by obtain ⟨h1, hR⟩ := h; cases h1; exact k P2 hR) (fun q P2 h => by cases h.1)
theorem sX11_sign_3_t {b : Nat} {fs : List Value} {a0 : Int32} {q : Nat} {P1 : xH} (hst : (st.map fun v => v.category).sum ≤ 8) (hP : P.1 b = some (xO 9 fs)) (hC : xC w d mX11_isSign [.ref b, .int a0] P (xThr q P1)) (hq : Q (.threw q) P1) : X w mX11_sign (d + 1) Q 3 ls (.int a0 :: .ref b :: st) P := X_callV (M := mX11_sign) (MC := mX11_isSign) (As := [.int a0]) (T := TX11) (dX11_sign_3) calX11_isSign xw_445 xw_446 xw_447 rfl rfl hP hC hst (fun v P2 h => by cases h.1) (fun q2 P2 h => by obtain ⟨h1, rfl⟩ := h; cases h1; exact Xt_out rfl hq)
theorem dX11_sign_6 : decode cX11_sign 6 = .ok (.invokevirtual 127, 3) := by decide +kernel
theorem sX11_sign_6_g {b : Nat} {fs : List Value} {a0 : Int32} {Qc : Outcome → xH → Prop} (hst : (st.map fun v => v.category).sum ≤ 8) (hP : P.1 b = some (xO 9 fs)) (hC : xC w d mX11_need [.ref b, .int a0] P Qc) (kr : ∀ v P1, Qc (.returned v) P1 → X w mX11_sign (d + 1) Q 9 ls (v.toList ++ st) P1) (kt : ∀ q P1, Qc (.threw q) P1 → Xt w mX11_sign (d + 1) Q 6 ls st P1 q) : X w mX11_sign (d + 1) Q 6 ls (.int a0 :: .ref b :: st) P := X_callV (M := mX11_sign) (MC := mX11_need) (As := [.int a0]) (T := TX11) (dX11_sign_6) calX11_need xw_448 xw_449 xw_450 rfl rfl hP hC hst kr kt
theorem sX11_sign_6 {b : Nat} {fs : List Value} {a0 : Int32} {P1 : xH} (hst : (st.map fun v => v.category).sum ≤ 8) (hP : P.1 b = some (xO 9 fs)) (hC : xC w d mX11_need [.ref b, .int a0] P (xRet none P1)) (k : X w mX11_sign (d + 1) Q 9 ls st P1) : X w mX11_sign (d + 1) Q 6 ls (.int a0 :: .ref b :: st) P := X_callV (M := mX11_sign) (MC := mX11_need) (As := [.int a0]) (T := TX11) (dX11_sign_6) calX11_need xw_448 xw_449 xw_450 rfl rfl hP hC hst (fun v P2 h => by obtain ⟨h1, rfl⟩ := h; cases h1; exact k) (fun q P2 h => by cases h.1)
theorem sX11_sign_6_r {b : Nat} {fs : List Value} {a0 : Int32} {Rp : xH → Prop} (hst : (st.map fun v => v.category).sum ≤ 8) (hP : P.1 b = some (xO 9 fs)) (hC : xC w d mX11_need [.ref b, .int a0] P (xRl none Rp)) (k : ∀ P1, Rp P1 → X w mX11_sign (d + 1) Q 9 ls st P1) : X w mX11_sign (d + 1) Q 6 ls (.int a0 :: .ref b :: st) P := X_callV (M := mX11_sign) (MC := mX11_need) (As := [.int a0]) (T := TX11) (dX11_sign_6) calX11_need xw_448 xw_449 xw_450 rfl rfl hP hC hst (fun v P2 h => by obtain ⟨h1, hR⟩ := h; cases h1; exact k P2 hR) (fun q P2 h => by cases h.1)
theorem sX11_sign_6_t {b : Nat} {fs : List Value} {a0 : Int32} {q : Nat} {P1 : xH} (hst : (st.map fun v => v.category).sum ≤ 8) (hP : P.1 b = some (xO 9 fs)) (hC : xC w d mX11_need [.ref b, .int a0] P (xThr q P1)) (hq : Q (.threw q) P1) : X w mX11_sign (d + 1) Q 6 ls (.int a0 :: .ref b :: st) P := X_callV (M := mX11_sign) (MC := mX11_need) (As := [.int a0]) (T := TX11) (dX11_sign_6) calX11_need xw_448 xw_449 xw_450 rfl rfl hP hC hst (fun v P2 h => by cases h.1) (fun q2 P2 h => by obtain ⟨h1, rfl⟩ := h; cases h1; exact Xt_out rfl hq)
theorem dX11_sign_9 : decode cX11_sign 9 = .ok (.aload_n 0, 1) := by decide +kernel
theorem sX11_sign_9 {l1 : Option Value} {x : Nat} (k : X w mX11_sign d Q 10 [some (.ref x), l1] (.ref x :: st) P) : X w mX11_sign d Q 9 [some (.ref x), l1] st P := X_aload_n (M := mX11_sign) (dX11_sign_9) rfl rfl k
theorem dX11_sign_10 : decode cX11_sign 10 = .ok (.invokevirtual 131, 3) := by decide +kernel
theorem sX11_sign_10_g {b : Nat} {fs : List Value}  {Qc : Outcome → xH → Prop} (hst : (st.map fun v => v.category).sum ≤ 8) (hP : P.1 b = some (xO 9 fs)) (hC : xC w d mX11_go [.ref b] P Qc) (kr : ∀ v P1, Qc (.returned v) P1 → X w mX11_sign (d + 1) Q 13 ls (v.toList ++ st) P1) (kt : ∀ q P1, Qc (.threw q) P1 → Xt w mX11_sign (d + 1) Q 10 ls st P1 q) : X w mX11_sign (d + 1) Q 10 ls (.ref b :: st) P := X_callV (M := mX11_sign) (MC := mX11_go) (As := []) (T := TX11) (dX11_sign_10) calX11_go xw_451 xw_452 xw_453 rfl rfl hP hC hst kr kt
theorem sX11_sign_10 {b : Nat} {fs : List Value}  {P1 : xH} (hst : (st.map fun v => v.category).sum ≤ 8) (hP : P.1 b = some (xO 9 fs)) (hC : xC w d mX11_go [.ref b] P (xRet none P1)) (k : X w mX11_sign (d + 1) Q 13 ls st P1) : X w mX11_sign (d + 1) Q 10 ls (.ref b :: st) P := X_callV (M := mX11_sign) (MC := mX11_go) (As := []) (T := TX11) (dX11_sign_10) calX11_go xw_451 xw_452 xw_453 rfl rfl hP hC hst (fun v P2 h => by obtain ⟨h1, rfl⟩ := h; cases h1; exact k) (fun q P2 h => by cases h.1)
theorem sX11_sign_10_r {b : Nat} {fs : List Value}  {Rp : xH → Prop} (hst : (st.map fun v => v.category).sum ≤ 8) (hP : P.1 b = some (xO 9 fs)) (hC : xC w d mX11_go [.ref b] P (xRl none Rp)) (k : ∀ P1, Rp P1 → X w mX11_sign (d + 1) Q 13 ls st P1) : X w mX11_sign (d + 1) Q 10 ls (.ref b :: st) P := X_callV (M := mX11_sign) (MC := mX11_go) (As := []) (T := TX11) (dX11_sign_10) calX11_go xw_451 xw_452 xw_453 rfl rfl hP hC hst (fun v P2 h => by obtain ⟨h1, hR⟩ := h; cases h1; exact k P2 hR) (fun q P2 h => by cases h.1)
theorem sX11_sign_10_t {b : Nat} {fs : List Value}  {q : Nat} {P1 : xH} (hst : (st.map fun v => v.category).sum ≤ 8) (hP : P.1 b = some (xO 9 fs)) (hC : xC w d mX11_go [.ref b] P (xThr q P1)) (hq : Q (.threw q) P1) : X w mX11_sign (d + 1) Q 10 ls (.ref b :: st) P := X_callV (M := mX11_sign) (MC := mX11_go) (As := []) (T := TX11) (dX11_sign_10) calX11_go xw_451 xw_452 xw_453 rfl rfl hP hC hst (fun v P2 h => by cases h.1) (fun q2 P2 h => by obtain ⟨h1, rfl⟩ := h; cases h1; exact Xt_out rfl hq)
theorem dX11_sign_13 : decode cX11_sign 13 = .ok (.return_, 1) := by decide +kernel
theorem sX11_sign_13 (hq : Q (.returned none) P) : X w mX11_sign d Q 13 ls [] P := X_vret (M := mX11_sign) (dX11_sign_13) rfl hq
theorem dX11_word_0 : decode cX11_word 0 = .ok (.iload_n 0, 1) := by decide +kernel
theorem sX11_word_0 {l1 l2 l3 l4 : Option Value} {x : Int32} (k : X w mX11_word d Q 1 [some (.int x), l1, l2, l3, l4] (.int x :: st) P) : X w mX11_word d Q 0 [some (.int x), l1, l2, l3, l4] st P := X_iload_n (M := mX11_word) (dX11_word_0) rfl rfl k
theorem dX11_word_1 : decode cX11_word 1 = .ok (.i2l, 1) := by decide +kernel
theorem sX11_word_1 {x : Int32} (k : X w mX11_word d Q 2 ls (.long x.toInt64 :: st) P) : X w mX11_word d Q 1 ls (.int x :: st) P := X_i2l (M := mX11_word) (dX11_word_1) k
theorem dX11_word_2 : decode cX11_word 2 = .ok (.bipush 56, 2) := by decide +kernel
theorem sX11_word_2 (k : X w mX11_word d Q 4 ls (.int (56 : Int32) :: st) P) : X w mX11_word d Q 2 ls st P := X_bipush (M := mX11_word) (dX11_word_2) (by decide) k
theorem dX11_word_4 : decode cX11_word 4 = .ok (.lshl, 1) := by decide +kernel
theorem sX11_word_4 {x : Int64} {y : Int32} (k : X w mX11_word d Q 5 ls (.long (x <<< (y.toInt64 &&& 63)) :: st) P) : X w mX11_word d Q 4 ls (.int y :: .long x :: st) P := X_lshl (M := mX11_word) (dX11_word_4) k
theorem dX11_word_5 : decode cX11_word 5 = .ok (.iload_n 1, 1) := by decide +kernel
theorem sX11_word_5 {l0 l2 l3 l4 : Option Value} {x : Int32} (k : X w mX11_word d Q 6 [l0, some (.int x), l2, l3, l4] (.int x :: st) P) : X w mX11_word d Q 5 [l0, some (.int x), l2, l3, l4] st P := X_iload_n (M := mX11_word) (dX11_word_5) rfl rfl k
theorem dX11_word_6 : decode cX11_word 6 = .ok (.i2l, 1) := by decide +kernel
theorem sX11_word_6 {x : Int32} (k : X w mX11_word d Q 7 ls (.long x.toInt64 :: st) P) : X w mX11_word d Q 6 ls (.int x :: st) P := X_i2l (M := mX11_word) (dX11_word_6) k
theorem dX11_word_7 : decode cX11_word 7 = .ok (.bipush 48, 2) := by decide +kernel
theorem sX11_word_7 (k : X w mX11_word d Q 9 ls (.int (48 : Int32) :: st) P) : X w mX11_word d Q 7 ls st P := X_bipush (M := mX11_word) (dX11_word_7) (by decide) k
theorem dX11_word_9 : decode cX11_word 9 = .ok (.lshl, 1) := by decide +kernel
theorem sX11_word_9 {x : Int64} {y : Int32} (k : X w mX11_word d Q 10 ls (.long (x <<< (y.toInt64 &&& 63)) :: st) P) : X w mX11_word d Q 9 ls (.int y :: .long x :: st) P := X_lshl (M := mX11_word) (dX11_word_9) k
theorem dX11_word_10 : decode cX11_word 10 = .ok (.lor, 1) := by decide +kernel
theorem sX11_word_10 {x y : Int64} (k : X w mX11_word d Q 11 ls (.long (x ||| y) :: st) P) : X w mX11_word d Q 10 ls (.long y :: .long x :: st) P := X_lor (M := mX11_word) (dX11_word_10) k
theorem dX11_word_11 : decode cX11_word 11 = .ok (.iload_n 2, 1) := by decide +kernel
theorem sX11_word_11 {l0 l1 l3 l4 : Option Value} {x : Int32} (k : X w mX11_word d Q 12 [l0, l1, some (.int x), l3, l4] (.int x :: st) P) : X w mX11_word d Q 11 [l0, l1, some (.int x), l3, l4] st P := X_iload_n (M := mX11_word) (dX11_word_11) rfl rfl k
theorem dX11_word_12 : decode cX11_word 12 = .ok (.i2l, 1) := by decide +kernel
theorem sX11_word_12 {x : Int32} (k : X w mX11_word d Q 13 ls (.long x.toInt64 :: st) P) : X w mX11_word d Q 12 ls (.int x :: st) P := X_i2l (M := mX11_word) (dX11_word_12) k
theorem dX11_word_13 : decode cX11_word 13 = .ok (.bipush 40, 2) := by decide +kernel
theorem sX11_word_13 (k : X w mX11_word d Q 15 ls (.int (40 : Int32) :: st) P) : X w mX11_word d Q 13 ls st P := X_bipush (M := mX11_word) (dX11_word_13) (by decide) k
theorem dX11_word_15 : decode cX11_word 15 = .ok (.lshl, 1) := by decide +kernel
theorem sX11_word_15 {x : Int64} {y : Int32} (k : X w mX11_word d Q 16 ls (.long (x <<< (y.toInt64 &&& 63)) :: st) P) : X w mX11_word d Q 15 ls (.int y :: .long x :: st) P := X_lshl (M := mX11_word) (dX11_word_15) k
theorem dX11_word_16 : decode cX11_word 16 = .ok (.lor, 1) := by decide +kernel
theorem sX11_word_16 {x y : Int64} (k : X w mX11_word d Q 17 ls (.long (x ||| y) :: st) P) : X w mX11_word d Q 16 ls (.long y :: .long x :: st) P := X_lor (M := mX11_word) (dX11_word_16) k
theorem dX11_word_17 : decode cX11_word 17 = .ok (.iload_n 3, 1) := by decide +kernel
theorem sX11_word_17 {l0 l1 l2 l4 : Option Value} {x : Int32} (k : X w mX11_word d Q 18 [l0, l1, l2, some (.int x), l4] (.int x :: st) P) : X w mX11_word d Q 17 [l0, l1, l2, some (.int x), l4] st P := X_iload_n (M := mX11_word) (dX11_word_17) rfl rfl k
theorem dX11_word_18 : decode cX11_word 18 = .ok (.i2l, 1) := by decide +kernel
theorem sX11_word_18 {x : Int32} (k : X w mX11_word d Q 19 ls (.long x.toInt64 :: st) P) : X w mX11_word d Q 18 ls (.int x :: st) P := X_i2l (M := mX11_word) (dX11_word_18) k
theorem dX11_word_19 : decode cX11_word 19 = .ok (.bipush 32, 2) := by decide +kernel
theorem sX11_word_19 (k : X w mX11_word d Q 21 ls (.int (32 : Int32) :: st) P) : X w mX11_word d Q 19 ls st P := X_bipush (M := mX11_word) (dX11_word_19) (by decide) k
theorem dX11_word_21 : decode cX11_word 21 = .ok (.lshl, 1) := by decide +kernel
theorem sX11_word_21 {x : Int64} {y : Int32} (k : X w mX11_word d Q 22 ls (.long (x <<< (y.toInt64 &&& 63)) :: st) P) : X w mX11_word d Q 21 ls (.int y :: .long x :: st) P := X_lshl (M := mX11_word) (dX11_word_21) k
theorem dX11_word_22 : decode cX11_word 22 = .ok (.lor, 1) := by decide +kernel
theorem sX11_word_22 {x y : Int64} (k : X w mX11_word d Q 23 ls (.long (x ||| y) :: st) P) : X w mX11_word d Q 22 ls (.long y :: .long x :: st) P := X_lor (M := mX11_word) (dX11_word_22) k
theorem dX11_word_23 : decode cX11_word 23 = .ok (.iload 4, 2) := by decide +kernel
theorem sX11_word_23 {l0 l1 l2 l3 : Option Value} {x : Int32} (k : X w mX11_word d Q 25 [l0, l1, l2, l3, some (.int x)] (.int x :: st) P) : X w mX11_word d Q 23 [l0, l1, l2, l3, some (.int x)] st P := X_iload (M := mX11_word) (dX11_word_23) rfl k
theorem dX11_word_25 : decode cX11_word 25 = .ok (.i2l, 1) := by decide +kernel
theorem sX11_word_25 {x : Int32} (k : X w mX11_word d Q 26 ls (.long x.toInt64 :: st) P) : X w mX11_word d Q 25 ls (.int x :: st) P := X_i2l (M := mX11_word) (dX11_word_25) k
theorem dX11_word_26 : decode cX11_word 26 = .ok (.bipush 24, 2) := by decide +kernel
theorem sX11_word_26 (k : X w mX11_word d Q 28 ls (.int (24 : Int32) :: st) P) : X w mX11_word d Q 26 ls st P := X_bipush (M := mX11_word) (dX11_word_26) (by decide) k
theorem dX11_word_28 : decode cX11_word 28 = .ok (.lshl, 1) := by decide +kernel
theorem sX11_word_28 {x : Int64} {y : Int32} (k : X w mX11_word d Q 29 ls (.long (x <<< (y.toInt64 &&& 63)) :: st) P) : X w mX11_word d Q 28 ls (.int y :: .long x :: st) P := X_lshl (M := mX11_word) (dX11_word_28) k
theorem dX11_word_29 : decode cX11_word 29 = .ok (.lor, 1) := by decide +kernel
theorem sX11_word_29 {x y : Int64} (k : X w mX11_word d Q 30 ls (.long (x ||| y) :: st) P) : X w mX11_word d Q 29 ls (.long y :: .long x :: st) P := X_lor (M := mX11_word) (dX11_word_29) k
theorem dX11_word_30 : decode cX11_word 30 = .ok (.lreturn, 1) := by decide +kernel
theorem sX11_word_30 {v : Int64} (hq : Q (.returned (some (.long v))) P) : X w mX11_word d Q 30 ls [.long v] P := X_lret (M := mX11_word) (dX11_word_30) rfl hq
theorem dX11_is_0 : decode cX11_is 0 = .ok (.aload_n 0, 1) := by decide +kernel
theorem sX11_is_0 {l1 l2 l3 l4 l5 : Option Value} {x : Nat} (k : X w mX11_is d Q 1 [some (.ref x), l1, l2, l3, l4, l5] (.ref x :: st) P) : X w mX11_is d Q 0 [some (.ref x), l1, l2, l3, l4, l5] st P := X_aload_n (M := mX11_is) (dX11_is_0) rfl rfl k
theorem dX11_is_1 : decode cX11_is 1 = .ok (.getfield 108, 3) := by decide +kernel
theorem sX11_is_1 {a : Nat} {fs : List Value} {v : Int32} (hP : P.1 a = some (xO 9 fs)) (hv : fs[25]? = some (.int v)) (k : X w mX11_is d Q 4 ls (.int v :: st) P) : X w mX11_is d Q 1 ls (.ref a :: st) P := X_get (M := mX11_is) (j := 25) (T := TX11) (dX11_is_1) rfl (by decide) x_in11 xw_436 hP hv k
theorem dX11_is_4 : decode cX11_is 4 = .ok (.iconst 1, 1) := by decide +kernel
theorem sX11_is_4 (k : X w mX11_is d Q 5 ls (.int (1 : Int32) :: st) P) : X w mX11_is d Q 4 ls st P := X_iconst (M := mX11_is) (dX11_is_4) (by decide) k
theorem dX11_is_5 : decode cX11_is 5 = .ok (.if_icmp .ne 25, 3) := by decide +kernel
theorem sX11_is_5 {x y : Int32} (kt : ¬ x = y → X w mX11_is d Q 30 ls st P) (kf : x = y → X w mX11_is d Q 8 ls st P) : X w mX11_is d Q 5 ls (.int y :: .int x :: st) P := X_icmp_ne (M := mX11_is) (dX11_is_5) (by decide) kt kf
theorem dX11_is_8 : decode cX11_is 8 = .ok (.aload_n 0, 1) := by decide +kernel
theorem sX11_is_8 {l1 l2 l3 l4 l5 : Option Value} {x : Nat} (k : X w mX11_is d Q 9 [some (.ref x), l1, l2, l3, l4, l5] (.ref x :: st) P) : X w mX11_is d Q 8 [some (.ref x), l1, l2, l3, l4, l5] st P := X_aload_n (M := mX11_is) (dX11_is_8) rfl rfl k
theorem dX11_is_9 : decode cX11_is 9 = .ok (.getfield 101, 3) := by decide +kernel
theorem sX11_is_9 {a : Nat} {fs : List Value} {v : Int64} (hP : P.1 a = some (xO 9 fs)) (hv : fs[26]? = some (.long v)) (k : X w mX11_is d Q 12 ls (.long v :: st) P) : X w mX11_is d Q 9 ls (.ref a :: st) P := X_get (M := mX11_is) (j := 26) (T := TX11) (dX11_is_9) rfl (by decide) x_in11 xw_434 hP hv k
theorem dX11_is_12 : decode cX11_is 12 = .ok (.iload_n 1, 1) := by decide +kernel
theorem sX11_is_12 {l0 l2 l3 l4 l5 : Option Value} {x : Int32} (k : X w mX11_is d Q 13 [l0, some (.int x), l2, l3, l4, l5] (.int x :: st) P) : X w mX11_is d Q 12 [l0, some (.int x), l2, l3, l4, l5] st P := X_iload_n (M := mX11_is) (dX11_is_12) rfl rfl k
theorem dX11_is_13 : decode cX11_is 13 = .ok (.iload_n 2, 1) := by decide +kernel
theorem sX11_is_13 {l0 l1 l3 l4 l5 : Option Value} {x : Int32} (k : X w mX11_is d Q 14 [l0, l1, some (.int x), l3, l4, l5] (.int x :: st) P) : X w mX11_is d Q 13 [l0, l1, some (.int x), l3, l4, l5] st P := X_iload_n (M := mX11_is) (dX11_is_13) rfl rfl k
theorem dX11_is_14 : decode cX11_is 14 = .ok (.iload_n 3, 1) := by decide +kernel
theorem sX11_is_14 {l0 l1 l2 l4 l5 : Option Value} {x : Int32} (k : X w mX11_is d Q 15 [l0, l1, l2, some (.int x), l4, l5] (.int x :: st) P) : X w mX11_is d Q 14 [l0, l1, l2, some (.int x), l4, l5] st P := X_iload_n (M := mX11_is) (dX11_is_14) rfl rfl k
theorem dX11_is_15 : decode cX11_is 15 = .ok (.iload 4, 2) := by decide +kernel
theorem sX11_is_15 {l0 l1 l2 l3 l5 : Option Value} {x : Int32} (k : X w mX11_is d Q 17 [l0, l1, l2, l3, some (.int x), l5] (.int x :: st) P) : X w mX11_is d Q 15 [l0, l1, l2, l3, some (.int x), l5] st P := X_iload (M := mX11_is) (dX11_is_15) rfl k
theorem dX11_is_17 : decode cX11_is 17 = .ok (.iload 5, 2) := by decide +kernel
theorem sX11_is_17 {l0 l1 l2 l3 l4 : Option Value} {x : Int32} (k : X w mX11_is d Q 19 [l0, l1, l2, l3, l4, some (.int x)] (.int x :: st) P) : X w mX11_is d Q 17 [l0, l1, l2, l3, l4, some (.int x)] st P := X_iload (M := mX11_is) (dX11_is_17) rfl k
theorem dX11_is_19 : decode cX11_is 19 = .ok (.invokestatic 134, 3) := by decide +kernel
theorem sX11_is_19_g {a0 : Int32} {a1 : Int32} {a2 : Int32} {a3 : Int32} {a4 : Int32} {Qc : Outcome → xH → Prop} (hst : (st.map fun v => v.category).sum ≤ 8) (hC : xC w d mX11_word [.int a0, .int a1, .int a2, .int a3, .int a4] P Qc) (kr : ∀ v P1, Qc (.returned v) P1 → X w mX11_is (d + 1) Q 22 ls (v.toList ++ st) P1) (kt : ∀ q P1, Qc (.threw q) P1 → Xt w mX11_is (d + 1) Q 19 ls st P1 q) : X w mX11_is (d + 1) Q 19 ls (.int a4 :: .int a3 :: .int a2 :: .int a1 :: .int a0 :: st) P := X_callS (M := mX11_is) (MC := mX11_word) (As := [.int a0, .int a1, .int a2, .int a3, .int a4]) (dX11_is_19) calX11_word xw_454 xw_455 rfl hC hst kr kt
theorem sX11_is_19 {a0 : Int32} {a1 : Int32} {a2 : Int32} {a3 : Int32} {a4 : Int32} {r : Int64} {P1 : xH} (hst : (st.map fun v => v.category).sum ≤ 8) (hC : xC w d mX11_word [.int a0, .int a1, .int a2, .int a3, .int a4] P (xRet (some (.long r)) P1)) (k : X w mX11_is (d + 1) Q 22 ls (.long r :: st) P1) : X w mX11_is (d + 1) Q 19 ls (.int a4 :: .int a3 :: .int a2 :: .int a1 :: .int a0 :: st) P := X_callS (M := mX11_is) (MC := mX11_word) (As := [.int a0, .int a1, .int a2, .int a3, .int a4]) (dX11_is_19) calX11_word xw_454 xw_455 rfl hC hst (fun v P2 h => by obtain ⟨h1, rfl⟩ := h; cases h1; exact k) (fun q P2 h => by cases h.1)
theorem sX11_is_19_r {a0 : Int32} {a1 : Int32} {a2 : Int32} {a3 : Int32} {a4 : Int32} {r : Int64} {Rp : xH → Prop} (hst : (st.map fun v => v.category).sum ≤ 8) (hC : xC w d mX11_word [.int a0, .int a1, .int a2, .int a3, .int a4] P (xRl (some (.long r)) Rp)) (k : ∀ P1, Rp P1 → X w mX11_is (d + 1) Q 22 ls (.long r :: st) P1) : X w mX11_is (d + 1) Q 19 ls (.int a4 :: .int a3 :: .int a2 :: .int a1 :: .int a0 :: st) P := X_callS (M := mX11_is) (MC := mX11_word) (As := [.int a0, .int a1, .int a2, .int a3, .int a4]) (dX11_is_19) calX11_word xw_454 xw_455 rfl hC hst (fun v P2 h => by obtain ⟨h1, hR⟩ := h; cases h1; exact k P2 hR) (fun q P2 h => by cases h.1)
theorem sX11_is_19_t {a0 : Int32} {a1 : Int32} {a2 : Int32} {a3 : Int32} {a4 : Int32} {q : Nat} {P1 : xH} (hst : (st.map fun v => v.category).sum ≤ 8) (hC : xC w d mX11_word [.int a0, .int a1, .int a2, .int a3, .int a4] P (xThr q P1)) (hq : Q (.threw q) P1) : X w mX11_is (d + 1) Q 19 ls (.int a4 :: .int a3 :: .int a2 :: .int a1 :: .int a0 :: st) P := X_callS (M := mX11_is) (MC := mX11_word) (As := [.int a0, .int a1, .int a2, .int a3, .int a4]) (dX11_is_19) calX11_word xw_454 xw_455 rfl hC hst (fun v P2 h => by cases h.1) (fun q2 P2 h => by obtain ⟨h1, rfl⟩ := h; cases h1; exact Xt_out rfl hq)
theorem dX11_is_22 : decode cX11_is 22 = .ok (.lcmp, 1) := by decide +kernel
theorem sX11_is_22 {x y : Int64} (k : X w mX11_is d Q 23 ls (.int (lg_cmp x y) :: st) P) : X w mX11_is d Q 22 ls (.long y :: .long x :: st) P := X_lcmp (M := mX11_is) (dX11_is_22) k
theorem dX11_is_23 : decode cX11_is 23 = .ok (.ifCond .ne 7, 3) := by decide +kernel
theorem sX11_is_23 {x : Int32} (kt : ¬ x = 0 → X w mX11_is d Q 30 ls st P) (kf : x = 0 → X w mX11_is d Q 26 ls st P) : X w mX11_is d Q 23 ls (.int x :: st) P := X_if_ne (M := mX11_is) (dX11_is_23) (by decide) kt kf
theorem dX11_is_26 : decode cX11_is 26 = .ok (.iconst 1, 1) := by decide +kernel
theorem sX11_is_26 (k : X w mX11_is d Q 27 ls (.int (1 : Int32) :: st) P) : X w mX11_is d Q 26 ls st P := X_iconst (M := mX11_is) (dX11_is_26) (by decide) k
theorem dX11_is_27 : decode cX11_is 27 = .ok (.goto 4, 3) := by decide +kernel
theorem sX11_is_27 (k : X w mX11_is d Q 31 ls st P) : X w mX11_is d Q 27 ls st P := X_goto (M := mX11_is) (dX11_is_27) (by decide) k
theorem dX11_is_30 : decode cX11_is 30 = .ok (.iconst 0, 1) := by decide +kernel
theorem sX11_is_30 (k : X w mX11_is d Q 31 ls (.int (0 : Int32) :: st) P) : X w mX11_is d Q 30 ls st P := X_iconst (M := mX11_is) (dX11_is_30) (by decide) k
theorem dX11_is_31 : decode cX11_is 31 = .ok (.ireturn, 1) := by decide +kernel
theorem sX11_is_31 {v : Int32} (hb : v = 0 ∨ v = 1) (hq : Q (.returned (some (.int v))) P) : X w mX11_is d Q 31 ls [.int v] P := X_zret (M := mX11_is) (ty := .boolean) (dX11_is_31) rfl (xz_n hb) hq
theorem dX11_numberNow_0 : decode cX11_numberNow 0 = .ok (.aload_n 0, 1) := by decide +kernel
theorem sX11_numberNow_0 {l1 : Option Value} {x : Nat} (k : X w mX11_numberNow d Q 1 [some (.ref x), l1] (.ref x :: st) P) : X w mX11_numberNow d Q 0 [some (.ref x), l1] st P := X_aload_n (M := mX11_numberNow) (dX11_numberNow_0) rfl rfl k
theorem dX11_numberNow_1 : decode cX11_numberNow 1 = .ok (.aload_n 0, 1) := by decide +kernel
theorem sX11_numberNow_1 {l1 : Option Value} {x : Nat} (k : X w mX11_numberNow d Q 2 [some (.ref x), l1] (.ref x :: st) P) : X w mX11_numberNow d Q 1 [some (.ref x), l1] st P := X_aload_n (M := mX11_numberNow) (dX11_numberNow_1) rfl rfl k
theorem dX11_numberNow_2 : decode cX11_numberNow 2 = .ok (.getfield 108, 3) := by decide +kernel
theorem sX11_numberNow_2 {a : Nat} {fs : List Value} {v : Int32} (hP : P.1 a = some (xO 9 fs)) (hv : fs[25]? = some (.int v)) (k : X w mX11_numberNow d Q 5 ls (.int v :: st) P) : X w mX11_numberNow d Q 2 ls (.ref a :: st) P := X_get (M := mX11_numberNow) (j := 25) (T := TX11) (dX11_numberNow_2) rfl (by decide) x_in11 xw_436 hP hv k
theorem dX11_numberNow_5 : decode cX11_numberNow 5 = .ok (.iconst 2, 1) := by decide +kernel
theorem sX11_numberNow_5 (k : X w mX11_numberNow d Q 6 ls (.int (2 : Int32) :: st) P) : X w mX11_numberNow d Q 5 ls st P := X_iconst (M := mX11_numberNow) (dX11_numberNow_5) (by decide) k
theorem dX11_numberNow_6 : decode cX11_numberNow 6 = .ok (.if_icmp .ne 7, 3) := by decide +kernel
theorem sX11_numberNow_6 {x y : Int32} (kt : ¬ x = y → X w mX11_numberNow d Q 13 ls st P) (kf : x = y → X w mX11_numberNow d Q 9 ls st P) : X w mX11_numberNow d Q 6 ls (.int y :: .int x :: st) P := X_icmp_ne (M := mX11_numberNow) (dX11_numberNow_6) (by decide) kt kf
theorem dX11_numberNow_9 : decode cX11_numberNow 9 = .ok (.iconst 1, 1) := by decide +kernel
theorem sX11_numberNow_9 (k : X w mX11_numberNow d Q 10 ls (.int (1 : Int32) :: st) P) : X w mX11_numberNow d Q 9 ls st P := X_iconst (M := mX11_numberNow) (dX11_numberNow_9) (by decide) k
theorem dX11_numberNow_10 : decode cX11_numberNow 10 = .ok (.goto 4, 3) := by decide +kernel
theorem sX11_numberNow_10 (k : X w mX11_numberNow d Q 14 ls st P) : X w mX11_numberNow d Q 10 ls st P := X_goto (M := mX11_numberNow) (dX11_numberNow_10) (by decide) k
theorem dX11_numberNow_13 : decode cX11_numberNow 13 = .ok (.iconst 0, 1) := by decide +kernel
theorem sX11_numberNow_13 (k : X w mX11_numberNow d Q 14 ls (.int (0 : Int32) :: st) P) : X w mX11_numberNow d Q 13 ls st P := X_iconst (M := mX11_numberNow) (dX11_numberNow_13) (by decide) k
theorem dX11_numberNow_14 : decode cX11_numberNow 14 = .ok (.invokevirtual 127, 3) := by decide +kernel
theorem sX11_numberNow_14_g {b : Nat} {fs : List Value} {a0 : Int32} {Qc : Outcome → xH → Prop} (hst : (st.map fun v => v.category).sum ≤ 8) (hP : P.1 b = some (xO 9 fs)) (hC : xC w d mX11_need [.ref b, .int a0] P Qc) (kr : ∀ v P1, Qc (.returned v) P1 → X w mX11_numberNow (d + 1) Q 17 ls (v.toList ++ st) P1) (kt : ∀ q P1, Qc (.threw q) P1 → Xt w mX11_numberNow (d + 1) Q 14 ls st P1 q) : X w mX11_numberNow (d + 1) Q 14 ls (.int a0 :: .ref b :: st) P := X_callV (M := mX11_numberNow) (MC := mX11_need) (As := [.int a0]) (T := TX11) (dX11_numberNow_14) calX11_need xw_448 xw_449 xw_450 rfl rfl hP hC hst kr kt
theorem sX11_numberNow_14 {b : Nat} {fs : List Value} {a0 : Int32} {P1 : xH} (hst : (st.map fun v => v.category).sum ≤ 8) (hP : P.1 b = some (xO 9 fs)) (hC : xC w d mX11_need [.ref b, .int a0] P (xRet none P1)) (k : X w mX11_numberNow (d + 1) Q 17 ls st P1) : X w mX11_numberNow (d + 1) Q 14 ls (.int a0 :: .ref b :: st) P := X_callV (M := mX11_numberNow) (MC := mX11_need) (As := [.int a0]) (T := TX11) (dX11_numberNow_14) calX11_need xw_448 xw_449 xw_450 rfl rfl hP hC hst (fun v P2 h => by obtain ⟨h1, rfl⟩ := h; cases h1; exact k) (fun q P2 h => by cases h.1)
theorem sX11_numberNow_14_r {b : Nat} {fs : List Value} {a0 : Int32} {Rp : xH → Prop} (hst : (st.map fun v => v.category).sum ≤ 8) (hP : P.1 b = some (xO 9 fs)) (hC : xC w d mX11_need [.ref b, .int a0] P (xRl none Rp)) (k : ∀ P1, Rp P1 → X w mX11_numberNow (d + 1) Q 17 ls st P1) : X w mX11_numberNow (d + 1) Q 14 ls (.int a0 :: .ref b :: st) P := X_callV (M := mX11_numberNow) (MC := mX11_need) (As := [.int a0]) (T := TX11) (dX11_numberNow_14) calX11_need xw_448 xw_449 xw_450 rfl rfl hP hC hst (fun v P2 h => by obtain ⟨h1, hR⟩ := h; cases h1; exact k P2 hR) (fun q P2 h => by cases h.1)
theorem sX11_numberNow_14_t {b : Nat} {fs : List Value} {a0 : Int32} {q : Nat} {P1 : xH} (hst : (st.map fun v => v.category).sum ≤ 8) (hP : P.1 b = some (xO 9 fs)) (hC : xC w d mX11_need [.ref b, .int a0] P (xThr q P1)) (hq : Q (.threw q) P1) : X w mX11_numberNow (d + 1) Q 14 ls (.int a0 :: .ref b :: st) P := X_callV (M := mX11_numberNow) (MC := mX11_need) (As := [.int a0]) (T := TX11) (dX11_numberNow_14) calX11_need xw_448 xw_449 xw_450 rfl rfl hP hC hst (fun v P2 h => by cases h.1) (fun q2 P2 h => by obtain ⟨h1, rfl⟩ := h; cases h1; exact Xt_out rfl hq)
theorem dX11_numberNow_17 : decode cX11_numberNow 17 = .ok (.aload_n 0, 1) := by decide +kernel
theorem sX11_numberNow_17 {l1 : Option Value} {x : Nat} (k : X w mX11_numberNow d Q 18 [some (.ref x), l1] (.ref x :: st) P) : X w mX11_numberNow d Q 17 [some (.ref x), l1] st P := X_aload_n (M := mX11_numberNow) (dX11_numberNow_17) rfl rfl k
theorem dX11_numberNow_18 : decode cX11_numberNow 18 = .ok (.getfield 105, 3) := by decide +kernel
theorem sX11_numberNow_18 {a : Nat} {fs : List Value} {v : Int32} (hP : P.1 a = some (xO 9 fs)) (hv : fs[27]? = some (.int v)) (k : X w mX11_numberNow d Q 21 ls (.int v :: st) P) : X w mX11_numberNow d Q 18 ls (.ref a :: st) P := X_get (M := mX11_numberNow) (j := 27) (T := TX11) (dX11_numberNow_18) rfl (by decide) x_in11 xw_435 hP hv k
theorem dX11_numberNow_21 : decode cX11_numberNow 21 = .ok (.istore_n 1, 1) := by decide +kernel
theorem sX11_numberNow_21 {l0 l1 : Option Value} {x : Int32} (hn : xnl l0 = true) (k : X w mX11_numberNow d Q 22 [l0, some (.int x)] st P) : X w mX11_numberNow d Q 21 [l0, l1] (.int x :: st) P := X_istore_n (M := mX11_numberNow) (dX11_numberNow_21) rfl (by decide) rfl (xnl_p (ls := [l0, l1]) (j := 0) rfl hn) k
theorem dX11_numberNow_22 : decode cX11_numberNow 22 = .ok (.aload_n 0, 1) := by decide +kernel
theorem sX11_numberNow_22 {l1 : Option Value} {x : Nat} (k : X w mX11_numberNow d Q 23 [some (.ref x), l1] (.ref x :: st) P) : X w mX11_numberNow d Q 22 [some (.ref x), l1] st P := X_aload_n (M := mX11_numberNow) (dX11_numberNow_22) rfl rfl k
theorem dX11_numberNow_23 : decode cX11_numberNow 23 = .ok (.invokevirtual 131, 3) := by decide +kernel
theorem sX11_numberNow_23_g {b : Nat} {fs : List Value}  {Qc : Outcome → xH → Prop} (hst : (st.map fun v => v.category).sum ≤ 8) (hP : P.1 b = some (xO 9 fs)) (hC : xC w d mX11_go [.ref b] P Qc) (kr : ∀ v P1, Qc (.returned v) P1 → X w mX11_numberNow (d + 1) Q 26 ls (v.toList ++ st) P1) (kt : ∀ q P1, Qc (.threw q) P1 → Xt w mX11_numberNow (d + 1) Q 23 ls st P1 q) : X w mX11_numberNow (d + 1) Q 23 ls (.ref b :: st) P := X_callV (M := mX11_numberNow) (MC := mX11_go) (As := []) (T := TX11) (dX11_numberNow_23) calX11_go xw_451 xw_452 xw_453 rfl rfl hP hC hst kr kt
theorem sX11_numberNow_23 {b : Nat} {fs : List Value}  {P1 : xH} (hst : (st.map fun v => v.category).sum ≤ 8) (hP : P.1 b = some (xO 9 fs)) (hC : xC w d mX11_go [.ref b] P (xRet none P1)) (k : X w mX11_numberNow (d + 1) Q 26 ls st P1) : X w mX11_numberNow (d + 1) Q 23 ls (.ref b :: st) P := X_callV (M := mX11_numberNow) (MC := mX11_go) (As := []) (T := TX11) (dX11_numberNow_23) calX11_go xw_451 xw_452 xw_453 rfl rfl hP hC hst (fun v P2 h => by obtain ⟨h1, rfl⟩ := h; cases h1; exact k) (fun q P2 h => by cases h.1)
theorem sX11_numberNow_23_r {b : Nat} {fs : List Value}  {Rp : xH → Prop} (hst : (st.map fun v => v.category).sum ≤ 8) (hP : P.1 b = some (xO 9 fs)) (hC : xC w d mX11_go [.ref b] P (xRl none Rp)) (k : ∀ P1, Rp P1 → X w mX11_numberNow (d + 1) Q 26 ls st P1) : X w mX11_numberNow (d + 1) Q 23 ls (.ref b :: st) P := X_callV (M := mX11_numberNow) (MC := mX11_go) (As := []) (T := TX11) (dX11_numberNow_23) calX11_go xw_451 xw_452 xw_453 rfl rfl hP hC hst (fun v P2 h => by obtain ⟨h1, hR⟩ := h; cases h1; exact k P2 hR) (fun q P2 h => by cases h.1)
theorem sX11_numberNow_23_t {b : Nat} {fs : List Value}  {q : Nat} {P1 : xH} (hst : (st.map fun v => v.category).sum ≤ 8) (hP : P.1 b = some (xO 9 fs)) (hC : xC w d mX11_go [.ref b] P (xThr q P1)) (hq : Q (.threw q) P1) : X w mX11_numberNow (d + 1) Q 23 ls (.ref b :: st) P := X_callV (M := mX11_numberNow) (MC := mX11_go) (As := []) (T := TX11) (dX11_numberNow_23) calX11_go xw_451 xw_452 xw_453 rfl rfl hP hC hst (fun v P2 h => by cases h.1) (fun q2 P2 h => by obtain ⟨h1, rfl⟩ := h; cases h1; exact Xt_out rfl hq)
theorem dX11_numberNow_26 : decode cX11_numberNow 26 = .ok (.iload_n 1, 1) := by decide +kernel
theorem sX11_numberNow_26 {l0 : Option Value} {x : Int32} (k : X w mX11_numberNow d Q 27 [l0, some (.int x)] (.int x :: st) P) : X w mX11_numberNow d Q 26 [l0, some (.int x)] st P := X_iload_n (M := mX11_numberNow) (dX11_numberNow_26) rfl rfl k
theorem dX11_numberNow_27 : decode cX11_numberNow 27 = .ok (.ireturn, 1) := by decide +kernel
theorem sX11_numberNow_27 {v : Int32} (hq : Q (.returned (some (.int v))) P) : X w mX11_numberNow d Q 27 ls [.int v] P := X_iret (M := mX11_numberNow) (dX11_numberNow_27) rfl hq
theorem dX11_tableOf_0 : decode cX11_tableOf 0 = .ok (.iconst (-1), 1) := by decide +kernel
theorem sX11_tableOf_0 (k : X w mX11_tableOf d Q 1 ls (.int (-1 : Int32) :: st) P) : X w mX11_tableOf d Q 0 ls st P := X_iconst (M := mX11_tableOf) (dX11_tableOf_0) (by decide) k
theorem dX11_tableOf_1 : decode cX11_tableOf 1 = .ok (.istore 4, 2) := by decide +kernel
theorem sX11_tableOf_1 {l0 l1 l2 l3 l4 l5 : Option Value} {x : Int32} (hn : xnl l3 = true) (k : X w mX11_tableOf d Q 3 [l0, l1, l2, l3, some (.int x), l5] st P) : X w mX11_tableOf d Q 1 [l0, l1, l2, l3, l4, l5] (.int x :: st) P := X_istore (M := mX11_tableOf) (dX11_tableOf_1) (by decide) rfl (xnl_p (ls := [l0, l1, l2, l3, l4, l5]) (j := 3) rfl hn) k
theorem dX11_tableOf_3 : decode cX11_tableOf 3 = .ok (.iconst 0, 1) := by decide +kernel
theorem sX11_tableOf_3 (k : X w mX11_tableOf d Q 4 ls (.int (0 : Int32) :: st) P) : X w mX11_tableOf d Q 3 ls st P := X_iconst (M := mX11_tableOf) (dX11_tableOf_3) (by decide) k
theorem dX11_tableOf_4 : decode cX11_tableOf 4 = .ok (.istore 5, 2) := by decide +kernel
theorem sX11_tableOf_4 {l0 l1 l2 l3 l4 l5 : Option Value} {x : Int32} (hn : xnl l4 = true) (k : X w mX11_tableOf d Q 6 [l0, l1, l2, l3, l4, some (.int x)] st P) : X w mX11_tableOf d Q 4 [l0, l1, l2, l3, l4, l5] (.int x :: st) P := X_istore (M := mX11_tableOf) (dX11_tableOf_4) (by decide) rfl (xnl_p (ls := [l0, l1, l2, l3, l4, l5]) (j := 4) rfl hn) k
theorem dX11_tableOf_6 : decode cX11_tableOf 6 = .ok (.iload 5, 2) := by decide +kernel
theorem sX11_tableOf_6 {l0 l1 l2 l3 l4 : Option Value} {x : Int32} (k : X w mX11_tableOf d Q 8 [l0, l1, l2, l3, l4, some (.int x)] (.int x :: st) P) : X w mX11_tableOf d Q 6 [l0, l1, l2, l3, l4, some (.int x)] st P := X_iload (M := mX11_tableOf) (dX11_tableOf_6) rfl k
theorem dX11_tableOf_8 : decode cX11_tableOf 8 = .ok (.aload_n 0, 1) := by decide +kernel
theorem sX11_tableOf_8 {l1 l2 l3 l4 l5 : Option Value} {x : Nat} (k : X w mX11_tableOf d Q 9 [some (.ref x), l1, l2, l3, l4, l5] (.ref x :: st) P) : X w mX11_tableOf d Q 8 [some (.ref x), l1, l2, l3, l4, l5] st P := X_aload_n (M := mX11_tableOf) (dX11_tableOf_8) rfl rfl k
theorem dX11_tableOf_9 : decode cX11_tableOf 9 = .ok (.getfield 13, 3) := by decide +kernel
theorem sX11_tableOf_9 {a : Nat} {fs : List Value} {v : Nat} (hP : P.1 a = some (xO 9 fs)) (hv : fs[4]? = some (.ref v)) (k : X w mX11_tableOf d Q 12 ls (.ref v :: st) P) : X w mX11_tableOf d Q 9 ls (.ref a :: st) P := X_get (M := mX11_tableOf) (j := 4) (T := TX11) (dX11_tableOf_9) rfl (by decide) x_in11 xw_405 hP hv k
theorem dX11_tableOf_12 : decode cX11_tableOf 12 = .ok (.iload_n 3, 1) := by decide +kernel
theorem sX11_tableOf_12 {l0 l1 l2 l4 l5 : Option Value} {x : Int32} (k : X w mX11_tableOf d Q 13 [l0, l1, l2, some (.int x), l4, l5] (.int x :: st) P) : X w mX11_tableOf d Q 12 [l0, l1, l2, some (.int x), l4, l5] st P := X_iload_n (M := mX11_tableOf) (dX11_tableOf_12) rfl rfl k
theorem dX11_tableOf_13 : decode cX11_tableOf 13 = .ok (.iaload, 1) := by decide +kernel
theorem sX11_tableOf_13 {a n : Nat} {f : Nat → Int32} {i : Int32} (hP : P.1 a = some (xA 0 n f)) (hi : vp_in i n) (k : X w mX11_tableOf d Q 14 ls (.int (f i.toNatClampNeg) :: st) P) : X w mX11_tableOf d Q 13 ls (.int i :: .ref a :: st) P := X_iald (M := mX11_tableOf) (dX11_tableOf_13) hP hi k
theorem dX11_tableOf_14 : decode cX11_tableOf 14 = .ok (.if_icmp .ge 35, 3) := by decide +kernel
theorem sX11_tableOf_14 {x y : Int32} (kt : y ≤ x → X w mX11_tableOf d Q 49 ls st P) (kf : ¬ y ≤ x → X w mX11_tableOf d Q 17 ls st P) : X w mX11_tableOf d Q 14 ls (.int y :: .int x :: st) P := X_icmp_ge (M := mX11_tableOf) (dX11_tableOf_14) (by decide) kt kf
theorem dX11_tableOf_17 : decode cX11_tableOf 17 = .ok (.aload_n 0, 1) := by decide +kernel
theorem sX11_tableOf_17 {l1 l2 l3 l4 l5 : Option Value} {x : Nat} (k : X w mX11_tableOf d Q 18 [some (.ref x), l1, l2, l3, l4, l5] (.ref x :: st) P) : X w mX11_tableOf d Q 17 [some (.ref x), l1, l2, l3, l4, l5] st P := X_aload_n (M := mX11_tableOf) (dX11_tableOf_17) rfl rfl k
theorem dX11_tableOf_18 : decode cX11_tableOf 18 = .ok (.getfield 16, 3) := by decide +kernel
theorem sX11_tableOf_18 {a : Nat} {fs : List Value} {v : Nat} (hP : P.1 a = some (xO 9 fs)) (hv : fs[5]? = some (.ref v)) (k : X w mX11_tableOf d Q 21 ls (.ref v :: st) P) : X w mX11_tableOf d Q 18 ls (.ref a :: st) P := X_get (M := mX11_tableOf) (j := 5) (T := TX11) (dX11_tableOf_18) rfl (by decide) x_in11 xw_406 hP hv k
theorem dX11_tableOf_21 : decode cX11_tableOf 21 = .ok (.bipush 12, 2) := by decide +kernel
theorem sX11_tableOf_21 (k : X w mX11_tableOf d Q 23 ls (.int (12 : Int32) :: st) P) : X w mX11_tableOf d Q 21 ls st P := X_bipush (M := mX11_tableOf) (dX11_tableOf_21) (by decide) k
theorem dX11_tableOf_23 : decode cX11_tableOf 23 = .ok (.iload_n 3, 1) := by decide +kernel
theorem sX11_tableOf_23 {l0 l1 l2 l4 l5 : Option Value} {x : Int32} (k : X w mX11_tableOf d Q 24 [l0, l1, l2, some (.int x), l4, l5] (.int x :: st) P) : X w mX11_tableOf d Q 23 [l0, l1, l2, some (.int x), l4, l5] st P := X_iload_n (M := mX11_tableOf) (dX11_tableOf_23) rfl rfl k
theorem dX11_tableOf_24 : decode cX11_tableOf 24 = .ok (.imul, 1) := by decide +kernel
theorem sX11_tableOf_24 {x y : Int32} (k : X w mX11_tableOf d Q 25 ls (.int (x * y) :: st) P) : X w mX11_tableOf d Q 24 ls (.int y :: .int x :: st) P := X_imul (M := mX11_tableOf) (dX11_tableOf_24) k
theorem dX11_tableOf_25 : decode cX11_tableOf 25 = .ok (.iload 5, 2) := by decide +kernel
theorem sX11_tableOf_25 {l0 l1 l2 l3 l4 : Option Value} {x : Int32} (k : X w mX11_tableOf d Q 27 [l0, l1, l2, l3, l4, some (.int x)] (.int x :: st) P) : X w mX11_tableOf d Q 25 [l0, l1, l2, l3, l4, some (.int x)] st P := X_iload (M := mX11_tableOf) (dX11_tableOf_25) rfl k
theorem dX11_tableOf_27 : decode cX11_tableOf 27 = .ok (.iadd, 1) := by decide +kernel
theorem sX11_tableOf_27 {x y : Int32} (k : X w mX11_tableOf d Q 28 ls (.int (x + y) :: st) P) : X w mX11_tableOf d Q 27 ls (.int y :: .int x :: st) P := X_iadd (M := mX11_tableOf) (dX11_tableOf_27) k
theorem dX11_tableOf_28 : decode cX11_tableOf 28 = .ok (.laload, 1) := by decide +kernel
theorem sX11_tableOf_28 {a n : Nat} {f : Nat → Int64} {i : Int32} (hP : P.1 a = some (xJ n f)) (hi : vp_in i n) (k : X w mX11_tableOf d Q 29 ls (.long (f i.toNatClampNeg) :: st) P) : X w mX11_tableOf d Q 28 ls (.int i :: .ref a :: st) P := X_lald (M := mX11_tableOf) (dX11_tableOf_28) hP hi k
theorem dX11_tableOf_29 : decode cX11_tableOf 29 = .ok (.lload_n 1, 1) := by decide +kernel
theorem sX11_tableOf_29 {l0 l2 l3 l4 l5 : Option Value} {x : Int64} (k : X w mX11_tableOf d Q 30 [l0, some (.long x), l2, l3, l4, l5] (.long x :: st) P) : X w mX11_tableOf d Q 29 [l0, some (.long x), l2, l3, l4, l5] st P := X_lload_n (M := mX11_tableOf) (dX11_tableOf_29) rfl rfl k
theorem dX11_tableOf_30 : decode cX11_tableOf 30 = .ok (.lcmp, 1) := by decide +kernel
theorem sX11_tableOf_30 {x y : Int64} (k : X w mX11_tableOf d Q 31 ls (.int (lg_cmp x y) :: st) P) : X w mX11_tableOf d Q 30 ls (.long y :: .long x :: st) P := X_lcmp (M := mX11_tableOf) (dX11_tableOf_30) k
theorem dX11_tableOf_31 : decode cX11_tableOf 31 = .ok (.ifCond .ne 8, 3) := by decide +kernel
theorem sX11_tableOf_31 {x : Int32} (kt : ¬ x = 0 → X w mX11_tableOf d Q 39 ls st P) (kf : x = 0 → X w mX11_tableOf d Q 34 ls st P) : X w mX11_tableOf d Q 31 ls (.int x :: st) P := X_if_ne (M := mX11_tableOf) (dX11_tableOf_31) (by decide) kt kf
theorem dX11_tableOf_34 : decode cX11_tableOf 34 = .ok (.iload 5, 2) := by decide +kernel
theorem sX11_tableOf_34 {l0 l1 l2 l3 l4 : Option Value} {x : Int32} (k : X w mX11_tableOf d Q 36 [l0, l1, l2, l3, l4, some (.int x)] (.int x :: st) P) : X w mX11_tableOf d Q 34 [l0, l1, l2, l3, l4, some (.int x)] st P := X_iload (M := mX11_tableOf) (dX11_tableOf_34) rfl k
theorem dX11_tableOf_36 : decode cX11_tableOf 36 = .ok (.goto 5, 3) := by decide +kernel
theorem sX11_tableOf_36 (k : X w mX11_tableOf d Q 41 ls st P) : X w mX11_tableOf d Q 36 ls st P := X_goto (M := mX11_tableOf) (dX11_tableOf_36) (by decide) k
theorem dX11_tableOf_39 : decode cX11_tableOf 39 = .ok (.iload 4, 2) := by decide +kernel
theorem sX11_tableOf_39 {l0 l1 l2 l3 l5 : Option Value} {x : Int32} (k : X w mX11_tableOf d Q 41 [l0, l1, l2, l3, some (.int x), l5] (.int x :: st) P) : X w mX11_tableOf d Q 39 [l0, l1, l2, l3, some (.int x), l5] st P := X_iload (M := mX11_tableOf) (dX11_tableOf_39) rfl k
theorem dX11_tableOf_41 : decode cX11_tableOf 41 = .ok (.istore 4, 2) := by decide +kernel
theorem sX11_tableOf_41 {l0 l1 l2 l3 l4 l5 : Option Value} {x : Int32} (hn : xnl l3 = true) (k : X w mX11_tableOf d Q 43 [l0, l1, l2, l3, some (.int x), l5] st P) : X w mX11_tableOf d Q 41 [l0, l1, l2, l3, l4, l5] (.int x :: st) P := X_istore (M := mX11_tableOf) (dX11_tableOf_41) (by decide) rfl (xnl_p (ls := [l0, l1, l2, l3, l4, l5]) (j := 3) rfl hn) k
theorem dX11_tableOf_43 : decode cX11_tableOf 43 = .ok (.iinc 5 1, 3) := by decide +kernel
theorem sX11_tableOf_43 {l0 l1 l2 l3 l4 : Option Value} {x : Int32} (hn : xnl l4 = true) (k : X w mX11_tableOf d Q 46 [l0, l1, l2, l3, l4, some (.int (x + (1 : Int32)))] st P) : X w mX11_tableOf d Q 43 [l0, l1, l2, l3, l4, some (.int x)] st P := X_iinc (M := mX11_tableOf) (dX11_tableOf_43) rfl (by rfl) (by decide) rfl (xnl_p (ls := [l0, l1, l2, l3, l4, some (.int x)]) (j := 4) rfl hn) k
theorem dX11_tableOf_46 : decode cX11_tableOf 46 = .ok (.goto (-40), 3) := by decide +kernel
theorem sX11_tableOf_46 (k : X w mX11_tableOf d Q 6 ls st P) : X w mX11_tableOf d Q 46 ls st P := X_goto (M := mX11_tableOf) (dX11_tableOf_46) (by decide) k
theorem dX11_tableOf_49 : decode cX11_tableOf 49 = .ok (.iload 4, 2) := by decide +kernel
theorem sX11_tableOf_49 {l0 l1 l2 l3 l5 : Option Value} {x : Int32} (k : X w mX11_tableOf d Q 51 [l0, l1, l2, l3, some (.int x), l5] (.int x :: st) P) : X w mX11_tableOf d Q 49 [l0, l1, l2, l3, some (.int x), l5] st P := X_iload (M := mX11_tableOf) (dX11_tableOf_49) rfl k
theorem dX11_tableOf_51 : decode cX11_tableOf 51 = .ok (.ireturn, 1) := by decide +kernel
theorem sX11_tableOf_51 {v : Int32} (hq : Q (.returned (some (.int v))) P) : X w mX11_tableOf d Q 51 ls [.int v] P := X_iret (M := mX11_tableOf) (dX11_tableOf_51) rfl hq
theorem dX11_axis_0 : decode cX11_axis 0 = .ok (.iconst 0, 1) := by decide +kernel
theorem sX11_axis_0 (k : X w mX11_axis d Q 1 ls (.int (0 : Int32) :: st) P) : X w mX11_axis d Q 0 ls st P := X_iconst (M := mX11_axis) (dX11_axis_0) (by decide) k
theorem dX11_axis_1 : decode cX11_axis 1 = .ok (.istore_n 3, 1) := by decide +kernel
theorem sX11_axis_1 {l0 l1 l2 l3 : Option Value} {x : Int32} (hn : xnl l2 = true) (k : X w mX11_axis d Q 2 [l0, l1, l2, some (.int x)] st P) : X w mX11_axis d Q 1 [l0, l1, l2, l3] (.int x :: st) P := X_istore_n (M := mX11_axis) (dX11_axis_1) rfl (by decide) rfl (xnl_p (ls := [l0, l1, l2, l3]) (j := 2) rfl hn) k
theorem dX11_axis_2 : decode cX11_axis 2 = .ok (.aload_n 0, 1) := by decide +kernel
theorem sX11_axis_2 {l1 l2 l3 : Option Value} {x : Nat} (k : X w mX11_axis d Q 3 [some (.ref x), l1, l2, l3] (.ref x :: st) P) : X w mX11_axis d Q 2 [some (.ref x), l1, l2, l3] st P := X_aload_n (M := mX11_axis) (dX11_axis_2) rfl rfl k
theorem dX11_axis_3 : decode cX11_axis 3 = .ok (.getfield 117, 3) := by decide +kernel
theorem sX11_axis_3 {a : Nat} {fs : List Value} {v : Int32} (hP : P.1 a = some (xO 9 fs)) (hv : fs[28]? = some (.int v)) (k : X w mX11_axis d Q 6 ls (.int v :: st) P) : X w mX11_axis d Q 3 ls (.ref a :: st) P := X_get (M := mX11_axis) (j := 28) (T := TX11) (dX11_axis_3) rfl (by decide) x_in11 xw_441 hP hv k
theorem dX11_axis_6 : decode cX11_axis 6 = .ok (.ifCond .eq 86, 3) := by decide +kernel
theorem sX11_axis_6 {x : Int32} (kt : x = 0 → X w mX11_axis d Q 92 ls st P) (kf : ¬ x = 0 → X w mX11_axis d Q 9 ls st P) : X w mX11_axis d Q 6 ls (.int x :: st) P := X_if_eq (M := mX11_axis) (dX11_axis_6) (by decide) kt kf
theorem dX11_axis_9 : decode cX11_axis 9 = .ok (.iload_n 3, 1) := by decide +kernel
theorem sX11_axis_9 {l0 l1 l2 : Option Value} {x : Int32} (k : X w mX11_axis d Q 10 [l0, l1, l2, some (.int x)] (.int x :: st) P) : X w mX11_axis d Q 9 [l0, l1, l2, some (.int x)] st P := X_iload_n (M := mX11_axis) (dX11_axis_9) rfl rfl k
theorem dX11_axis_10 : decode cX11_axis 10 = .ok (.iconst 4, 1) := by decide +kernel
theorem sX11_axis_10 (k : X w mX11_axis d Q 11 ls (.int (4 : Int32) :: st) P) : X w mX11_axis d Q 10 ls st P := X_iconst (M := mX11_axis) (dX11_axis_10) (by decide) k
theorem dX11_axis_11 : decode cX11_axis 11 = .ok (.if_icmp .ge 81, 3) := by decide +kernel
theorem sX11_axis_11 {x y : Int32} (kt : y ≤ x → X w mX11_axis d Q 92 ls st P) (kf : ¬ y ≤ x → X w mX11_axis d Q 14 ls st P) : X w mX11_axis d Q 11 ls (.int y :: .int x :: st) P := X_icmp_ge (M := mX11_axis) (dX11_axis_11) (by decide) kt kf
theorem dX11_axis_14 : decode cX11_axis 14 = .ok (.iload_n 3, 1) := by decide +kernel
theorem sX11_axis_14 {l0 l1 l2 : Option Value} {x : Int32} (k : X w mX11_axis d Q 15 [l0, l1, l2, some (.int x)] (.int x :: st) P) : X w mX11_axis d Q 14 [l0, l1, l2, some (.int x)] st P := X_iload_n (M := mX11_axis) (dX11_axis_14) rfl rfl k
theorem dX11_axis_15 : decode cX11_axis 15 = .ok (.ifCond .eq 11, 3) := by decide +kernel
theorem sX11_axis_15 {x : Int32} (kt : x = 0 → X w mX11_axis d Q 26 ls st P) (kf : ¬ x = 0 → X w mX11_axis d Q 18 ls st P) : X w mX11_axis d Q 15 ls (.int x :: st) P := X_if_eq (M := mX11_axis) (dX11_axis_15) (by decide) kt kf
theorem dX11_axis_18 : decode cX11_axis 18 = .ok (.aload_n 0, 1) := by decide +kernel
theorem sX11_axis_18 {l1 l2 l3 : Option Value} {x : Nat} (k : X w mX11_axis d Q 19 [some (.ref x), l1, l2, l3] (.ref x :: st) P) : X w mX11_axis d Q 18 [some (.ref x), l1, l2, l3] st P := X_aload_n (M := mX11_axis) (dX11_axis_18) rfl rfl k
theorem dX11_axis_19 : decode cX11_axis 19 = .ok (.getfield 108, 3) := by decide +kernel
theorem sX11_axis_19 {a : Nat} {fs : List Value} {v : Int32} (hP : P.1 a = some (xO 9 fs)) (hv : fs[25]? = some (.int v)) (k : X w mX11_axis d Q 22 ls (.int v :: st) P) : X w mX11_axis d Q 19 ls (.ref a :: st) P := X_get (M := mX11_axis) (j := 25) (T := TX11) (dX11_axis_19) rfl (by decide) x_in11 xw_436 hP hv k
theorem dX11_axis_22 : decode cX11_axis 22 = .ok (.iconst 2, 1) := by decide +kernel
theorem sX11_axis_22 (k : X w mX11_axis d Q 23 ls (.int (2 : Int32) :: st) P) : X w mX11_axis d Q 22 ls st P := X_iconst (M := mX11_axis) (dX11_axis_22) (by decide) k
theorem dX11_axis_23 : decode cX11_axis 23 = .ok (.if_icmp .ne 69, 3) := by decide +kernel
theorem sX11_axis_23 {x y : Int32} (kt : ¬ x = y → X w mX11_axis d Q 92 ls st P) (kf : x = y → X w mX11_axis d Q 26 ls st P) : X w mX11_axis d Q 23 ls (.int y :: .int x :: st) P := X_icmp_ne (M := mX11_axis) (dX11_axis_23) (by decide) kt kf
theorem dX11_axis_26 : decode cX11_axis 26 = .ok (.aload_n 0, 1) := by decide +kernel
theorem sX11_axis_26 {l1 l2 l3 : Option Value} {x : Nat} (k : X w mX11_axis d Q 27 [some (.ref x), l1, l2, l3] (.ref x :: st) P) : X w mX11_axis d Q 26 [some (.ref x), l1, l2, l3] st P := X_aload_n (M := mX11_axis) (dX11_axis_26) rfl rfl k
theorem dX11_axis_27 : decode cX11_axis 27 = .ok (.aload_n 0, 1) := by decide +kernel
theorem sX11_axis_27 {l1 l2 l3 : Option Value} {x : Nat} (k : X w mX11_axis d Q 28 [some (.ref x), l1, l2, l3] (.ref x :: st) P) : X w mX11_axis d Q 27 [some (.ref x), l1, l2, l3] st P := X_aload_n (M := mX11_axis) (dX11_axis_27) rfl rfl k
theorem dX11_axis_28 : decode cX11_axis 28 = .ok (.getfield 108, 3) := by decide +kernel
theorem sX11_axis_28 {a : Nat} {fs : List Value} {v : Int32} (hP : P.1 a = some (xO 9 fs)) (hv : fs[25]? = some (.int v)) (k : X w mX11_axis d Q 31 ls (.int v :: st) P) : X w mX11_axis d Q 28 ls (.ref a :: st) P := X_get (M := mX11_axis) (j := 25) (T := TX11) (dX11_axis_28) rfl (by decide) x_in11 xw_436 hP hv k
theorem dX11_axis_31 : decode cX11_axis 31 = .ok (.iconst 2, 1) := by decide +kernel
theorem sX11_axis_31 (k : X w mX11_axis d Q 32 ls (.int (2 : Int32) :: st) P) : X w mX11_axis d Q 31 ls st P := X_iconst (M := mX11_axis) (dX11_axis_31) (by decide) k
theorem dX11_axis_32 : decode cX11_axis 32 = .ok (.if_icmp .ne 25, 3) := by decide +kernel
theorem sX11_axis_32 {x y : Int32} (kt : ¬ x = y → X w mX11_axis d Q 57 ls st P) (kf : x = y → X w mX11_axis d Q 35 ls st P) : X w mX11_axis d Q 32 ls (.int y :: .int x :: st) P := X_icmp_ne (M := mX11_axis) (dX11_axis_32) (by decide) kt kf
theorem dX11_axis_35 : decode cX11_axis 35 = .ok (.iload_n 3, 1) := by decide +kernel
theorem sX11_axis_35 {l0 l1 l2 : Option Value} {x : Int32} (k : X w mX11_axis d Q 36 [l0, l1, l2, some (.int x)] (.int x :: st) P) : X w mX11_axis d Q 35 [l0, l1, l2, some (.int x)] st P := X_iload_n (M := mX11_axis) (dX11_axis_35) rfl rfl k
theorem dX11_axis_36 : decode cX11_axis 36 = .ok (.ifCond .eq 17, 3) := by decide +kernel
theorem sX11_axis_36 {x : Int32} (kt : x = 0 → X w mX11_axis d Q 53 ls st P) (kf : ¬ x = 0 → X w mX11_axis d Q 39 ls st P) : X w mX11_axis d Q 36 ls (.int x :: st) P := X_if_eq (M := mX11_axis) (dX11_axis_36) (by decide) kt kf
theorem dX11_axis_39 : decode cX11_axis 39 = .ok (.aload_n 0, 1) := by decide +kernel
theorem sX11_axis_39 {l1 l2 l3 : Option Value} {x : Nat} (k : X w mX11_axis d Q 40 [some (.ref x), l1, l2, l3] (.ref x :: st) P) : X w mX11_axis d Q 39 [some (.ref x), l1, l2, l3] st P := X_aload_n (M := mX11_axis) (dX11_axis_39) rfl rfl k
theorem dX11_axis_40 : decode cX11_axis 40 = .ok (.getfield 105, 3) := by decide +kernel
theorem sX11_axis_40 {a : Nat} {fs : List Value} {v : Int32} (hP : P.1 a = some (xO 9 fs)) (hv : fs[27]? = some (.int v)) (k : X w mX11_axis d Q 43 ls (.int v :: st) P) : X w mX11_axis d Q 40 ls (.ref a :: st) P := X_get (M := mX11_axis) (j := 27) (T := TX11) (dX11_axis_40) rfl (by decide) x_in11 xw_435 hP hv k
theorem dX11_axis_43 : decode cX11_axis 43 = .ok (.aload_n 1, 1) := by decide +kernel
theorem sX11_axis_43 {l0 l2 l3 : Option Value} {x : Nat} (k : X w mX11_axis d Q 44 [l0, some (.ref x), l2, l3] (.ref x :: st) P) : X w mX11_axis d Q 43 [l0, some (.ref x), l2, l3] st P := X_aload_n (M := mX11_axis) (dX11_axis_43) rfl rfl k
theorem dX11_axis_44 : decode cX11_axis 44 = .ok (.iload_n 2, 1) := by decide +kernel
theorem sX11_axis_44 {l0 l1 l3 : Option Value} {x : Int32} (k : X w mX11_axis d Q 45 [l0, l1, some (.int x), l3] (.int x :: st) P) : X w mX11_axis d Q 44 [l0, l1, some (.int x), l3] st P := X_iload_n (M := mX11_axis) (dX11_axis_44) rfl rfl k
theorem dX11_axis_45 : decode cX11_axis 45 = .ok (.iload_n 3, 1) := by decide +kernel
theorem sX11_axis_45 {l0 l1 l2 : Option Value} {x : Int32} (k : X w mX11_axis d Q 46 [l0, l1, l2, some (.int x)] (.int x :: st) P) : X w mX11_axis d Q 45 [l0, l1, l2, some (.int x)] st P := X_iload_n (M := mX11_axis) (dX11_axis_45) rfl rfl k
theorem dX11_axis_46 : decode cX11_axis 46 = .ok (.iadd, 1) := by decide +kernel
theorem sX11_axis_46 {x y : Int32} (k : X w mX11_axis d Q 47 ls (.int (x + y) :: st) P) : X w mX11_axis d Q 46 ls (.int y :: .int x :: st) P := X_iadd (M := mX11_axis) (dX11_axis_46) k
theorem dX11_axis_47 : decode cX11_axis 47 = .ok (.iconst 1, 1) := by decide +kernel
theorem sX11_axis_47 (k : X w mX11_axis d Q 48 ls (.int (1 : Int32) :: st) P) : X w mX11_axis d Q 47 ls st P := X_iconst (M := mX11_axis) (dX11_axis_47) (by decide) k
theorem dX11_axis_48 : decode cX11_axis 48 = .ok (.isub, 1) := by decide +kernel
theorem sX11_axis_48 {x y : Int32} (k : X w mX11_axis d Q 49 ls (.int (x - y) :: st) P) : X w mX11_axis d Q 48 ls (.int y :: .int x :: st) P := X_isub (M := mX11_axis) (dX11_axis_48) k
theorem dX11_axis_49 : decode cX11_axis 49 = .ok (.iaload, 1) := by decide +kernel
theorem sX11_axis_49 {a n : Nat} {f : Nat → Int32} {i : Int32} (hP : P.1 a = some (xA 0 n f)) (hi : vp_in i n) (k : X w mX11_axis d Q 50 ls (.int (f i.toNatClampNeg) :: st) P) : X w mX11_axis d Q 49 ls (.int i :: .ref a :: st) P := X_iald (M := mX11_axis) (dX11_axis_49) hP hi k
theorem dX11_axis_50 : decode cX11_axis 50 = .ok (.if_icmp .le 7, 3) := by decide +kernel
theorem sX11_axis_50 {x y : Int32} (kt : x ≤ y → X w mX11_axis d Q 57 ls st P) (kf : ¬ x ≤ y → X w mX11_axis d Q 53 ls st P) : X w mX11_axis d Q 50 ls (.int y :: .int x :: st) P := X_icmp_le (M := mX11_axis) (dX11_axis_50) (by decide) kt kf
theorem dX11_axis_53 : decode cX11_axis 53 = .ok (.iconst 1, 1) := by decide +kernel
theorem sX11_axis_53 (k : X w mX11_axis d Q 54 ls (.int (1 : Int32) :: st) P) : X w mX11_axis d Q 53 ls st P := X_iconst (M := mX11_axis) (dX11_axis_53) (by decide) k
theorem dX11_axis_54 : decode cX11_axis 54 = .ok (.goto 4, 3) := by decide +kernel
theorem sX11_axis_54 (k : X w mX11_axis d Q 58 ls st P) : X w mX11_axis d Q 54 ls st P := X_goto (M := mX11_axis) (dX11_axis_54) (by decide) k
theorem dX11_axis_57 : decode cX11_axis 57 = .ok (.iconst 0, 1) := by decide +kernel
theorem sX11_axis_57 (k : X w mX11_axis d Q 58 ls (.int (0 : Int32) :: st) P) : X w mX11_axis d Q 57 ls st P := X_iconst (M := mX11_axis) (dX11_axis_57) (by decide) k
theorem dX11_axis_58 : decode cX11_axis 58 = .ok (.invokevirtual 127, 3) := by decide +kernel
theorem sX11_axis_58_g {b : Nat} {fs : List Value} {a0 : Int32} {Qc : Outcome → xH → Prop} (hst : (st.map fun v => v.category).sum ≤ 8) (hP : P.1 b = some (xO 9 fs)) (hC : xC w d mX11_need [.ref b, .int a0] P Qc) (kr : ∀ v P1, Qc (.returned v) P1 → X w mX11_axis (d + 1) Q 61 ls (v.toList ++ st) P1) (kt : ∀ q P1, Qc (.threw q) P1 → Xt w mX11_axis (d + 1) Q 58 ls st P1 q) : X w mX11_axis (d + 1) Q 58 ls (.int a0 :: .ref b :: st) P := X_callV (M := mX11_axis) (MC := mX11_need) (As := [.int a0]) (T := TX11) (dX11_axis_58) calX11_need xw_448 xw_449 xw_450 rfl rfl hP hC hst kr kt
theorem sX11_axis_58 {b : Nat} {fs : List Value} {a0 : Int32} {P1 : xH} (hst : (st.map fun v => v.category).sum ≤ 8) (hP : P.1 b = some (xO 9 fs)) (hC : xC w d mX11_need [.ref b, .int a0] P (xRet none P1)) (k : X w mX11_axis (d + 1) Q 61 ls st P1) : X w mX11_axis (d + 1) Q 58 ls (.int a0 :: .ref b :: st) P := X_callV (M := mX11_axis) (MC := mX11_need) (As := [.int a0]) (T := TX11) (dX11_axis_58) calX11_need xw_448 xw_449 xw_450 rfl rfl hP hC hst (fun v P2 h => by obtain ⟨h1, rfl⟩ := h; cases h1; exact k) (fun q P2 h => by cases h.1)
theorem sX11_axis_58_r {b : Nat} {fs : List Value} {a0 : Int32} {Rp : xH → Prop} (hst : (st.map fun v => v.category).sum ≤ 8) (hP : P.1 b = some (xO 9 fs)) (hC : xC w d mX11_need [.ref b, .int a0] P (xRl none Rp)) (k : ∀ P1, Rp P1 → X w mX11_axis (d + 1) Q 61 ls st P1) : X w mX11_axis (d + 1) Q 58 ls (.int a0 :: .ref b :: st) P := X_callV (M := mX11_axis) (MC := mX11_need) (As := [.int a0]) (T := TX11) (dX11_axis_58) calX11_need xw_448 xw_449 xw_450 rfl rfl hP hC hst (fun v P2 h => by obtain ⟨h1, hR⟩ := h; cases h1; exact k P2 hR) (fun q P2 h => by cases h.1)
theorem sX11_axis_58_t {b : Nat} {fs : List Value} {a0 : Int32} {q : Nat} {P1 : xH} (hst : (st.map fun v => v.category).sum ≤ 8) (hP : P.1 b = some (xO 9 fs)) (hC : xC w d mX11_need [.ref b, .int a0] P (xThr q P1)) (hq : Q (.threw q) P1) : X w mX11_axis (d + 1) Q 58 ls (.int a0 :: .ref b :: st) P := X_callV (M := mX11_axis) (MC := mX11_need) (As := [.int a0]) (T := TX11) (dX11_axis_58) calX11_need xw_448 xw_449 xw_450 rfl rfl hP hC hst (fun v P2 h => by cases h.1) (fun q2 P2 h => by obtain ⟨h1, rfl⟩ := h; cases h1; exact Xt_out rfl hq)
theorem dX11_axis_61 : decode cX11_axis 61 = .ok (.aload_n 1, 1) := by decide +kernel
theorem sX11_axis_61 {l0 l2 l3 : Option Value} {x : Nat} (k : X w mX11_axis d Q 62 [l0, some (.ref x), l2, l3] (.ref x :: st) P) : X w mX11_axis d Q 61 [l0, some (.ref x), l2, l3] st P := X_aload_n (M := mX11_axis) (dX11_axis_61) rfl rfl k
theorem dX11_axis_62 : decode cX11_axis 62 = .ok (.iload_n 2, 1) := by decide +kernel
theorem sX11_axis_62 {l0 l1 l3 : Option Value} {x : Int32} (k : X w mX11_axis d Q 63 [l0, l1, some (.int x), l3] (.int x :: st) P) : X w mX11_axis d Q 62 [l0, l1, some (.int x), l3] st P := X_iload_n (M := mX11_axis) (dX11_axis_62) rfl rfl k
theorem dX11_axis_63 : decode cX11_axis 63 = .ok (.iload_n 3, 1) := by decide +kernel
theorem sX11_axis_63 {l0 l1 l2 : Option Value} {x : Int32} (k : X w mX11_axis d Q 64 [l0, l1, l2, some (.int x)] (.int x :: st) P) : X w mX11_axis d Q 63 [l0, l1, l2, some (.int x)] st P := X_iload_n (M := mX11_axis) (dX11_axis_63) rfl rfl k
theorem dX11_axis_64 : decode cX11_axis 64 = .ok (.iadd, 1) := by decide +kernel
theorem sX11_axis_64 {x y : Int32} (k : X w mX11_axis d Q 65 ls (.int (x + y) :: st) P) : X w mX11_axis d Q 64 ls (.int y :: .int x :: st) P := X_iadd (M := mX11_axis) (dX11_axis_64) k
theorem dX11_axis_65 : decode cX11_axis 65 = .ok (.aload_n 0, 1) := by decide +kernel
theorem sX11_axis_65 {l1 l2 l3 : Option Value} {x : Nat} (k : X w mX11_axis d Q 66 [some (.ref x), l1, l2, l3] (.ref x :: st) P) : X w mX11_axis d Q 65 [some (.ref x), l1, l2, l3] st P := X_aload_n (M := mX11_axis) (dX11_axis_65) rfl rfl k
theorem dX11_axis_66 : decode cX11_axis 66 = .ok (.getfield 105, 3) := by decide +kernel
theorem sX11_axis_66 {a : Nat} {fs : List Value} {v : Int32} (hP : P.1 a = some (xO 9 fs)) (hv : fs[27]? = some (.int v)) (k : X w mX11_axis d Q 69 ls (.int v :: st) P) : X w mX11_axis d Q 66 ls (.ref a :: st) P := X_get (M := mX11_axis) (j := 27) (T := TX11) (dX11_axis_66) rfl (by decide) x_in11 xw_435 hP hv k
theorem dX11_axis_69 : decode cX11_axis 69 = .ok (.iastore, 1) := by decide +kernel
theorem sX11_axis_69 {a n : Nat} {f : Nat → Int32} {i x : Int32} (hP : P.1 a = some (xA 0 n f)) (hi : vp_in i n) (k : X w mX11_axis d Q 70 ls st (xs P a (xA 0 n (upd f i.toNatClampNeg x)))) : X w mX11_axis d Q 69 ls (.int x :: .int i :: .ref a :: st) P := X_iast (M := mX11_axis) (dX11_axis_69) hP hi k
theorem dX11_axis_70 : decode cX11_axis 70 = .ok (.iload_n 3, 1) := by decide +kernel
theorem sX11_axis_70 {l0 l1 l2 : Option Value} {x : Int32} (k : X w mX11_axis d Q 71 [l0, l1, l2, some (.int x)] (.int x :: st) P) : X w mX11_axis d Q 70 [l0, l1, l2, some (.int x)] st P := X_iload_n (M := mX11_axis) (dX11_axis_70) rfl rfl k
theorem dX11_axis_71 : decode cX11_axis 71 = .ok (.aload_n 0, 1) := by decide +kernel
theorem sX11_axis_71 {l1 l2 l3 : Option Value} {x : Nat} (k : X w mX11_axis d Q 72 [some (.ref x), l1, l2, l3] (.ref x :: st) P) : X w mX11_axis d Q 71 [some (.ref x), l1, l2, l3] st P := X_aload_n (M := mX11_axis) (dX11_axis_71) rfl rfl k
theorem dX11_axis_72 : decode cX11_axis 72 = .ok (.getfield 117, 3) := by decide +kernel
theorem sX11_axis_72 {a : Nat} {fs : List Value} {v : Int32} (hP : P.1 a = some (xO 9 fs)) (hv : fs[28]? = some (.int v)) (k : X w mX11_axis d Q 75 ls (.int v :: st) P) : X w mX11_axis d Q 72 ls (.ref a :: st) P := X_get (M := mX11_axis) (j := 28) (T := TX11) (dX11_axis_72) rfl (by decide) x_in11 xw_441 hP hv k
theorem dX11_axis_75 : decode cX11_axis 75 = .ok (.ifCond .eq 7, 3) := by decide +kernel
theorem sX11_axis_75 {x : Int32} (kt : x = 0 → X w mX11_axis d Q 82 ls st P) (kf : ¬ x = 0 → X w mX11_axis d Q 78 ls st P) : X w mX11_axis d Q 75 ls (.int x :: st) P := X_if_eq (M := mX11_axis) (dX11_axis_75) (by decide) kt kf
theorem dX11_axis_78 : decode cX11_axis 78 = .ok (.iconst 1, 1) := by decide +kernel
theorem sX11_axis_78 (k : X w mX11_axis d Q 79 ls (.int (1 : Int32) :: st) P) : X w mX11_axis d Q 78 ls st P := X_iconst (M := mX11_axis) (dX11_axis_78) (by decide) k
theorem dX11_axis_79 : decode cX11_axis 79 = .ok (.goto 4, 3) := by decide +kernel
theorem sX11_axis_79 (k : X w mX11_axis d Q 83 ls st P) : X w mX11_axis d Q 79 ls st P := X_goto (M := mX11_axis) (dX11_axis_79) (by decide) k
theorem dX11_axis_82 : decode cX11_axis 82 = .ok (.iconst 0, 1) := by decide +kernel
theorem sX11_axis_82 (k : X w mX11_axis d Q 83 ls (.int (0 : Int32) :: st) P) : X w mX11_axis d Q 82 ls st P := X_iconst (M := mX11_axis) (dX11_axis_82) (by decide) k
theorem dX11_axis_83 : decode cX11_axis 83 = .ok (.iadd, 1) := by decide +kernel
theorem sX11_axis_83 {x y : Int32} (k : X w mX11_axis d Q 84 ls (.int (x + y) :: st) P) : X w mX11_axis d Q 83 ls (.int y :: .int x :: st) P := X_iadd (M := mX11_axis) (dX11_axis_83) k
theorem dX11_axis_84 : decode cX11_axis 84 = .ok (.istore_n 3, 1) := by decide +kernel
theorem sX11_axis_84 {l0 l1 l2 l3 : Option Value} {x : Int32} (hn : xnl l2 = true) (k : X w mX11_axis d Q 85 [l0, l1, l2, some (.int x)] st P) : X w mX11_axis d Q 84 [l0, l1, l2, l3] (.int x :: st) P := X_istore_n (M := mX11_axis) (dX11_axis_84) rfl (by decide) rfl (xnl_p (ls := [l0, l1, l2, l3]) (j := 2) rfl hn) k
theorem dX11_axis_85 : decode cX11_axis 85 = .ok (.aload_n 0, 1) := by decide +kernel
theorem sX11_axis_85 {l1 l2 l3 : Option Value} {x : Nat} (k : X w mX11_axis d Q 86 [some (.ref x), l1, l2, l3] (.ref x :: st) P) : X w mX11_axis d Q 85 [some (.ref x), l1, l2, l3] st P := X_aload_n (M := mX11_axis) (dX11_axis_85) rfl rfl k
theorem dX11_axis_86 : decode cX11_axis 86 = .ok (.invokevirtual 131, 3) := by decide +kernel
theorem sX11_axis_86_g {b : Nat} {fs : List Value}  {Qc : Outcome → xH → Prop} (hst : (st.map fun v => v.category).sum ≤ 8) (hP : P.1 b = some (xO 9 fs)) (hC : xC w d mX11_go [.ref b] P Qc) (kr : ∀ v P1, Qc (.returned v) P1 → X w mX11_axis (d + 1) Q 89 ls (v.toList ++ st) P1) (kt : ∀ q P1, Qc (.threw q) P1 → Xt w mX11_axis (d + 1) Q 86 ls st P1 q) : X w mX11_axis (d + 1) Q 86 ls (.ref b :: st) P := X_callV (M := mX11_axis) (MC := mX11_go) (As := []) (T := TX11) (dX11_axis_86) calX11_go xw_451 xw_452 xw_453 rfl rfl hP hC hst kr kt
theorem sX11_axis_86 {b : Nat} {fs : List Value}  {P1 : xH} (hst : (st.map fun v => v.category).sum ≤ 8) (hP : P.1 b = some (xO 9 fs)) (hC : xC w d mX11_go [.ref b] P (xRet none P1)) (k : X w mX11_axis (d + 1) Q 89 ls st P1) : X w mX11_axis (d + 1) Q 86 ls (.ref b :: st) P := X_callV (M := mX11_axis) (MC := mX11_go) (As := []) (T := TX11) (dX11_axis_86) calX11_go xw_451 xw_452 xw_453 rfl rfl hP hC hst (fun v P2 h => by obtain ⟨h1, rfl⟩ := h; cases h1; exact k) (fun q P2 h => by cases h.1)
theorem sX11_axis_86_r {b : Nat} {fs : List Value}  {Rp : xH → Prop} (hst : (st.map fun v => v.category).sum ≤ 8) (hP : P.1 b = some (xO 9 fs)) (hC : xC w d mX11_go [.ref b] P (xRl none Rp)) (k : ∀ P1, Rp P1 → X w mX11_axis (d + 1) Q 89 ls st P1) : X w mX11_axis (d + 1) Q 86 ls (.ref b :: st) P := X_callV (M := mX11_axis) (MC := mX11_go) (As := []) (T := TX11) (dX11_axis_86) calX11_go xw_451 xw_452 xw_453 rfl rfl hP hC hst (fun v P2 h => by obtain ⟨h1, hR⟩ := h; cases h1; exact k P2 hR) (fun q P2 h => by cases h.1)
theorem sX11_axis_86_t {b : Nat} {fs : List Value}  {q : Nat} {P1 : xH} (hst : (st.map fun v => v.category).sum ≤ 8) (hP : P.1 b = some (xO 9 fs)) (hC : xC w d mX11_go [.ref b] P (xThr q P1)) (hq : Q (.threw q) P1) : X w mX11_axis (d + 1) Q 86 ls (.ref b :: st) P := X_callV (M := mX11_axis) (MC := mX11_go) (As := []) (T := TX11) (dX11_axis_86) calX11_go xw_451 xw_452 xw_453 rfl rfl hP hC hst (fun v P2 h => by cases h.1) (fun q2 P2 h => by obtain ⟨h1, rfl⟩ := h; cases h1; exact Xt_out rfl hq)
theorem dX11_axis_89 : decode cX11_axis 89 = .ok (.goto (-87), 3) := by decide +kernel
theorem sX11_axis_89 (k : X w mX11_axis d Q 2 ls st P) : X w mX11_axis d Q 89 ls st P := X_goto (M := mX11_axis) (dX11_axis_89) (by decide) k
theorem dX11_axis_92 : decode cX11_axis 92 = .ok (.iload_n 3, 1) := by decide +kernel
theorem sX11_axis_92 {l0 l1 l2 : Option Value} {x : Int32} (k : X w mX11_axis d Q 93 [l0, l1, l2, some (.int x)] (.int x :: st) P) : X w mX11_axis d Q 92 [l0, l1, l2, some (.int x)] st P := X_iload_n (M := mX11_axis) (dX11_axis_92) rfl rfl k
theorem dX11_axis_93 : decode cX11_axis 93 = .ok (.ireturn, 1) := by decide +kernel
theorem sX11_axis_93 {v : Int32} (hq : Q (.returned (some (.int v))) P) : X w mX11_axis d Q 93 ls [.int v] P := X_iret (M := mX11_axis) (dX11_axis_93) rfl hq
theorem dX11_readTable_0 : decode cX11_readTable 0 = .ok (.aload_n 0, 1) := by decide +kernel
theorem sX11_readTable_0 {l1 l2 : Option Value} {x : Nat} (k : X w mX11_readTable d Q 1 [some (.ref x), l1, l2] (.ref x :: st) P) : X w mX11_readTable d Q 0 [some (.ref x), l1, l2] st P := X_aload_n (M := mX11_readTable) (dX11_readTable_0) rfl rfl k
theorem dX11_readTable_1 : decode cX11_readTable 1 = .ok (.invokevirtual 131, 3) := by decide +kernel
theorem sX11_readTable_1_g {b : Nat} {fs : List Value}  {Qc : Outcome → xH → Prop} (hst : (st.map fun v => v.category).sum ≤ 8) (hP : P.1 b = some (xO 9 fs)) (hC : xC w d mX11_go [.ref b] P Qc) (kr : ∀ v P1, Qc (.returned v) P1 → X w mX11_readTable (d + 1) Q 4 ls (v.toList ++ st) P1) (kt : ∀ q P1, Qc (.threw q) P1 → Xt w mX11_readTable (d + 1) Q 1 ls st P1 q) : X w mX11_readTable (d + 1) Q 1 ls (.ref b :: st) P := X_callV (M := mX11_readTable) (MC := mX11_go) (As := []) (T := TX11) (dX11_readTable_1) calX11_go xw_451 xw_452 xw_453 rfl rfl hP hC hst kr kt
theorem sX11_readTable_1 {b : Nat} {fs : List Value}  {P1 : xH} (hst : (st.map fun v => v.category).sum ≤ 8) (hP : P.1 b = some (xO 9 fs)) (hC : xC w d mX11_go [.ref b] P (xRet none P1)) (k : X w mX11_readTable (d + 1) Q 4 ls st P1) : X w mX11_readTable (d + 1) Q 1 ls (.ref b :: st) P := X_callV (M := mX11_readTable) (MC := mX11_go) (As := []) (T := TX11) (dX11_readTable_1) calX11_go xw_451 xw_452 xw_453 rfl rfl hP hC hst (fun v P2 h => by obtain ⟨h1, rfl⟩ := h; cases h1; exact k) (fun q P2 h => by cases h.1)
theorem sX11_readTable_1_r {b : Nat} {fs : List Value}  {Rp : xH → Prop} (hst : (st.map fun v => v.category).sum ≤ 8) (hP : P.1 b = some (xO 9 fs)) (hC : xC w d mX11_go [.ref b] P (xRl none Rp)) (k : ∀ P1, Rp P1 → X w mX11_readTable (d + 1) Q 4 ls st P1) : X w mX11_readTable (d + 1) Q 1 ls (.ref b :: st) P := X_callV (M := mX11_readTable) (MC := mX11_go) (As := []) (T := TX11) (dX11_readTable_1) calX11_go xw_451 xw_452 xw_453 rfl rfl hP hC hst (fun v P2 h => by obtain ⟨h1, hR⟩ := h; cases h1; exact k P2 hR) (fun q P2 h => by cases h.1)
theorem sX11_readTable_1_t {b : Nat} {fs : List Value}  {q : Nat} {P1 : xH} (hst : (st.map fun v => v.category).sum ≤ 8) (hP : P.1 b = some (xO 9 fs)) (hC : xC w d mX11_go [.ref b] P (xThr q P1)) (hq : Q (.threw q) P1) : X w mX11_readTable (d + 1) Q 1 ls (.ref b :: st) P := X_callV (M := mX11_readTable) (MC := mX11_go) (As := []) (T := TX11) (dX11_readTable_1) calX11_go xw_451 xw_452 xw_453 rfl rfl hP hC hst (fun v P2 h => by cases h.1) (fun q2 P2 h => by obtain ⟨h1, rfl⟩ := h; cases h1; exact Xt_out rfl hq)
theorem dX11_readTable_4 : decode cX11_readTable 4 = .ok (.aload_n 0, 1) := by decide +kernel
theorem sX11_readTable_4 {l1 l2 : Option Value} {x : Nat} (k : X w mX11_readTable d Q 5 [some (.ref x), l1, l2] (.ref x :: st) P) : X w mX11_readTable d Q 4 [some (.ref x), l1, l2] st P := X_aload_n (M := mX11_readTable) (dX11_readTable_4) rfl rfl k
theorem dX11_readTable_5 : decode cX11_readTable 5 = .ok (.aload_n 0, 1) := by decide +kernel
theorem sX11_readTable_5 {l1 l2 : Option Value} {x : Nat} (k : X w mX11_readTable d Q 6 [some (.ref x), l1, l2] (.ref x :: st) P) : X w mX11_readTable d Q 5 [some (.ref x), l1, l2] st P := X_aload_n (M := mX11_readTable) (dX11_readTable_5) rfl rfl k
theorem dX11_readTable_6 : decode cX11_readTable 6 = .ok (.getfield 108, 3) := by decide +kernel
theorem sX11_readTable_6 {a : Nat} {fs : List Value} {v : Int32} (hP : P.1 a = some (xO 9 fs)) (hv : fs[25]? = some (.int v)) (k : X w mX11_readTable d Q 9 ls (.int v :: st) P) : X w mX11_readTable d Q 6 ls (.ref a :: st) P := X_get (M := mX11_readTable) (j := 25) (T := TX11) (dX11_readTable_6) rfl (by decide) x_in11 xw_436 hP hv k
theorem dX11_readTable_9 : decode cX11_readTable 9 = .ok (.iconst 1, 1) := by decide +kernel
theorem sX11_readTable_9 (k : X w mX11_readTable d Q 10 ls (.int (1 : Int32) :: st) P) : X w mX11_readTable d Q 9 ls st P := X_iconst (M := mX11_readTable) (dX11_readTable_9) (by decide) k
theorem dX11_readTable_10 : decode cX11_readTable 10 = .ok (.if_icmp .ne 37, 3) := by decide +kernel
theorem sX11_readTable_10 {x y : Int32} (kt : ¬ x = y → X w mX11_readTable d Q 47 ls st P) (kf : x = y → X w mX11_readTable d Q 13 ls st P) : X w mX11_readTable d Q 10 ls (.int y :: .int x :: st) P := X_icmp_ne (M := mX11_readTable) (dX11_readTable_10) (by decide) kt kf
theorem dX11_readTable_13 : decode cX11_readTable 13 = .ok (.aload_n 0, 1) := by decide +kernel
theorem sX11_readTable_13 {l1 l2 : Option Value} {x : Nat} (k : X w mX11_readTable d Q 14 [some (.ref x), l1, l2] (.ref x :: st) P) : X w mX11_readTable d Q 13 [some (.ref x), l1, l2] st P := X_aload_n (M := mX11_readTable) (dX11_readTable_13) rfl rfl k
theorem dX11_readTable_14 : decode cX11_readTable 14 = .ok (.aload_n 0, 1) := by decide +kernel
theorem sX11_readTable_14 {l1 l2 : Option Value} {x : Nat} (k : X w mX11_readTable d Q 15 [some (.ref x), l1, l2] (.ref x :: st) P) : X w mX11_readTable d Q 14 [some (.ref x), l1, l2] st P := X_aload_n (M := mX11_readTable) (dX11_readTable_14) rfl rfl k
theorem dX11_readTable_15 : decode cX11_readTable 15 = .ok (.getfield 101, 3) := by decide +kernel
theorem sX11_readTable_15 {a : Nat} {fs : List Value} {v : Int64} (hP : P.1 a = some (xO 9 fs)) (hv : fs[26]? = some (.long v)) (k : X w mX11_readTable d Q 18 ls (.long v :: st) P) : X w mX11_readTable d Q 15 ls (.ref a :: st) P := X_get (M := mX11_readTable) (j := 26) (T := TX11) (dX11_readTable_15) rfl (by decide) x_in11 xw_434 hP hv k
theorem dX11_readTable_18 : decode cX11_readTable 18 = .ok (.aload_n 0, 1) := by decide +kernel
theorem sX11_readTable_18 {l1 l2 : Option Value} {x : Nat} (k : X w mX11_readTable d Q 19 [some (.ref x), l1, l2] (.ref x :: st) P) : X w mX11_readTable d Q 18 [some (.ref x), l1, l2] st P := X_aload_n (M := mX11_readTable) (dX11_readTable_18) rfl rfl k
theorem dX11_readTable_19 : decode cX11_readTable 19 = .ok (.getfield 138, 3) := by decide +kernel
theorem sX11_readTable_19 {a : Nat} {fs : List Value} {v : Int32} (hP : P.1 a = some (xO 9 fs)) (hv : fs[29]? = some (.int v)) (k : X w mX11_readTable d Q 22 ls (.int v :: st) P) : X w mX11_readTable d Q 19 ls (.ref a :: st) P := X_get (M := mX11_readTable) (j := 29) (T := TX11) (dX11_readTable_19) rfl (by decide) x_in11 xw_456 hP hv k
theorem dX11_readTable_22 : decode cX11_readTable 22 = .ok (.invokevirtual 141, 3) := by decide +kernel
theorem sX11_readTable_22_g {b : Nat} {fs : List Value} {a0 : Int64} {a1 : Int32} {Qc : Outcome → xH → Prop} (hst : (st.map fun v => v.category).sum ≤ 8) (hP : P.1 b = some (xO 9 fs)) (hC : xC w d mX11_tableOf [.ref b, .long a0, .int a1] P Qc) (kr : ∀ v P1, Qc (.returned v) P1 → X w mX11_readTable (d + 1) Q 25 ls (v.toList ++ st) P1) (kt : ∀ q P1, Qc (.threw q) P1 → Xt w mX11_readTable (d + 1) Q 22 ls st P1 q) : X w mX11_readTable (d + 1) Q 22 ls (.int a1 :: .long a0 :: .ref b :: st) P := X_callV (M := mX11_readTable) (MC := mX11_tableOf) (As := [.long a0, .int a1]) (T := TX11) (dX11_readTable_22) calX11_tableOf xw_457 xw_458 xw_459 rfl rfl hP hC hst kr kt
theorem sX11_readTable_22 {b : Nat} {fs : List Value} {a0 : Int64} {a1 : Int32} {r : Int32} {P1 : xH} (hst : (st.map fun v => v.category).sum ≤ 8) (hP : P.1 b = some (xO 9 fs)) (hC : xC w d mX11_tableOf [.ref b, .long a0, .int a1] P (xRet (some (.int r)) P1)) (k : X w mX11_readTable (d + 1) Q 25 ls (.int r :: st) P1) : X w mX11_readTable (d + 1) Q 22 ls (.int a1 :: .long a0 :: .ref b :: st) P := X_callV (M := mX11_readTable) (MC := mX11_tableOf) (As := [.long a0, .int a1]) (T := TX11) (dX11_readTable_22) calX11_tableOf xw_457 xw_458 xw_459 rfl rfl hP hC hst (fun v P2 h => by obtain ⟨h1, rfl⟩ := h; cases h1; exact k) (fun q P2 h => by cases h.1)
theorem sX11_readTable_22_r {b : Nat} {fs : List Value} {a0 : Int64} {a1 : Int32} {r : Int32} {Rp : xH → Prop} (hst : (st.map fun v => v.category).sum ≤ 8) (hP : P.1 b = some (xO 9 fs)) (hC : xC w d mX11_tableOf [.ref b, .long a0, .int a1] P (xRl (some (.int r)) Rp)) (k : ∀ P1, Rp P1 → X w mX11_readTable (d + 1) Q 25 ls (.int r :: st) P1) : X w mX11_readTable (d + 1) Q 22 ls (.int a1 :: .long a0 :: .ref b :: st) P := X_callV (M := mX11_readTable) (MC := mX11_tableOf) (As := [.long a0, .int a1]) (T := TX11) (dX11_readTable_22) calX11_tableOf xw_457 xw_458 xw_459 rfl rfl hP hC hst (fun v P2 h => by obtain ⟨h1, hR⟩ := h; cases h1; exact k P2 hR) (fun q P2 h => by cases h.1)
theorem sX11_readTable_22_t {b : Nat} {fs : List Value} {a0 : Int64} {a1 : Int32} {q : Nat} {P1 : xH} (hst : (st.map fun v => v.category).sum ≤ 8) (hP : P.1 b = some (xO 9 fs)) (hC : xC w d mX11_tableOf [.ref b, .long a0, .int a1] P (xThr q P1)) (hq : Q (.threw q) P1) : X w mX11_readTable (d + 1) Q 22 ls (.int a1 :: .long a0 :: .ref b :: st) P := X_callV (M := mX11_readTable) (MC := mX11_tableOf) (As := [.long a0, .int a1]) (T := TX11) (dX11_readTable_22) calX11_tableOf xw_457 xw_458 xw_459 rfl rfl hP hC hst (fun v P2 h => by cases h.1) (fun q2 P2 h => by obtain ⟨h1, rfl⟩ := h; cases h1; exact Xt_out rfl hq)
theorem dX11_readTable_25 : decode cX11_readTable 25 = .ok (.iconst (-1), 1) := by decide +kernel
theorem sX11_readTable_25 (k : X w mX11_readTable d Q 26 ls (.int (-1 : Int32) :: st) P) : X w mX11_readTable d Q 25 ls st P := X_iconst (M := mX11_readTable) (dX11_readTable_25) (by decide) k
theorem dX11_readTable_26 : decode cX11_readTable 26 = .ok (.if_icmp .ne 21, 3) := by decide +kernel
theorem sX11_readTable_26 {x y : Int32} (kt : ¬ x = y → X w mX11_readTable d Q 47 ls st P) (kf : x = y → X w mX11_readTable d Q 29 ls st P) : X w mX11_readTable d Q 26 ls (.int y :: .int x :: st) P := X_icmp_ne (M := mX11_readTable) (dX11_readTable_26) (by decide) kt kf
theorem dX11_readTable_29 : decode cX11_readTable 29 = .ok (.aload_n 0, 1) := by decide +kernel
theorem sX11_readTable_29 {l1 l2 : Option Value} {x : Nat} (k : X w mX11_readTable d Q 30 [some (.ref x), l1, l2] (.ref x :: st) P) : X w mX11_readTable d Q 29 [some (.ref x), l1, l2] st P := X_aload_n (M := mX11_readTable) (dX11_readTable_29) rfl rfl k
theorem dX11_readTable_30 : decode cX11_readTable 30 = .ok (.getfield 13, 3) := by decide +kernel
theorem sX11_readTable_30 {a : Nat} {fs : List Value} {v : Nat} (hP : P.1 a = some (xO 9 fs)) (hv : fs[4]? = some (.ref v)) (k : X w mX11_readTable d Q 33 ls (.ref v :: st) P) : X w mX11_readTable d Q 30 ls (.ref a :: st) P := X_get (M := mX11_readTable) (j := 4) (T := TX11) (dX11_readTable_30) rfl (by decide) x_in11 xw_405 hP hv k
theorem dX11_readTable_33 : decode cX11_readTable 33 = .ok (.aload_n 0, 1) := by decide +kernel
theorem sX11_readTable_33 {l1 l2 : Option Value} {x : Nat} (k : X w mX11_readTable d Q 34 [some (.ref x), l1, l2] (.ref x :: st) P) : X w mX11_readTable d Q 33 [some (.ref x), l1, l2] st P := X_aload_n (M := mX11_readTable) (dX11_readTable_33) rfl rfl k
theorem dX11_readTable_34 : decode cX11_readTable 34 = .ok (.getfield 138, 3) := by decide +kernel
theorem sX11_readTable_34 {a : Nat} {fs : List Value} {v : Int32} (hP : P.1 a = some (xO 9 fs)) (hv : fs[29]? = some (.int v)) (k : X w mX11_readTable d Q 37 ls (.int v :: st) P) : X w mX11_readTable d Q 34 ls (.ref a :: st) P := X_get (M := mX11_readTable) (j := 29) (T := TX11) (dX11_readTable_34) rfl (by decide) x_in11 xw_456 hP hv k
theorem dX11_readTable_37 : decode cX11_readTable 37 = .ok (.iaload, 1) := by decide +kernel
theorem sX11_readTable_37 {a n : Nat} {f : Nat → Int32} {i : Int32} (hP : P.1 a = some (xA 0 n f)) (hi : vp_in i n) (k : X w mX11_readTable d Q 38 ls (.int (f i.toNatClampNeg) :: st) P) : X w mX11_readTable d Q 37 ls (.int i :: .ref a :: st) P := X_iald (M := mX11_readTable) (dX11_readTable_37) hP hi k
theorem dX11_readTable_38 : decode cX11_readTable 38 = .ok (.bipush 12, 2) := by decide +kernel
theorem sX11_readTable_38 (k : X w mX11_readTable d Q 40 ls (.int (12 : Int32) :: st) P) : X w mX11_readTable d Q 38 ls st P := X_bipush (M := mX11_readTable) (dX11_readTable_38) (by decide) k
theorem dX11_readTable_40 : decode cX11_readTable 40 = .ok (.if_icmp .ge 7, 3) := by decide +kernel
theorem sX11_readTable_40 {x y : Int32} (kt : y ≤ x → X w mX11_readTable d Q 47 ls st P) (kf : ¬ y ≤ x → X w mX11_readTable d Q 43 ls st P) : X w mX11_readTable d Q 40 ls (.int y :: .int x :: st) P := X_icmp_ge (M := mX11_readTable) (dX11_readTable_40) (by decide) kt kf
theorem dX11_readTable_43 : decode cX11_readTable 43 = .ok (.iconst 1, 1) := by decide +kernel
theorem sX11_readTable_43 (k : X w mX11_readTable d Q 44 ls (.int (1 : Int32) :: st) P) : X w mX11_readTable d Q 43 ls st P := X_iconst (M := mX11_readTable) (dX11_readTable_43) (by decide) k
theorem dX11_readTable_44 : decode cX11_readTable 44 = .ok (.goto 4, 3) := by decide +kernel
theorem sX11_readTable_44 (k : X w mX11_readTable d Q 48 ls st P) : X w mX11_readTable d Q 44 ls st P := X_goto (M := mX11_readTable) (dX11_readTable_44) (by decide) k
theorem dX11_readTable_47 : decode cX11_readTable 47 = .ok (.iconst 0, 1) := by decide +kernel
theorem sX11_readTable_47 (k : X w mX11_readTable d Q 48 ls (.int (0 : Int32) :: st) P) : X w mX11_readTable d Q 47 ls st P := X_iconst (M := mX11_readTable) (dX11_readTable_47) (by decide) k
theorem dX11_readTable_48 : decode cX11_readTable 48 = .ok (.invokevirtual 127, 3) := by decide +kernel
theorem sX11_readTable_48_g {b : Nat} {fs : List Value} {a0 : Int32} {Qc : Outcome → xH → Prop} (hst : (st.map fun v => v.category).sum ≤ 8) (hP : P.1 b = some (xO 9 fs)) (hC : xC w d mX11_need [.ref b, .int a0] P Qc) (kr : ∀ v P1, Qc (.returned v) P1 → X w mX11_readTable (d + 1) Q 51 ls (v.toList ++ st) P1) (kt : ∀ q P1, Qc (.threw q) P1 → Xt w mX11_readTable (d + 1) Q 48 ls st P1 q) : X w mX11_readTable (d + 1) Q 48 ls (.int a0 :: .ref b :: st) P := X_callV (M := mX11_readTable) (MC := mX11_need) (As := [.int a0]) (T := TX11) (dX11_readTable_48) calX11_need xw_448 xw_449 xw_450 rfl rfl hP hC hst kr kt
theorem sX11_readTable_48 {b : Nat} {fs : List Value} {a0 : Int32} {P1 : xH} (hst : (st.map fun v => v.category).sum ≤ 8) (hP : P.1 b = some (xO 9 fs)) (hC : xC w d mX11_need [.ref b, .int a0] P (xRet none P1)) (k : X w mX11_readTable (d + 1) Q 51 ls st P1) : X w mX11_readTable (d + 1) Q 48 ls (.int a0 :: .ref b :: st) P := X_callV (M := mX11_readTable) (MC := mX11_need) (As := [.int a0]) (T := TX11) (dX11_readTable_48) calX11_need xw_448 xw_449 xw_450 rfl rfl hP hC hst (fun v P2 h => by obtain ⟨h1, rfl⟩ := h; cases h1; exact k) (fun q P2 h => by cases h.1)
theorem sX11_readTable_48_r {b : Nat} {fs : List Value} {a0 : Int32} {Rp : xH → Prop} (hst : (st.map fun v => v.category).sum ≤ 8) (hP : P.1 b = some (xO 9 fs)) (hC : xC w d mX11_need [.ref b, .int a0] P (xRl none Rp)) (k : ∀ P1, Rp P1 → X w mX11_readTable (d + 1) Q 51 ls st P1) : X w mX11_readTable (d + 1) Q 48 ls (.int a0 :: .ref b :: st) P := X_callV (M := mX11_readTable) (MC := mX11_need) (As := [.int a0]) (T := TX11) (dX11_readTable_48) calX11_need xw_448 xw_449 xw_450 rfl rfl hP hC hst (fun v P2 h => by obtain ⟨h1, hR⟩ := h; cases h1; exact k P2 hR) (fun q P2 h => by cases h.1)
theorem sX11_readTable_48_t {b : Nat} {fs : List Value} {a0 : Int32} {q : Nat} {P1 : xH} (hst : (st.map fun v => v.category).sum ≤ 8) (hP : P.1 b = some (xO 9 fs)) (hC : xC w d mX11_need [.ref b, .int a0] P (xThr q P1)) (hq : Q (.threw q) P1) : X w mX11_readTable (d + 1) Q 48 ls (.int a0 :: .ref b :: st) P := X_callV (M := mX11_readTable) (MC := mX11_need) (As := [.int a0]) (T := TX11) (dX11_readTable_48) calX11_need xw_448 xw_449 xw_450 rfl rfl hP hC hst (fun v P2 h => by cases h.1) (fun q2 P2 h => by obtain ⟨h1, rfl⟩ := h; cases h1; exact Xt_out rfl hq)
theorem dX11_readTable_51 : decode cX11_readTable 51 = .ok (.bipush 12, 2) := by decide +kernel
theorem sX11_readTable_51 (k : X w mX11_readTable d Q 53 ls (.int (12 : Int32) :: st) P) : X w mX11_readTable d Q 51 ls st P := X_bipush (M := mX11_readTable) (dX11_readTable_51) (by decide) k
theorem dX11_readTable_53 : decode cX11_readTable 53 = .ok (.aload_n 0, 1) := by decide +kernel
theorem sX11_readTable_53 {l1 l2 : Option Value} {x : Nat} (k : X w mX11_readTable d Q 54 [some (.ref x), l1, l2] (.ref x :: st) P) : X w mX11_readTable d Q 53 [some (.ref x), l1, l2] st P := X_aload_n (M := mX11_readTable) (dX11_readTable_53) rfl rfl k
theorem dX11_readTable_54 : decode cX11_readTable 54 = .ok (.getfield 138, 3) := by decide +kernel
theorem sX11_readTable_54 {a : Nat} {fs : List Value} {v : Int32} (hP : P.1 a = some (xO 9 fs)) (hv : fs[29]? = some (.int v)) (k : X w mX11_readTable d Q 57 ls (.int v :: st) P) : X w mX11_readTable d Q 54 ls (.ref a :: st) P := X_get (M := mX11_readTable) (j := 29) (T := TX11) (dX11_readTable_54) rfl (by decide) x_in11 xw_456 hP hv k
theorem dX11_readTable_57 : decode cX11_readTable 57 = .ok (.imul, 1) := by decide +kernel
theorem sX11_readTable_57 {x y : Int32} (k : X w mX11_readTable d Q 58 ls (.int (x * y) :: st) P) : X w mX11_readTable d Q 57 ls (.int y :: .int x :: st) P := X_imul (M := mX11_readTable) (dX11_readTable_57) k
theorem dX11_readTable_58 : decode cX11_readTable 58 = .ok (.aload_n 0, 1) := by decide +kernel
theorem sX11_readTable_58 {l1 l2 : Option Value} {x : Nat} (k : X w mX11_readTable d Q 59 [some (.ref x), l1, l2] (.ref x :: st) P) : X w mX11_readTable d Q 58 [some (.ref x), l1, l2] st P := X_aload_n (M := mX11_readTable) (dX11_readTable_58) rfl rfl k
theorem dX11_readTable_59 : decode cX11_readTable 59 = .ok (.getfield 13, 3) := by decide +kernel
theorem sX11_readTable_59 {a : Nat} {fs : List Value} {v : Nat} (hP : P.1 a = some (xO 9 fs)) (hv : fs[4]? = some (.ref v)) (k : X w mX11_readTable d Q 62 ls (.ref v :: st) P) : X w mX11_readTable d Q 59 ls (.ref a :: st) P := X_get (M := mX11_readTable) (j := 4) (T := TX11) (dX11_readTable_59) rfl (by decide) x_in11 xw_405 hP hv k
theorem dX11_readTable_62 : decode cX11_readTable 62 = .ok (.aload_n 0, 1) := by decide +kernel
theorem sX11_readTable_62 {l1 l2 : Option Value} {x : Nat} (k : X w mX11_readTable d Q 63 [some (.ref x), l1, l2] (.ref x :: st) P) : X w mX11_readTable d Q 62 [some (.ref x), l1, l2] st P := X_aload_n (M := mX11_readTable) (dX11_readTable_62) rfl rfl k
theorem dX11_readTable_63 : decode cX11_readTable 63 = .ok (.getfield 138, 3) := by decide +kernel
theorem sX11_readTable_63 {a : Nat} {fs : List Value} {v : Int32} (hP : P.1 a = some (xO 9 fs)) (hv : fs[29]? = some (.int v)) (k : X w mX11_readTable d Q 66 ls (.int v :: st) P) : X w mX11_readTable d Q 63 ls (.ref a :: st) P := X_get (M := mX11_readTable) (j := 29) (T := TX11) (dX11_readTable_63) rfl (by decide) x_in11 xw_456 hP hv k
theorem dX11_readTable_66 : decode cX11_readTable 66 = .ok (.iaload, 1) := by decide +kernel
theorem sX11_readTable_66 {a n : Nat} {f : Nat → Int32} {i : Int32} (hP : P.1 a = some (xA 0 n f)) (hi : vp_in i n) (k : X w mX11_readTable d Q 67 ls (.int (f i.toNatClampNeg) :: st) P) : X w mX11_readTable d Q 66 ls (.int i :: .ref a :: st) P := X_iald (M := mX11_readTable) (dX11_readTable_66) hP hi k
theorem dX11_readTable_67 : decode cX11_readTable 67 = .ok (.bipush 12, 2) := by decide +kernel
theorem sX11_readTable_67 (k : X w mX11_readTable d Q 69 ls (.int (12 : Int32) :: st) P) : X w mX11_readTable d Q 67 ls st P := X_bipush (M := mX11_readTable) (dX11_readTable_67) (by decide) k
theorem dX11_readTable_69 : decode cX11_readTable 69 = .ok (.irem, 1) := by decide +kernel
theorem sX11_readTable_69 {x y : Int32} (hne : ¬ y = 0) (k : X w mX11_readTable d Q 70 ls (.int (x - x / y * y) :: st) P) : X w mX11_readTable d Q 69 ls (.int y :: .int x :: st) P := X_irem (M := mX11_readTable) (dX11_readTable_69) hne k
theorem dX11_readTable_70 : decode cX11_readTable 70 = .ok (.iadd, 1) := by decide +kernel
theorem sX11_readTable_70 {x y : Int32} (k : X w mX11_readTable d Q 71 ls (.int (x + y) :: st) P) : X w mX11_readTable d Q 70 ls (.int y :: .int x :: st) P := X_iadd (M := mX11_readTable) (dX11_readTable_70) k
theorem dX11_readTable_71 : decode cX11_readTable 71 = .ok (.istore_n 1, 1) := by decide +kernel
theorem sX11_readTable_71 {l0 l1 l2 : Option Value} {x : Int32} (hn : xnl l0 = true) (k : X w mX11_readTable d Q 72 [l0, some (.int x), l2] st P) : X w mX11_readTable d Q 71 [l0, l1, l2] (.int x :: st) P := X_istore_n (M := mX11_readTable) (dX11_readTable_71) rfl (by decide) rfl (xnl_p (ls := [l0, l1, l2]) (j := 0) rfl hn) k
theorem dX11_readTable_72 : decode cX11_readTable 72 = .ok (.aload_n 0, 1) := by decide +kernel
theorem sX11_readTable_72 {l1 l2 : Option Value} {x : Nat} (k : X w mX11_readTable d Q 73 [some (.ref x), l1, l2] (.ref x :: st) P) : X w mX11_readTable d Q 72 [some (.ref x), l1, l2] st P := X_aload_n (M := mX11_readTable) (dX11_readTable_72) rfl rfl k
theorem dX11_readTable_73 : decode cX11_readTable 73 = .ok (.getfield 16, 3) := by decide +kernel
theorem sX11_readTable_73 {a : Nat} {fs : List Value} {v : Nat} (hP : P.1 a = some (xO 9 fs)) (hv : fs[5]? = some (.ref v)) (k : X w mX11_readTable d Q 76 ls (.ref v :: st) P) : X w mX11_readTable d Q 73 ls (.ref a :: st) P := X_get (M := mX11_readTable) (j := 5) (T := TX11) (dX11_readTable_73) rfl (by decide) x_in11 xw_406 hP hv k
theorem dX11_readTable_76 : decode cX11_readTable 76 = .ok (.iload_n 1, 1) := by decide +kernel
theorem sX11_readTable_76 {l0 l2 : Option Value} {x : Int32} (k : X w mX11_readTable d Q 77 [l0, some (.int x), l2] (.int x :: st) P) : X w mX11_readTable d Q 76 [l0, some (.int x), l2] st P := X_iload_n (M := mX11_readTable) (dX11_readTable_76) rfl rfl k
theorem dX11_readTable_77 : decode cX11_readTable 77 = .ok (.aload_n 0, 1) := by decide +kernel
theorem sX11_readTable_77 {l1 l2 : Option Value} {x : Nat} (k : X w mX11_readTable d Q 78 [some (.ref x), l1, l2] (.ref x :: st) P) : X w mX11_readTable d Q 77 [some (.ref x), l1, l2] st P := X_aload_n (M := mX11_readTable) (dX11_readTable_77) rfl rfl k
theorem dX11_readTable_78 : decode cX11_readTable 78 = .ok (.getfield 101, 3) := by decide +kernel
theorem sX11_readTable_78 {a : Nat} {fs : List Value} {v : Int64} (hP : P.1 a = some (xO 9 fs)) (hv : fs[26]? = some (.long v)) (k : X w mX11_readTable d Q 81 ls (.long v :: st) P) : X w mX11_readTable d Q 78 ls (.ref a :: st) P := X_get (M := mX11_readTable) (j := 26) (T := TX11) (dX11_readTable_78) rfl (by decide) x_in11 xw_434 hP hv k
theorem dX11_readTable_81 : decode cX11_readTable 81 = .ok (.lastore, 1) := by decide +kernel
theorem sX11_readTable_81 {a n : Nat} {f : Nat → Int64} {i : Int32} {x : Int64} (hP : P.1 a = some (xJ n f)) (hi : vp_in i n) (k : X w mX11_readTable d Q 82 ls st (xs P a (xJ n (vp_updL f i.toNatClampNeg x)))) : X w mX11_readTable d Q 81 ls (.long x :: .int i :: .ref a :: st) P := X_last (M := mX11_readTable) (dX11_readTable_81) hP hi k
theorem dX11_readTable_82 : decode cX11_readTable 82 = .ok (.aload_n 0, 1) := by decide +kernel
theorem sX11_readTable_82 {l1 l2 : Option Value} {x : Nat} (k : X w mX11_readTable d Q 83 [some (.ref x), l1, l2] (.ref x :: st) P) : X w mX11_readTable d Q 82 [some (.ref x), l1, l2] st P := X_aload_n (M := mX11_readTable) (dX11_readTable_82) rfl rfl k
theorem dX11_readTable_83 : decode cX11_readTable 83 = .ok (.invokevirtual 131, 3) := by decide +kernel
theorem sX11_readTable_83_g {b : Nat} {fs : List Value}  {Qc : Outcome → xH → Prop} (hst : (st.map fun v => v.category).sum ≤ 8) (hP : P.1 b = some (xO 9 fs)) (hC : xC w d mX11_go [.ref b] P Qc) (kr : ∀ v P1, Qc (.returned v) P1 → X w mX11_readTable (d + 1) Q 86 ls (v.toList ++ st) P1) (kt : ∀ q P1, Qc (.threw q) P1 → Xt w mX11_readTable (d + 1) Q 83 ls st P1 q) : X w mX11_readTable (d + 1) Q 83 ls (.ref b :: st) P := X_callV (M := mX11_readTable) (MC := mX11_go) (As := []) (T := TX11) (dX11_readTable_83) calX11_go xw_451 xw_452 xw_453 rfl rfl hP hC hst kr kt
theorem sX11_readTable_83 {b : Nat} {fs : List Value}  {P1 : xH} (hst : (st.map fun v => v.category).sum ≤ 8) (hP : P.1 b = some (xO 9 fs)) (hC : xC w d mX11_go [.ref b] P (xRet none P1)) (k : X w mX11_readTable (d + 1) Q 86 ls st P1) : X w mX11_readTable (d + 1) Q 83 ls (.ref b :: st) P := X_callV (M := mX11_readTable) (MC := mX11_go) (As := []) (T := TX11) (dX11_readTable_83) calX11_go xw_451 xw_452 xw_453 rfl rfl hP hC hst (fun v P2 h => by obtain ⟨h1, rfl⟩ := h; cases h1; exact k) (fun q P2 h => by cases h.1)
theorem sX11_readTable_83_r {b : Nat} {fs : List Value}  {Rp : xH → Prop} (hst : (st.map fun v => v.category).sum ≤ 8) (hP : P.1 b = some (xO 9 fs)) (hC : xC w d mX11_go [.ref b] P (xRl none Rp)) (k : ∀ P1, Rp P1 → X w mX11_readTable (d + 1) Q 86 ls st P1) : X w mX11_readTable (d + 1) Q 83 ls (.ref b :: st) P := X_callV (M := mX11_readTable) (MC := mX11_go) (As := []) (T := TX11) (dX11_readTable_83) calX11_go xw_451 xw_452 xw_453 rfl rfl hP hC hst (fun v P2 h => by obtain ⟨h1, hR⟩ := h; cases h1; exact k P2 hR) (fun q P2 h => by cases h.1)
theorem sX11_readTable_83_t {b : Nat} {fs : List Value}  {q : Nat} {P1 : xH} (hst : (st.map fun v => v.category).sum ≤ 8) (hP : P.1 b = some (xO 9 fs)) (hC : xC w d mX11_go [.ref b] P (xThr q P1)) (hq : Q (.threw q) P1) : X w mX11_readTable (d + 1) Q 83 ls (.ref b :: st) P := X_callV (M := mX11_readTable) (MC := mX11_go) (As := []) (T := TX11) (dX11_readTable_83) calX11_go xw_451 xw_452 xw_453 rfl rfl hP hC hst (fun v P2 h => by cases h.1) (fun q2 P2 h => by obtain ⟨h1, rfl⟩ := h; cases h1; exact Xt_out rfl hq)
theorem dX11_readTable_86 : decode cX11_readTable 86 = .ok (.aload_n 0, 1) := by decide +kernel
theorem sX11_readTable_86 {l1 l2 : Option Value} {x : Nat} (k : X w mX11_readTable d Q 87 [some (.ref x), l1, l2] (.ref x :: st) P) : X w mX11_readTable d Q 86 [some (.ref x), l1, l2] st P := X_aload_n (M := mX11_readTable) (dX11_readTable_86) rfl rfl k
theorem dX11_readTable_87 : decode cX11_readTable 87 = .ok (.bipush 58, 2) := by decide +kernel
theorem sX11_readTable_87 (k : X w mX11_readTable d Q 89 ls (.int (58 : Int32) :: st) P) : X w mX11_readTable d Q 87 ls st P := X_bipush (M := mX11_readTable) (dX11_readTable_87) (by decide) k
theorem dX11_readTable_89 : decode cX11_readTable 89 = .ok (.invokevirtual 145, 3) := by decide +kernel
theorem sX11_readTable_89_g {b : Nat} {fs : List Value} {a0 : Int32} {Qc : Outcome → xH → Prop} (hst : (st.map fun v => v.category).sum ≤ 8) (hP : P.1 b = some (xO 9 fs)) (hC : xC w d mX11_sign [.ref b, .int a0] P Qc) (kr : ∀ v P1, Qc (.returned v) P1 → X w mX11_readTable (d + 1) Q 92 ls (v.toList ++ st) P1) (kt : ∀ q P1, Qc (.threw q) P1 → Xt w mX11_readTable (d + 1) Q 89 ls st P1 q) : X w mX11_readTable (d + 1) Q 89 ls (.int a0 :: .ref b :: st) P := X_callV (M := mX11_readTable) (MC := mX11_sign) (As := [.int a0]) (T := TX11) (dX11_readTable_89) calX11_sign xw_460 xw_461 xw_462 rfl rfl hP hC hst kr kt
theorem sX11_readTable_89 {b : Nat} {fs : List Value} {a0 : Int32} {P1 : xH} (hst : (st.map fun v => v.category).sum ≤ 8) (hP : P.1 b = some (xO 9 fs)) (hC : xC w d mX11_sign [.ref b, .int a0] P (xRet none P1)) (k : X w mX11_readTable (d + 1) Q 92 ls st P1) : X w mX11_readTable (d + 1) Q 89 ls (.int a0 :: .ref b :: st) P := X_callV (M := mX11_readTable) (MC := mX11_sign) (As := [.int a0]) (T := TX11) (dX11_readTable_89) calX11_sign xw_460 xw_461 xw_462 rfl rfl hP hC hst (fun v P2 h => by obtain ⟨h1, rfl⟩ := h; cases h1; exact k) (fun q P2 h => by cases h.1)
theorem sX11_readTable_89_r {b : Nat} {fs : List Value} {a0 : Int32} {Rp : xH → Prop} (hst : (st.map fun v => v.category).sum ≤ 8) (hP : P.1 b = some (xO 9 fs)) (hC : xC w d mX11_sign [.ref b, .int a0] P (xRl none Rp)) (k : ∀ P1, Rp P1 → X w mX11_readTable (d + 1) Q 92 ls st P1) : X w mX11_readTable (d + 1) Q 89 ls (.int a0 :: .ref b :: st) P := X_callV (M := mX11_readTable) (MC := mX11_sign) (As := [.int a0]) (T := TX11) (dX11_readTable_89) calX11_sign xw_460 xw_461 xw_462 rfl rfl hP hC hst (fun v P2 h => by obtain ⟨h1, hR⟩ := h; cases h1; exact k P2 hR) (fun q P2 h => by cases h.1)
theorem sX11_readTable_89_t {b : Nat} {fs : List Value} {a0 : Int32} {q : Nat} {P1 : xH} (hst : (st.map fun v => v.category).sum ≤ 8) (hP : P.1 b = some (xO 9 fs)) (hC : xC w d mX11_sign [.ref b, .int a0] P (xThr q P1)) (hq : Q (.threw q) P1) : X w mX11_readTable (d + 1) Q 89 ls (.int a0 :: .ref b :: st) P := X_callV (M := mX11_readTable) (MC := mX11_sign) (As := [.int a0]) (T := TX11) (dX11_readTable_89) calX11_sign xw_460 xw_461 xw_462 rfl rfl hP hC hst (fun v P2 h => by cases h.1) (fun q2 P2 h => by obtain ⟨h1, rfl⟩ := h; cases h1; exact Xt_out rfl hq)
theorem dX11_readTable_92 : decode cX11_readTable 92 = .ok (.aload_n 0, 1) := by decide +kernel
theorem sX11_readTable_92 {l1 l2 : Option Value} {x : Nat} (k : X w mX11_readTable d Q 93 [some (.ref x), l1, l2] (.ref x :: st) P) : X w mX11_readTable d Q 92 [some (.ref x), l1, l2] st P := X_aload_n (M := mX11_readTable) (dX11_readTable_92) rfl rfl k
theorem dX11_readTable_93 : decode cX11_readTable 93 = .ok (.getfield 20, 3) := by decide +kernel
theorem sX11_readTable_93 {a : Nat} {fs : List Value} {v : Nat} (hP : P.1 a = some (xO 9 fs)) (hv : fs[6]? = some (.ref v)) (k : X w mX11_readTable d Q 96 ls (.ref v :: st) P) : X w mX11_readTable d Q 93 ls (.ref a :: st) P := X_get (M := mX11_readTable) (j := 6) (T := TX11) (dX11_readTable_93) rfl (by decide) x_in11 xw_407 hP hv k
theorem dX11_readTable_96 : decode cX11_readTable 96 = .ok (.iload_n 1, 1) := by decide +kernel
theorem sX11_readTable_96 {l0 l2 : Option Value} {x : Int32} (k : X w mX11_readTable d Q 97 [l0, some (.int x), l2] (.int x :: st) P) : X w mX11_readTable d Q 96 [l0, some (.int x), l2] st P := X_iload_n (M := mX11_readTable) (dX11_readTable_96) rfl rfl k
theorem dX11_readTable_97 : decode cX11_readTable 97 = .ok (.aload_n 0, 1) := by decide +kernel
theorem sX11_readTable_97 {l1 l2 : Option Value} {x : Nat} (k : X w mX11_readTable d Q 98 [some (.ref x), l1, l2] (.ref x :: st) P) : X w mX11_readTable d Q 97 [some (.ref x), l1, l2] st P := X_aload_n (M := mX11_readTable) (dX11_readTable_97) rfl rfl k
theorem dX11_readTable_98 : decode cX11_readTable 98 = .ok (.aload_n 0, 1) := by decide +kernel
theorem sX11_readTable_98 {l1 l2 : Option Value} {x : Nat} (k : X w mX11_readTable d Q 99 [some (.ref x), l1, l2] (.ref x :: st) P) : X w mX11_readTable d Q 98 [some (.ref x), l1, l2] st P := X_aload_n (M := mX11_readTable) (dX11_readTable_98) rfl rfl k
theorem dX11_readTable_99 : decode cX11_readTable 99 = .ok (.getfield 26, 3) := by decide +kernel
theorem sX11_readTable_99 {a : Nat} {fs : List Value} {v : Nat} (hP : P.1 a = some (xO 9 fs)) (hv : fs[8]? = some (.ref v)) (k : X w mX11_readTable d Q 102 ls (.ref v :: st) P) : X w mX11_readTable d Q 99 ls (.ref a :: st) P := X_get (M := mX11_readTable) (j := 8) (T := TX11) (dX11_readTable_99) rfl (by decide) x_in11 xw_409 hP hv k
theorem dX11_readTable_102 : decode cX11_readTable 102 = .ok (.iconst 4, 1) := by decide +kernel
theorem sX11_readTable_102 (k : X w mX11_readTable d Q 103 ls (.int (4 : Int32) :: st) P) : X w mX11_readTable d Q 102 ls st P := X_iconst (M := mX11_readTable) (dX11_readTable_102) (by decide) k
theorem dX11_readTable_103 : decode cX11_readTable 103 = .ok (.iload_n 1, 1) := by decide +kernel
theorem sX11_readTable_103 {l0 l2 : Option Value} {x : Int32} (k : X w mX11_readTable d Q 104 [l0, some (.int x), l2] (.int x :: st) P) : X w mX11_readTable d Q 103 [l0, some (.int x), l2] st P := X_iload_n (M := mX11_readTable) (dX11_readTable_103) rfl rfl k
theorem dX11_readTable_104 : decode cX11_readTable 104 = .ok (.imul, 1) := by decide +kernel
theorem sX11_readTable_104 {x y : Int32} (k : X w mX11_readTable d Q 105 ls (.int (x * y) :: st) P) : X w mX11_readTable d Q 104 ls (.int y :: .int x :: st) P := X_imul (M := mX11_readTable) (dX11_readTable_104) k
theorem dX11_readTable_105 : decode cX11_readTable 105 = .ok (.invokevirtual 149, 3) := by decide +kernel
theorem sX11_readTable_105_g {b : Nat} {fs : List Value} {a0 : Nat} {a1 : Int32} {Qc : Outcome → xH → Prop} (hst : (st.map fun v => v.category).sum ≤ 8) (hP : P.1 b = some (xO 9 fs)) (hC : xC w d mX11_axis [.ref b, .ref a0, .int a1] P Qc) (kr : ∀ v P1, Qc (.returned v) P1 → X w mX11_readTable (d + 1) Q 108 ls (v.toList ++ st) P1) (kt : ∀ q P1, Qc (.threw q) P1 → Xt w mX11_readTable (d + 1) Q 105 ls st P1 q) : X w mX11_readTable (d + 1) Q 105 ls (.int a1 :: .ref a0 :: .ref b :: st) P := X_callV (M := mX11_readTable) (MC := mX11_axis) (As := [.ref a0, .int a1]) (T := TX11) (dX11_readTable_105) calX11_axis xw_463 xw_464 xw_465 rfl rfl hP hC hst kr kt
theorem sX11_readTable_105 {b : Nat} {fs : List Value} {a0 : Nat} {a1 : Int32} {r : Int32} {P1 : xH} (hst : (st.map fun v => v.category).sum ≤ 8) (hP : P.1 b = some (xO 9 fs)) (hC : xC w d mX11_axis [.ref b, .ref a0, .int a1] P (xRet (some (.int r)) P1)) (k : X w mX11_readTable (d + 1) Q 108 ls (.int r :: st) P1) : X w mX11_readTable (d + 1) Q 105 ls (.int a1 :: .ref a0 :: .ref b :: st) P := X_callV (M := mX11_readTable) (MC := mX11_axis) (As := [.ref a0, .int a1]) (T := TX11) (dX11_readTable_105) calX11_axis xw_463 xw_464 xw_465 rfl rfl hP hC hst (fun v P2 h => by obtain ⟨h1, rfl⟩ := h; cases h1; exact k) (fun q P2 h => by cases h.1)
theorem sX11_readTable_105_r {b : Nat} {fs : List Value} {a0 : Nat} {a1 : Int32} {r : Int32} {Rp : xH → Prop} (hst : (st.map fun v => v.category).sum ≤ 8) (hP : P.1 b = some (xO 9 fs)) (hC : xC w d mX11_axis [.ref b, .ref a0, .int a1] P (xRl (some (.int r)) Rp)) (k : ∀ P1, Rp P1 → X w mX11_readTable (d + 1) Q 108 ls (.int r :: st) P1) : X w mX11_readTable (d + 1) Q 105 ls (.int a1 :: .ref a0 :: .ref b :: st) P := X_callV (M := mX11_readTable) (MC := mX11_axis) (As := [.ref a0, .int a1]) (T := TX11) (dX11_readTable_105) calX11_axis xw_463 xw_464 xw_465 rfl rfl hP hC hst (fun v P2 h => by obtain ⟨h1, hR⟩ := h; cases h1; exact k P2 hR) (fun q P2 h => by cases h.1)
theorem sX11_readTable_105_t {b : Nat} {fs : List Value} {a0 : Nat} {a1 : Int32} {q : Nat} {P1 : xH} (hst : (st.map fun v => v.category).sum ≤ 8) (hP : P.1 b = some (xO 9 fs)) (hC : xC w d mX11_axis [.ref b, .ref a0, .int a1] P (xThr q P1)) (hq : Q (.threw q) P1) : X w mX11_readTable (d + 1) Q 105 ls (.int a1 :: .ref a0 :: .ref b :: st) P := X_callV (M := mX11_readTable) (MC := mX11_axis) (As := [.ref a0, .int a1]) (T := TX11) (dX11_readTable_105) calX11_axis xw_463 xw_464 xw_465 rfl rfl hP hC hst (fun v P2 h => by cases h.1) (fun q2 P2 h => by obtain ⟨h1, rfl⟩ := h; cases h1; exact Xt_out rfl hq)
theorem dX11_readTable_108 : decode cX11_readTable 108 = .ok (.iastore, 1) := by decide +kernel
theorem sX11_readTable_108 {a n : Nat} {f : Nat → Int32} {i x : Int32} (hP : P.1 a = some (xA 0 n f)) (hi : vp_in i n) (k : X w mX11_readTable d Q 109 ls st (xs P a (xA 0 n (upd f i.toNatClampNeg x)))) : X w mX11_readTable d Q 108 ls (.int x :: .int i :: .ref a :: st) P := X_iast (M := mX11_readTable) (dX11_readTable_108) hP hi k
theorem dX11_readTable_109 : decode cX11_readTable 109 = .ok (.aload_n 0, 1) := by decide +kernel
theorem sX11_readTable_109 {l1 l2 : Option Value} {x : Nat} (k : X w mX11_readTable d Q 110 [some (.ref x), l1, l2] (.ref x :: st) P) : X w mX11_readTable d Q 109 [some (.ref x), l1, l2] st P := X_aload_n (M := mX11_readTable) (dX11_readTable_109) rfl rfl k
theorem dX11_readTable_110 : decode cX11_readTable 110 = .ok (.bipush 47, 2) := by decide +kernel
theorem sX11_readTable_110 (k : X w mX11_readTable d Q 112 ls (.int (47 : Int32) :: st) P) : X w mX11_readTable d Q 110 ls st P := X_bipush (M := mX11_readTable) (dX11_readTable_110) (by decide) k
theorem dX11_readTable_112 : decode cX11_readTable 112 = .ok (.invokevirtual 145, 3) := by decide +kernel
theorem sX11_readTable_112_g {b : Nat} {fs : List Value} {a0 : Int32} {Qc : Outcome → xH → Prop} (hst : (st.map fun v => v.category).sum ≤ 8) (hP : P.1 b = some (xO 9 fs)) (hC : xC w d mX11_sign [.ref b, .int a0] P Qc) (kr : ∀ v P1, Qc (.returned v) P1 → X w mX11_readTable (d + 1) Q 115 ls (v.toList ++ st) P1) (kt : ∀ q P1, Qc (.threw q) P1 → Xt w mX11_readTable (d + 1) Q 112 ls st P1 q) : X w mX11_readTable (d + 1) Q 112 ls (.int a0 :: .ref b :: st) P := X_callV (M := mX11_readTable) (MC := mX11_sign) (As := [.int a0]) (T := TX11) (dX11_readTable_112) calX11_sign xw_460 xw_461 xw_462 rfl rfl hP hC hst kr kt
theorem sX11_readTable_112 {b : Nat} {fs : List Value} {a0 : Int32} {P1 : xH} (hst : (st.map fun v => v.category).sum ≤ 8) (hP : P.1 b = some (xO 9 fs)) (hC : xC w d mX11_sign [.ref b, .int a0] P (xRet none P1)) (k : X w mX11_readTable (d + 1) Q 115 ls st P1) : X w mX11_readTable (d + 1) Q 112 ls (.int a0 :: .ref b :: st) P := X_callV (M := mX11_readTable) (MC := mX11_sign) (As := [.int a0]) (T := TX11) (dX11_readTable_112) calX11_sign xw_460 xw_461 xw_462 rfl rfl hP hC hst (fun v P2 h => by obtain ⟨h1, rfl⟩ := h; cases h1; exact k) (fun q P2 h => by cases h.1)
theorem sX11_readTable_112_r {b : Nat} {fs : List Value} {a0 : Int32} {Rp : xH → Prop} (hst : (st.map fun v => v.category).sum ≤ 8) (hP : P.1 b = some (xO 9 fs)) (hC : xC w d mX11_sign [.ref b, .int a0] P (xRl none Rp)) (k : ∀ P1, Rp P1 → X w mX11_readTable (d + 1) Q 115 ls st P1) : X w mX11_readTable (d + 1) Q 112 ls (.int a0 :: .ref b :: st) P := X_callV (M := mX11_readTable) (MC := mX11_sign) (As := [.int a0]) (T := TX11) (dX11_readTable_112) calX11_sign xw_460 xw_461 xw_462 rfl rfl hP hC hst (fun v P2 h => by obtain ⟨h1, hR⟩ := h; cases h1; exact k P2 hR) (fun q P2 h => by cases h.1)
theorem sX11_readTable_112_t {b : Nat} {fs : List Value} {a0 : Int32} {q : Nat} {P1 : xH} (hst : (st.map fun v => v.category).sum ≤ 8) (hP : P.1 b = some (xO 9 fs)) (hC : xC w d mX11_sign [.ref b, .int a0] P (xThr q P1)) (hq : Q (.threw q) P1) : X w mX11_readTable (d + 1) Q 112 ls (.int a0 :: .ref b :: st) P := X_callV (M := mX11_readTable) (MC := mX11_sign) (As := [.int a0]) (T := TX11) (dX11_readTable_112) calX11_sign xw_460 xw_461 xw_462 rfl rfl hP hC hst (fun v P2 h => by cases h.1) (fun q2 P2 h => by obtain ⟨h1, rfl⟩ := h; cases h1; exact Xt_out rfl hq)
theorem dX11_readTable_115 : decode cX11_readTable 115 = .ok (.aload_n 0, 1) := by decide +kernel
theorem sX11_readTable_115 {l1 l2 : Option Value} {x : Nat} (k : X w mX11_readTable d Q 116 [some (.ref x), l1, l2] (.ref x :: st) P) : X w mX11_readTable d Q 115 [some (.ref x), l1, l2] st P := X_aload_n (M := mX11_readTable) (dX11_readTable_115) rfl rfl k
theorem dX11_readTable_116 : decode cX11_readTable 116 = .ok (.getfield 23, 3) := by decide +kernel
theorem sX11_readTable_116 {a : Nat} {fs : List Value} {v : Nat} (hP : P.1 a = some (xO 9 fs)) (hv : fs[7]? = some (.ref v)) (k : X w mX11_readTable d Q 119 ls (.ref v :: st) P) : X w mX11_readTable d Q 116 ls (.ref a :: st) P := X_get (M := mX11_readTable) (j := 7) (T := TX11) (dX11_readTable_116) rfl (by decide) x_in11 xw_408 hP hv k
theorem dX11_readTable_119 : decode cX11_readTable 119 = .ok (.iload_n 1, 1) := by decide +kernel
theorem sX11_readTable_119 {l0 l2 : Option Value} {x : Int32} (k : X w mX11_readTable d Q 120 [l0, some (.int x), l2] (.int x :: st) P) : X w mX11_readTable d Q 119 [l0, some (.int x), l2] st P := X_iload_n (M := mX11_readTable) (dX11_readTable_119) rfl rfl k
theorem dX11_readTable_120 : decode cX11_readTable 120 = .ok (.aload_n 0, 1) := by decide +kernel
theorem sX11_readTable_120 {l1 l2 : Option Value} {x : Nat} (k : X w mX11_readTable d Q 121 [some (.ref x), l1, l2] (.ref x :: st) P) : X w mX11_readTable d Q 120 [some (.ref x), l1, l2] st P := X_aload_n (M := mX11_readTable) (dX11_readTable_120) rfl rfl k
theorem dX11_readTable_121 : decode cX11_readTable 121 = .ok (.aload_n 0, 1) := by decide +kernel
theorem sX11_readTable_121 {l1 l2 : Option Value} {x : Nat} (k : X w mX11_readTable d Q 122 [some (.ref x), l1, l2] (.ref x :: st) P) : X w mX11_readTable d Q 121 [some (.ref x), l1, l2] st P := X_aload_n (M := mX11_readTable) (dX11_readTable_121) rfl rfl k
theorem dX11_readTable_122 : decode cX11_readTable 122 = .ok (.getfield 29, 3) := by decide +kernel
theorem sX11_readTable_122 {a : Nat} {fs : List Value} {v : Nat} (hP : P.1 a = some (xO 9 fs)) (hv : fs[9]? = some (.ref v)) (k : X w mX11_readTable d Q 125 ls (.ref v :: st) P) : X w mX11_readTable d Q 122 ls (.ref a :: st) P := X_get (M := mX11_readTable) (j := 9) (T := TX11) (dX11_readTable_122) rfl (by decide) x_in11 xw_410 hP hv k
theorem dX11_readTable_125 : decode cX11_readTable 125 = .ok (.iconst 4, 1) := by decide +kernel
theorem sX11_readTable_125 (k : X w mX11_readTable d Q 126 ls (.int (4 : Int32) :: st) P) : X w mX11_readTable d Q 125 ls st P := X_iconst (M := mX11_readTable) (dX11_readTable_125) (by decide) k
theorem dX11_readTable_126 : decode cX11_readTable 126 = .ok (.iload_n 1, 1) := by decide +kernel
theorem sX11_readTable_126 {l0 l2 : Option Value} {x : Int32} (k : X w mX11_readTable d Q 127 [l0, some (.int x), l2] (.int x :: st) P) : X w mX11_readTable d Q 126 [l0, some (.int x), l2] st P := X_iload_n (M := mX11_readTable) (dX11_readTable_126) rfl rfl k
theorem dX11_readTable_127 : decode cX11_readTable 127 = .ok (.imul, 1) := by decide +kernel
theorem sX11_readTable_127 {x y : Int32} (k : X w mX11_readTable d Q 128 ls (.int (x * y) :: st) P) : X w mX11_readTable d Q 127 ls (.int y :: .int x :: st) P := X_imul (M := mX11_readTable) (dX11_readTable_127) k
theorem dX11_readTable_128 : decode cX11_readTable 128 = .ok (.invokevirtual 149, 3) := by decide +kernel
theorem sX11_readTable_128_g {b : Nat} {fs : List Value} {a0 : Nat} {a1 : Int32} {Qc : Outcome → xH → Prop} (hst : (st.map fun v => v.category).sum ≤ 8) (hP : P.1 b = some (xO 9 fs)) (hC : xC w d mX11_axis [.ref b, .ref a0, .int a1] P Qc) (kr : ∀ v P1, Qc (.returned v) P1 → X w mX11_readTable (d + 1) Q 131 ls (v.toList ++ st) P1) (kt : ∀ q P1, Qc (.threw q) P1 → Xt w mX11_readTable (d + 1) Q 128 ls st P1 q) : X w mX11_readTable (d + 1) Q 128 ls (.int a1 :: .ref a0 :: .ref b :: st) P := X_callV (M := mX11_readTable) (MC := mX11_axis) (As := [.ref a0, .int a1]) (T := TX11) (dX11_readTable_128) calX11_axis xw_463 xw_464 xw_465 rfl rfl hP hC hst kr kt
theorem sX11_readTable_128 {b : Nat} {fs : List Value} {a0 : Nat} {a1 : Int32} {r : Int32} {P1 : xH} (hst : (st.map fun v => v.category).sum ≤ 8) (hP : P.1 b = some (xO 9 fs)) (hC : xC w d mX11_axis [.ref b, .ref a0, .int a1] P (xRet (some (.int r)) P1)) (k : X w mX11_readTable (d + 1) Q 131 ls (.int r :: st) P1) : X w mX11_readTable (d + 1) Q 128 ls (.int a1 :: .ref a0 :: .ref b :: st) P := X_callV (M := mX11_readTable) (MC := mX11_axis) (As := [.ref a0, .int a1]) (T := TX11) (dX11_readTable_128) calX11_axis xw_463 xw_464 xw_465 rfl rfl hP hC hst (fun v P2 h => by obtain ⟨h1, rfl⟩ := h; cases h1; exact k) (fun q P2 h => by cases h.1)
theorem sX11_readTable_128_r {b : Nat} {fs : List Value} {a0 : Nat} {a1 : Int32} {r : Int32} {Rp : xH → Prop} (hst : (st.map fun v => v.category).sum ≤ 8) (hP : P.1 b = some (xO 9 fs)) (hC : xC w d mX11_axis [.ref b, .ref a0, .int a1] P (xRl (some (.int r)) Rp)) (k : ∀ P1, Rp P1 → X w mX11_readTable (d + 1) Q 131 ls (.int r :: st) P1) : X w mX11_readTable (d + 1) Q 128 ls (.int a1 :: .ref a0 :: .ref b :: st) P := X_callV (M := mX11_readTable) (MC := mX11_axis) (As := [.ref a0, .int a1]) (T := TX11) (dX11_readTable_128) calX11_axis xw_463 xw_464 xw_465 rfl rfl hP hC hst (fun v P2 h => by obtain ⟨h1, hR⟩ := h; cases h1; exact k P2 hR) (fun q P2 h => by cases h.1)
theorem sX11_readTable_128_t {b : Nat} {fs : List Value} {a0 : Nat} {a1 : Int32} {q : Nat} {P1 : xH} (hst : (st.map fun v => v.category).sum ≤ 8) (hP : P.1 b = some (xO 9 fs)) (hC : xC w d mX11_axis [.ref b, .ref a0, .int a1] P (xThr q P1)) (hq : Q (.threw q) P1) : X w mX11_readTable (d + 1) Q 128 ls (.int a1 :: .ref a0 :: .ref b :: st) P := X_callV (M := mX11_readTable) (MC := mX11_axis) (As := [.ref a0, .int a1]) (T := TX11) (dX11_readTable_128) calX11_axis xw_463 xw_464 xw_465 rfl rfl hP hC hst (fun v P2 h => by cases h.1) (fun q2 P2 h => by obtain ⟨h1, rfl⟩ := h; cases h1; exact Xt_out rfl hq)
theorem dX11_readTable_131 : decode cX11_readTable 131 = .ok (.iastore, 1) := by decide +kernel
theorem sX11_readTable_131 {a n : Nat} {f : Nat → Int32} {i x : Int32} (hP : P.1 a = some (xA 0 n f)) (hi : vp_in i n) (k : X w mX11_readTable d Q 132 ls st (xs P a (xA 0 n (upd f i.toNatClampNeg x)))) : X w mX11_readTable d Q 131 ls (.int x :: .int i :: .ref a :: st) P := X_iast (M := mX11_readTable) (dX11_readTable_131) hP hi k
theorem dX11_readTable_132 : decode cX11_readTable 132 = .ok (.aload_n 0, 1) := by decide +kernel
theorem sX11_readTable_132 {l1 l2 : Option Value} {x : Nat} (k : X w mX11_readTable d Q 133 [some (.ref x), l1, l2] (.ref x :: st) P) : X w mX11_readTable d Q 132 [some (.ref x), l1, l2] st P := X_aload_n (M := mX11_readTable) (dX11_readTable_132) rfl rfl k
theorem dX11_readTable_133 : decode cX11_readTable 133 = .ok (.bipush 47, 2) := by decide +kernel
theorem sX11_readTable_133 (k : X w mX11_readTable d Q 135 ls (.int (47 : Int32) :: st) P) : X w mX11_readTable d Q 133 ls st P := X_bipush (M := mX11_readTable) (dX11_readTable_133) (by decide) k
theorem dX11_readTable_135 : decode cX11_readTable 135 = .ok (.invokevirtual 145, 3) := by decide +kernel
theorem sX11_readTable_135_g {b : Nat} {fs : List Value} {a0 : Int32} {Qc : Outcome → xH → Prop} (hst : (st.map fun v => v.category).sum ≤ 8) (hP : P.1 b = some (xO 9 fs)) (hC : xC w d mX11_sign [.ref b, .int a0] P Qc) (kr : ∀ v P1, Qc (.returned v) P1 → X w mX11_readTable (d + 1) Q 138 ls (v.toList ++ st) P1) (kt : ∀ q P1, Qc (.threw q) P1 → Xt w mX11_readTable (d + 1) Q 135 ls st P1 q) : X w mX11_readTable (d + 1) Q 135 ls (.int a0 :: .ref b :: st) P := X_callV (M := mX11_readTable) (MC := mX11_sign) (As := [.int a0]) (T := TX11) (dX11_readTable_135) calX11_sign xw_460 xw_461 xw_462 rfl rfl hP hC hst kr kt
theorem sX11_readTable_135 {b : Nat} {fs : List Value} {a0 : Int32} {P1 : xH} (hst : (st.map fun v => v.category).sum ≤ 8) (hP : P.1 b = some (xO 9 fs)) (hC : xC w d mX11_sign [.ref b, .int a0] P (xRet none P1)) (k : X w mX11_readTable (d + 1) Q 138 ls st P1) : X w mX11_readTable (d + 1) Q 135 ls (.int a0 :: .ref b :: st) P := X_callV (M := mX11_readTable) (MC := mX11_sign) (As := [.int a0]) (T := TX11) (dX11_readTable_135) calX11_sign xw_460 xw_461 xw_462 rfl rfl hP hC hst (fun v P2 h => by obtain ⟨h1, rfl⟩ := h; cases h1; exact k) (fun q P2 h => by cases h.1)
theorem sX11_readTable_135_r {b : Nat} {fs : List Value} {a0 : Int32} {Rp : xH → Prop} (hst : (st.map fun v => v.category).sum ≤ 8) (hP : P.1 b = some (xO 9 fs)) (hC : xC w d mX11_sign [.ref b, .int a0] P (xRl none Rp)) (k : ∀ P1, Rp P1 → X w mX11_readTable (d + 1) Q 138 ls st P1) : X w mX11_readTable (d + 1) Q 135 ls (.int a0 :: .ref b :: st) P := X_callV (M := mX11_readTable) (MC := mX11_sign) (As := [.int a0]) (T := TX11) (dX11_readTable_135) calX11_sign xw_460 xw_461 xw_462 rfl rfl hP hC hst (fun v P2 h => by obtain ⟨h1, hR⟩ := h; cases h1; exact k P2 hR) (fun q P2 h => by cases h.1)
theorem sX11_readTable_135_t {b : Nat} {fs : List Value} {a0 : Int32} {q : Nat} {P1 : xH} (hst : (st.map fun v => v.category).sum ≤ 8) (hP : P.1 b = some (xO 9 fs)) (hC : xC w d mX11_sign [.ref b, .int a0] P (xThr q P1)) (hq : Q (.threw q) P1) : X w mX11_readTable (d + 1) Q 135 ls (.int a0 :: .ref b :: st) P := X_callV (M := mX11_readTable) (MC := mX11_sign) (As := [.int a0]) (T := TX11) (dX11_readTable_135) calX11_sign xw_460 xw_461 xw_462 rfl rfl hP hC hst (fun v P2 h => by cases h.1) (fun q2 P2 h => by obtain ⟨h1, rfl⟩ := h; cases h1; exact Xt_out rfl hq)
theorem dX11_readTable_138 : decode cX11_readTable 138 = .ok (.iconst 0, 1) := by decide +kernel
theorem sX11_readTable_138 (k : X w mX11_readTable d Q 139 ls (.int (0 : Int32) :: st) P) : X w mX11_readTable d Q 138 ls st P := X_iconst (M := mX11_readTable) (dX11_readTable_138) (by decide) k
theorem dX11_readTable_139 : decode cX11_readTable 139 = .ok (.istore_n 2, 1) := by decide +kernel
theorem sX11_readTable_139 {l0 l1 l2 : Option Value} {x : Int32} (hn : xnl l1 = true) (k : X w mX11_readTable d Q 140 [l0, l1, some (.int x)] st P) : X w mX11_readTable d Q 139 [l0, l1, l2] (.int x :: st) P := X_istore_n (M := mX11_readTable) (dX11_readTable_139) rfl (by decide) rfl (xnl_p (ls := [l0, l1, l2]) (j := 1) rfl hn) k
theorem dX11_readTable_140 : decode cX11_readTable 140 = .ok (.iload_n 2, 1) := by decide +kernel
theorem sX11_readTable_140 {l0 l1 : Option Value} {x : Int32} (k : X w mX11_readTable d Q 141 [l0, l1, some (.int x)] (.int x :: st) P) : X w mX11_readTable d Q 140 [l0, l1, some (.int x)] st P := X_iload_n (M := mX11_readTable) (dX11_readTable_140) rfl rfl k
theorem dX11_readTable_141 : decode cX11_readTable 141 = .ok (.aload_n 0, 1) := by decide +kernel
theorem sX11_readTable_141 {l1 l2 : Option Value} {x : Nat} (k : X w mX11_readTable d Q 142 [some (.ref x), l1, l2] (.ref x :: st) P) : X w mX11_readTable d Q 141 [some (.ref x), l1, l2] st P := X_aload_n (M := mX11_readTable) (dX11_readTable_141) rfl rfl k
theorem dX11_readTable_142 : decode cX11_readTable 142 = .ok (.getfield 20, 3) := by decide +kernel
theorem sX11_readTable_142 {a : Nat} {fs : List Value} {v : Nat} (hP : P.1 a = some (xO 9 fs)) (hv : fs[6]? = some (.ref v)) (k : X w mX11_readTable d Q 145 ls (.ref v :: st) P) : X w mX11_readTable d Q 142 ls (.ref a :: st) P := X_get (M := mX11_readTable) (j := 6) (T := TX11) (dX11_readTable_142) rfl (by decide) x_in11 xw_407 hP hv k
theorem dX11_readTable_145 : decode cX11_readTable 145 = .ok (.iload_n 1, 1) := by decide +kernel
theorem sX11_readTable_145 {l0 l2 : Option Value} {x : Int32} (k : X w mX11_readTable d Q 146 [l0, some (.int x), l2] (.int x :: st) P) : X w mX11_readTable d Q 145 [l0, some (.int x), l2] st P := X_iload_n (M := mX11_readTable) (dX11_readTable_145) rfl rfl k
theorem dX11_readTable_146 : decode cX11_readTable 146 = .ok (.iaload, 1) := by decide +kernel
theorem sX11_readTable_146 {a n : Nat} {f : Nat → Int32} {i : Int32} (hP : P.1 a = some (xA 0 n f)) (hi : vp_in i n) (k : X w mX11_readTable d Q 147 ls (.int (f i.toNatClampNeg) :: st) P) : X w mX11_readTable d Q 146 ls (.int i :: .ref a :: st) P := X_iald (M := mX11_readTable) (dX11_readTable_146) hP hi k
theorem dX11_readTable_147 : decode cX11_readTable 147 = .ok (.aload_n 0, 1) := by decide +kernel
theorem sX11_readTable_147 {l1 l2 : Option Value} {x : Nat} (k : X w mX11_readTable d Q 148 [some (.ref x), l1, l2] (.ref x :: st) P) : X w mX11_readTable d Q 147 [some (.ref x), l1, l2] st P := X_aload_n (M := mX11_readTable) (dX11_readTable_147) rfl rfl k
theorem dX11_readTable_148 : decode cX11_readTable 148 = .ok (.getfield 23, 3) := by decide +kernel
theorem sX11_readTable_148 {a : Nat} {fs : List Value} {v : Nat} (hP : P.1 a = some (xO 9 fs)) (hv : fs[7]? = some (.ref v)) (k : X w mX11_readTable d Q 151 ls (.ref v :: st) P) : X w mX11_readTable d Q 148 ls (.ref a :: st) P := X_get (M := mX11_readTable) (j := 7) (T := TX11) (dX11_readTable_148) rfl (by decide) x_in11 xw_408 hP hv k
theorem dX11_readTable_151 : decode cX11_readTable 151 = .ok (.iload_n 1, 1) := by decide +kernel
theorem sX11_readTable_151 {l0 l2 : Option Value} {x : Int32} (k : X w mX11_readTable d Q 152 [l0, some (.int x), l2] (.int x :: st) P) : X w mX11_readTable d Q 151 [l0, some (.int x), l2] st P := X_iload_n (M := mX11_readTable) (dX11_readTable_151) rfl rfl k
theorem dX11_readTable_152 : decode cX11_readTable 152 = .ok (.iaload, 1) := by decide +kernel
theorem sX11_readTable_152 {a n : Nat} {f : Nat → Int32} {i : Int32} (hP : P.1 a = some (xA 0 n f)) (hi : vp_in i n) (k : X w mX11_readTable d Q 153 ls (.int (f i.toNatClampNeg) :: st) P) : X w mX11_readTable d Q 152 ls (.int i :: .ref a :: st) P := X_iald (M := mX11_readTable) (dX11_readTable_152) hP hi k
theorem dX11_readTable_153 : decode cX11_readTable 153 = .ok (.imul, 1) := by decide +kernel
theorem sX11_readTable_153 {x y : Int32} (k : X w mX11_readTable d Q 154 ls (.int (x * y) :: st) P) : X w mX11_readTable d Q 153 ls (.int y :: .int x :: st) P := X_imul (M := mX11_readTable) (dX11_readTable_153) k
theorem dX11_readTable_154 : decode cX11_readTable 154 = .ok (.if_icmp .ge 31, 3) := by decide +kernel
theorem sX11_readTable_154 {x y : Int32} (kt : y ≤ x → X w mX11_readTable d Q 185 ls st P) (kf : ¬ y ≤ x → X w mX11_readTable d Q 157 ls st P) : X w mX11_readTable d Q 154 ls (.int y :: .int x :: st) P := X_icmp_ge (M := mX11_readTable) (dX11_readTable_154) (by decide) kt kf
theorem dX11_readTable_157 : decode cX11_readTable 157 = .ok (.aload_n 0, 1) := by decide +kernel
theorem sX11_readTable_157 {l1 l2 : Option Value} {x : Nat} (k : X w mX11_readTable d Q 158 [some (.ref x), l1, l2] (.ref x :: st) P) : X w mX11_readTable d Q 157 [some (.ref x), l1, l2] st P := X_aload_n (M := mX11_readTable) (dX11_readTable_157) rfl rfl k
theorem dX11_readTable_158 : decode cX11_readTable 158 = .ok (.getfield 117, 3) := by decide +kernel
theorem sX11_readTable_158 {a : Nat} {fs : List Value} {v : Int32} (hP : P.1 a = some (xO 9 fs)) (hv : fs[28]? = some (.int v)) (k : X w mX11_readTable d Q 161 ls (.int v :: st) P) : X w mX11_readTable d Q 158 ls (.ref a :: st) P := X_get (M := mX11_readTable) (j := 28) (T := TX11) (dX11_readTable_158) rfl (by decide) x_in11 xw_441 hP hv k
theorem dX11_readTable_161 : decode cX11_readTable 161 = .ok (.ifCond .eq 24, 3) := by decide +kernel
theorem sX11_readTable_161 {x : Int32} (kt : x = 0 → X w mX11_readTable d Q 185 ls st P) (kf : ¬ x = 0 → X w mX11_readTable d Q 164 ls st P) : X w mX11_readTable d Q 161 ls (.int x :: st) P := X_if_eq (M := mX11_readTable) (dX11_readTable_161) (by decide) kt kf
theorem dX11_readTable_164 : decode cX11_readTable 164 = .ok (.aload_n 0, 1) := by decide +kernel
theorem sX11_readTable_164 {l1 l2 : Option Value} {x : Nat} (k : X w mX11_readTable d Q 165 [some (.ref x), l1, l2] (.ref x :: st) P) : X w mX11_readTable d Q 164 [some (.ref x), l1, l2] st P := X_aload_n (M := mX11_readTable) (dX11_readTable_164) rfl rfl k
theorem dX11_readTable_165 : decode cX11_readTable 165 = .ok (.getfield 32, 3) := by decide +kernel
theorem sX11_readTable_165 {a : Nat} {fs : List Value} {v : Nat} (hP : P.1 a = some (xO 9 fs)) (hv : fs[10]? = some (.ref v)) (k : X w mX11_readTable d Q 168 ls (.ref v :: st) P) : X w mX11_readTable d Q 165 ls (.ref a :: st) P := X_get (M := mX11_readTable) (j := 10) (T := TX11) (dX11_readTable_165) rfl (by decide) x_in11 xw_411 hP hv k
theorem dX11_readTable_168 : decode cX11_readTable 168 = .ok (.bipush 16, 2) := by decide +kernel
theorem sX11_readTable_168 (k : X w mX11_readTable d Q 170 ls (.int (16 : Int32) :: st) P) : X w mX11_readTable d Q 168 ls st P := X_bipush (M := mX11_readTable) (dX11_readTable_168) (by decide) k
theorem dX11_readTable_170 : decode cX11_readTable 170 = .ok (.iload_n 1, 1) := by decide +kernel
theorem sX11_readTable_170 {l0 l2 : Option Value} {x : Int32} (k : X w mX11_readTable d Q 171 [l0, some (.int x), l2] (.int x :: st) P) : X w mX11_readTable d Q 170 [l0, some (.int x), l2] st P := X_iload_n (M := mX11_readTable) (dX11_readTable_170) rfl rfl k
theorem dX11_readTable_171 : decode cX11_readTable 171 = .ok (.imul, 1) := by decide +kernel
theorem sX11_readTable_171 {x y : Int32} (k : X w mX11_readTable d Q 172 ls (.int (x * y) :: st) P) : X w mX11_readTable d Q 171 ls (.int y :: .int x :: st) P := X_imul (M := mX11_readTable) (dX11_readTable_171) k
theorem dX11_readTable_172 : decode cX11_readTable 172 = .ok (.iload_n 2, 1) := by decide +kernel
theorem sX11_readTable_172 {l0 l1 : Option Value} {x : Int32} (k : X w mX11_readTable d Q 173 [l0, l1, some (.int x)] (.int x :: st) P) : X w mX11_readTable d Q 172 [l0, l1, some (.int x)] st P := X_iload_n (M := mX11_readTable) (dX11_readTable_172) rfl rfl k
theorem dX11_readTable_173 : decode cX11_readTable 173 = .ok (.iadd, 1) := by decide +kernel
theorem sX11_readTable_173 {x y : Int32} (k : X w mX11_readTable d Q 174 ls (.int (x + y) :: st) P) : X w mX11_readTable d Q 173 ls (.int y :: .int x :: st) P := X_iadd (M := mX11_readTable) (dX11_readTable_173) k
theorem dX11_readTable_174 : decode cX11_readTable 174 = .ok (.aload_n 0, 1) := by decide +kernel
theorem sX11_readTable_174 {l1 l2 : Option Value} {x : Nat} (k : X w mX11_readTable d Q 175 [some (.ref x), l1, l2] (.ref x :: st) P) : X w mX11_readTable d Q 174 [some (.ref x), l1, l2] st P := X_aload_n (M := mX11_readTable) (dX11_readTable_174) rfl rfl k
theorem dX11_readTable_175 : decode cX11_readTable 175 = .ok (.invokevirtual 153, 3) := by decide +kernel
theorem sX11_readTable_175_g {b : Nat} {fs : List Value}  {Qc : Outcome → xH → Prop} (hst : (st.map fun v => v.category).sum ≤ 8) (hP : P.1 b = some (xO 9 fs)) (hC : xC w d mX11_numberNow [.ref b] P Qc) (kr : ∀ v P1, Qc (.returned v) P1 → X w mX11_readTable (d + 1) Q 178 ls (v.toList ++ st) P1) (kt : ∀ q P1, Qc (.threw q) P1 → Xt w mX11_readTable (d + 1) Q 175 ls st P1 q) : X w mX11_readTable (d + 1) Q 175 ls (.ref b :: st) P := X_callV (M := mX11_readTable) (MC := mX11_numberNow) (As := []) (T := TX11) (dX11_readTable_175) calX11_numberNow xw_466 xw_467 xw_468 rfl rfl hP hC hst kr kt
theorem sX11_readTable_175 {b : Nat} {fs : List Value}  {r : Int32} {P1 : xH} (hst : (st.map fun v => v.category).sum ≤ 8) (hP : P.1 b = some (xO 9 fs)) (hC : xC w d mX11_numberNow [.ref b] P (xRet (some (.int r)) P1)) (k : X w mX11_readTable (d + 1) Q 178 ls (.int r :: st) P1) : X w mX11_readTable (d + 1) Q 175 ls (.ref b :: st) P := X_callV (M := mX11_readTable) (MC := mX11_numberNow) (As := []) (T := TX11) (dX11_readTable_175) calX11_numberNow xw_466 xw_467 xw_468 rfl rfl hP hC hst (fun v P2 h => by obtain ⟨h1, rfl⟩ := h; cases h1; exact k) (fun q P2 h => by cases h.1)
theorem sX11_readTable_175_r {b : Nat} {fs : List Value}  {r : Int32} {Rp : xH → Prop} (hst : (st.map fun v => v.category).sum ≤ 8) (hP : P.1 b = some (xO 9 fs)) (hC : xC w d mX11_numberNow [.ref b] P (xRl (some (.int r)) Rp)) (k : ∀ P1, Rp P1 → X w mX11_readTable (d + 1) Q 178 ls (.int r :: st) P1) : X w mX11_readTable (d + 1) Q 175 ls (.ref b :: st) P := X_callV (M := mX11_readTable) (MC := mX11_numberNow) (As := []) (T := TX11) (dX11_readTable_175) calX11_numberNow xw_466 xw_467 xw_468 rfl rfl hP hC hst (fun v P2 h => by obtain ⟨h1, hR⟩ := h; cases h1; exact k P2 hR) (fun q P2 h => by cases h.1)
theorem sX11_readTable_175_t {b : Nat} {fs : List Value}  {q : Nat} {P1 : xH} (hst : (st.map fun v => v.category).sum ≤ 8) (hP : P.1 b = some (xO 9 fs)) (hC : xC w d mX11_numberNow [.ref b] P (xThr q P1)) (hq : Q (.threw q) P1) : X w mX11_readTable (d + 1) Q 175 ls (.ref b :: st) P := X_callV (M := mX11_readTable) (MC := mX11_numberNow) (As := []) (T := TX11) (dX11_readTable_175) calX11_numberNow xw_466 xw_467 xw_468 rfl rfl hP hC hst (fun v P2 h => by cases h.1) (fun q2 P2 h => by obtain ⟨h1, rfl⟩ := h; cases h1; exact Xt_out rfl hq)
theorem dX11_readTable_178 : decode cX11_readTable 178 = .ok (.iastore, 1) := by decide +kernel
theorem sX11_readTable_178 {a n : Nat} {f : Nat → Int32} {i x : Int32} (hP : P.1 a = some (xA 0 n f)) (hi : vp_in i n) (k : X w mX11_readTable d Q 179 ls st (xs P a (xA 0 n (upd f i.toNatClampNeg x)))) : X w mX11_readTable d Q 178 ls (.int x :: .int i :: .ref a :: st) P := X_iast (M := mX11_readTable) (dX11_readTable_178) hP hi k
theorem dX11_readTable_179 : decode cX11_readTable 179 = .ok (.iinc 2 1, 3) := by decide +kernel
theorem sX11_readTable_179 {l0 l1 : Option Value} {x : Int32} (hn : xnl l1 = true) (k : X w mX11_readTable d Q 182 [l0, l1, some (.int (x + (1 : Int32)))] st P) : X w mX11_readTable d Q 179 [l0, l1, some (.int x)] st P := X_iinc (M := mX11_readTable) (dX11_readTable_179) rfl (by rfl) (by decide) rfl (xnl_p (ls := [l0, l1, some (.int x)]) (j := 1) rfl hn) k
theorem dX11_readTable_182 : decode cX11_readTable 182 = .ok (.goto (-42), 3) := by decide +kernel
theorem sX11_readTable_182 (k : X w mX11_readTable d Q 140 ls st P) : X w mX11_readTable d Q 182 ls st P := X_goto (M := mX11_readTable) (dX11_readTable_182) (by decide) k
theorem dX11_readTable_185 : decode cX11_readTable 185 = .ok (.aload_n 0, 1) := by decide +kernel
theorem sX11_readTable_185 {l1 l2 : Option Value} {x : Nat} (k : X w mX11_readTable d Q 186 [some (.ref x), l1, l2] (.ref x :: st) P) : X w mX11_readTable d Q 185 [some (.ref x), l1, l2] st P := X_aload_n (M := mX11_readTable) (dX11_readTable_185) rfl rfl k
theorem dX11_readTable_186 : decode cX11_readTable 186 = .ok (.bipush 59, 2) := by decide +kernel
theorem sX11_readTable_186 (k : X w mX11_readTable d Q 188 ls (.int (59 : Int32) :: st) P) : X w mX11_readTable d Q 186 ls st P := X_bipush (M := mX11_readTable) (dX11_readTable_186) (by decide) k
theorem dX11_readTable_188 : decode cX11_readTable 188 = .ok (.invokevirtual 145, 3) := by decide +kernel
theorem sX11_readTable_188_g {b : Nat} {fs : List Value} {a0 : Int32} {Qc : Outcome → xH → Prop} (hst : (st.map fun v => v.category).sum ≤ 8) (hP : P.1 b = some (xO 9 fs)) (hC : xC w d mX11_sign [.ref b, .int a0] P Qc) (kr : ∀ v P1, Qc (.returned v) P1 → X w mX11_readTable (d + 1) Q 191 ls (v.toList ++ st) P1) (kt : ∀ q P1, Qc (.threw q) P1 → Xt w mX11_readTable (d + 1) Q 188 ls st P1 q) : X w mX11_readTable (d + 1) Q 188 ls (.int a0 :: .ref b :: st) P := X_callV (M := mX11_readTable) (MC := mX11_sign) (As := [.int a0]) (T := TX11) (dX11_readTable_188) calX11_sign xw_460 xw_461 xw_462 rfl rfl hP hC hst kr kt
theorem sX11_readTable_188 {b : Nat} {fs : List Value} {a0 : Int32} {P1 : xH} (hst : (st.map fun v => v.category).sum ≤ 8) (hP : P.1 b = some (xO 9 fs)) (hC : xC w d mX11_sign [.ref b, .int a0] P (xRet none P1)) (k : X w mX11_readTable (d + 1) Q 191 ls st P1) : X w mX11_readTable (d + 1) Q 188 ls (.int a0 :: .ref b :: st) P := X_callV (M := mX11_readTable) (MC := mX11_sign) (As := [.int a0]) (T := TX11) (dX11_readTable_188) calX11_sign xw_460 xw_461 xw_462 rfl rfl hP hC hst (fun v P2 h => by obtain ⟨h1, rfl⟩ := h; cases h1; exact k) (fun q P2 h => by cases h.1)
theorem sX11_readTable_188_r {b : Nat} {fs : List Value} {a0 : Int32} {Rp : xH → Prop} (hst : (st.map fun v => v.category).sum ≤ 8) (hP : P.1 b = some (xO 9 fs)) (hC : xC w d mX11_sign [.ref b, .int a0] P (xRl none Rp)) (k : ∀ P1, Rp P1 → X w mX11_readTable (d + 1) Q 191 ls st P1) : X w mX11_readTable (d + 1) Q 188 ls (.int a0 :: .ref b :: st) P := X_callV (M := mX11_readTable) (MC := mX11_sign) (As := [.int a0]) (T := TX11) (dX11_readTable_188) calX11_sign xw_460 xw_461 xw_462 rfl rfl hP hC hst (fun v P2 h => by obtain ⟨h1, hR⟩ := h; cases h1; exact k P2 hR) (fun q P2 h => by cases h.1)
theorem sX11_readTable_188_t {b : Nat} {fs : List Value} {a0 : Int32} {q : Nat} {P1 : xH} (hst : (st.map fun v => v.category).sum ≤ 8) (hP : P.1 b = some (xO 9 fs)) (hC : xC w d mX11_sign [.ref b, .int a0] P (xThr q P1)) (hq : Q (.threw q) P1) : X w mX11_readTable (d + 1) Q 188 ls (.int a0 :: .ref b :: st) P := X_callV (M := mX11_readTable) (MC := mX11_sign) (As := [.int a0]) (T := TX11) (dX11_readTable_188) calX11_sign xw_460 xw_461 xw_462 rfl rfl hP hC hst (fun v P2 h => by cases h.1) (fun q2 P2 h => by obtain ⟨h1, rfl⟩ := h; cases h1; exact Xt_out rfl hq)
theorem dX11_readTable_191 : decode cX11_readTable 191 = .ok (.aload_n 0, 1) := by decide +kernel
theorem sX11_readTable_191 {l1 l2 : Option Value} {x : Nat} (k : X w mX11_readTable d Q 192 [some (.ref x), l1, l2] (.ref x :: st) P) : X w mX11_readTable d Q 191 [some (.ref x), l1, l2] st P := X_aload_n (M := mX11_readTable) (dX11_readTable_191) rfl rfl k
theorem dX11_readTable_192 : decode cX11_readTable 192 = .ok (.getfield 13, 3) := by decide +kernel
theorem sX11_readTable_192 {a : Nat} {fs : List Value} {v : Nat} (hP : P.1 a = some (xO 9 fs)) (hv : fs[4]? = some (.ref v)) (k : X w mX11_readTable d Q 195 ls (.ref v :: st) P) : X w mX11_readTable d Q 192 ls (.ref a :: st) P := X_get (M := mX11_readTable) (j := 4) (T := TX11) (dX11_readTable_192) rfl (by decide) x_in11 xw_405 hP hv k
theorem dX11_readTable_195 : decode cX11_readTable 195 = .ok (.aload_n 0, 1) := by decide +kernel
theorem sX11_readTable_195 {l1 l2 : Option Value} {x : Nat} (k : X w mX11_readTable d Q 196 [some (.ref x), l1, l2] (.ref x :: st) P) : X w mX11_readTable d Q 195 [some (.ref x), l1, l2] st P := X_aload_n (M := mX11_readTable) (dX11_readTable_195) rfl rfl k
theorem dX11_readTable_196 : decode cX11_readTable 196 = .ok (.getfield 138, 3) := by decide +kernel
theorem sX11_readTable_196 {a : Nat} {fs : List Value} {v : Int32} (hP : P.1 a = some (xO 9 fs)) (hv : fs[29]? = some (.int v)) (k : X w mX11_readTable d Q 199 ls (.int v :: st) P) : X w mX11_readTable d Q 196 ls (.ref a :: st) P := X_get (M := mX11_readTable) (j := 29) (T := TX11) (dX11_readTable_196) rfl (by decide) x_in11 xw_456 hP hv k
theorem dX11_readTable_199 : decode cX11_readTable 199 = .ok (.dup2, 1) := by decide +kernel
theorem sX11_readTable_199 {i : Int32} {a : Nat} (k : X w mX11_readTable d Q 200 ls (.int i :: .ref a :: .int i :: .ref a :: st) P) : X w mX11_readTable d Q 199 ls (.int i :: .ref a :: st) P := X_dup2 (M := mX11_readTable) (dX11_readTable_199) rfl rfl k
theorem dX11_readTable_200 : decode cX11_readTable 200 = .ok (.iaload, 1) := by decide +kernel
theorem sX11_readTable_200 {a n : Nat} {f : Nat → Int32} {i : Int32} (hP : P.1 a = some (xA 0 n f)) (hi : vp_in i n) (k : X w mX11_readTable d Q 201 ls (.int (f i.toNatClampNeg) :: st) P) : X w mX11_readTable d Q 200 ls (.int i :: .ref a :: st) P := X_iald (M := mX11_readTable) (dX11_readTable_200) hP hi k
theorem dX11_readTable_201 : decode cX11_readTable 201 = .ok (.aload_n 0, 1) := by decide +kernel
theorem sX11_readTable_201 {l1 l2 : Option Value} {x : Nat} (k : X w mX11_readTable d Q 202 [some (.ref x), l1, l2] (.ref x :: st) P) : X w mX11_readTable d Q 201 [some (.ref x), l1, l2] st P := X_aload_n (M := mX11_readTable) (dX11_readTable_201) rfl rfl k
theorem dX11_readTable_202 : decode cX11_readTable 202 = .ok (.getfield 117, 3) := by decide +kernel
theorem sX11_readTable_202 {a : Nat} {fs : List Value} {v : Int32} (hP : P.1 a = some (xO 9 fs)) (hv : fs[28]? = some (.int v)) (k : X w mX11_readTable d Q 205 ls (.int v :: st) P) : X w mX11_readTable d Q 202 ls (.ref a :: st) P := X_get (M := mX11_readTable) (j := 28) (T := TX11) (dX11_readTable_202) rfl (by decide) x_in11 xw_441 hP hv k
theorem dX11_readTable_205 : decode cX11_readTable 205 = .ok (.ifCond .eq 7, 3) := by decide +kernel
theorem sX11_readTable_205 {x : Int32} (kt : x = 0 → X w mX11_readTable d Q 212 ls st P) (kf : ¬ x = 0 → X w mX11_readTable d Q 208 ls st P) : X w mX11_readTable d Q 205 ls (.int x :: st) P := X_if_eq (M := mX11_readTable) (dX11_readTable_205) (by decide) kt kf
theorem dX11_readTable_208 : decode cX11_readTable 208 = .ok (.iconst 1, 1) := by decide +kernel
theorem sX11_readTable_208 (k : X w mX11_readTable d Q 209 ls (.int (1 : Int32) :: st) P) : X w mX11_readTable d Q 208 ls st P := X_iconst (M := mX11_readTable) (dX11_readTable_208) (by decide) k
theorem dX11_readTable_209 : decode cX11_readTable 209 = .ok (.goto 4, 3) := by decide +kernel
theorem sX11_readTable_209 (k : X w mX11_readTable d Q 213 ls st P) : X w mX11_readTable d Q 209 ls st P := X_goto (M := mX11_readTable) (dX11_readTable_209) (by decide) k
theorem dX11_readTable_212 : decode cX11_readTable 212 = .ok (.iconst 0, 1) := by decide +kernel
theorem sX11_readTable_212 (k : X w mX11_readTable d Q 213 ls (.int (0 : Int32) :: st) P) : X w mX11_readTable d Q 212 ls st P := X_iconst (M := mX11_readTable) (dX11_readTable_212) (by decide) k
theorem dX11_readTable_213 : decode cX11_readTable 213 = .ok (.iadd, 1) := by decide +kernel
theorem sX11_readTable_213 {x y : Int32} (k : X w mX11_readTable d Q 214 ls (.int (x + y) :: st) P) : X w mX11_readTable d Q 213 ls (.int y :: .int x :: st) P := X_iadd (M := mX11_readTable) (dX11_readTable_213) k
theorem dX11_readTable_214 : decode cX11_readTable 214 = .ok (.iastore, 1) := by decide +kernel
theorem sX11_readTable_214 {a n : Nat} {f : Nat → Int32} {i x : Int32} (hP : P.1 a = some (xA 0 n f)) (hi : vp_in i n) (k : X w mX11_readTable d Q 215 ls st (xs P a (xA 0 n (upd f i.toNatClampNeg x)))) : X w mX11_readTable d Q 214 ls (.int x :: .int i :: .ref a :: st) P := X_iast (M := mX11_readTable) (dX11_readTable_214) hP hi k
theorem dX11_readTable_215 : decode cX11_readTable 215 = .ok (.return_, 1) := by decide +kernel
theorem sX11_readTable_215 (hq : Q (.returned none) P) : X w mX11_readTable d Q 215 ls [] P := X_vret (M := mX11_readTable) (dX11_readTable_215) rfl hq
theorem dX11_pinOf_0 : decode cX11_pinOf 0 = .ok (.iconst (-1), 1) := by decide +kernel
theorem sX11_pinOf_0 (k : X w mX11_pinOf d Q 1 ls (.int (-1 : Int32) :: st) P) : X w mX11_pinOf d Q 0 ls st P := X_iconst (M := mX11_pinOf) (dX11_pinOf_0) (by decide) k
theorem dX11_pinOf_1 : decode cX11_pinOf 1 = .ok (.istore 5, 2) := by decide +kernel
theorem sX11_pinOf_1 {l0 l1 l2 l3 l4 l5 l6 : Option Value} {x : Int32} (hn : xnl l4 = true) (k : X w mX11_pinOf d Q 3 [l0, l1, l2, l3, l4, some (.int x), l6] st P) : X w mX11_pinOf d Q 1 [l0, l1, l2, l3, l4, l5, l6] (.int x :: st) P := X_istore (M := mX11_pinOf) (dX11_pinOf_1) (by decide) rfl (xnl_p (ls := [l0, l1, l2, l3, l4, l5, l6]) (j := 4) rfl hn) k
theorem dX11_pinOf_3 : decode cX11_pinOf 3 = .ok (.iconst 0, 1) := by decide +kernel
theorem sX11_pinOf_3 (k : X w mX11_pinOf d Q 4 ls (.int (0 : Int32) :: st) P) : X w mX11_pinOf d Q 3 ls st P := X_iconst (M := mX11_pinOf) (dX11_pinOf_3) (by decide) k
theorem dX11_pinOf_4 : decode cX11_pinOf 4 = .ok (.istore 6, 2) := by decide +kernel
theorem sX11_pinOf_4 {l0 l1 l2 l3 l4 l5 l6 : Option Value} {x : Int32} (hn : xnl l5 = true) (k : X w mX11_pinOf d Q 6 [l0, l1, l2, l3, l4, l5, some (.int x)] st P) : X w mX11_pinOf d Q 4 [l0, l1, l2, l3, l4, l5, l6] (.int x :: st) P := X_istore (M := mX11_pinOf) (dX11_pinOf_4) (by decide) rfl (xnl_p (ls := [l0, l1, l2, l3, l4, l5, l6]) (j := 5) rfl hn) k
theorem dX11_pinOf_6 : decode cX11_pinOf 6 = .ok (.iload 6, 2) := by decide +kernel
theorem sX11_pinOf_6 {l0 l1 l2 l3 l4 l5 : Option Value} {x : Int32} (k : X w mX11_pinOf d Q 8 [l0, l1, l2, l3, l4, l5, some (.int x)] (.int x :: st) P) : X w mX11_pinOf d Q 6 [l0, l1, l2, l3, l4, l5, some (.int x)] st P := X_iload (M := mX11_pinOf) (dX11_pinOf_6) rfl k
theorem dX11_pinOf_8 : decode cX11_pinOf 8 = .ok (.iload 4, 2) := by decide +kernel
theorem sX11_pinOf_8 {l0 l1 l2 l3 l5 l6 : Option Value} {x : Int32} (k : X w mX11_pinOf d Q 10 [l0, l1, l2, l3, some (.int x), l5, l6] (.int x :: st) P) : X w mX11_pinOf d Q 8 [l0, l1, l2, l3, some (.int x), l5, l6] st P := X_iload (M := mX11_pinOf) (dX11_pinOf_8) rfl k
theorem dX11_pinOf_10 : decode cX11_pinOf 10 = .ok (.if_icmp .ge 40, 3) := by decide +kernel
theorem sX11_pinOf_10 {x y : Int32} (kt : y ≤ x → X w mX11_pinOf d Q 50 ls st P) (kf : ¬ y ≤ x → X w mX11_pinOf d Q 13 ls st P) : X w mX11_pinOf d Q 10 ls (.int y :: .int x :: st) P := X_icmp_ge (M := mX11_pinOf) (dX11_pinOf_10) (by decide) kt kf
theorem dX11_pinOf_13 : decode cX11_pinOf 13 = .ok (.aload_n 0, 1) := by decide +kernel
theorem sX11_pinOf_13 {l1 l2 l3 l4 l5 l6 : Option Value} {x : Nat} (k : X w mX11_pinOf d Q 14 [some (.ref x), l1, l2, l3, l4, l5, l6] (.ref x :: st) P) : X w mX11_pinOf d Q 13 [some (.ref x), l1, l2, l3, l4, l5, l6] st P := X_aload_n (M := mX11_pinOf) (dX11_pinOf_13) rfl rfl k
theorem dX11_pinOf_14 : decode cX11_pinOf 14 = .ok (.getfield 44, 3) := by decide +kernel
theorem sX11_pinOf_14 {a : Nat} {fs : List Value} {v : Nat} (hP : P.1 a = some (xO 9 fs)) (hv : fs[14]? = some (.ref v)) (k : X w mX11_pinOf d Q 17 ls (.ref v :: st) P) : X w mX11_pinOf d Q 14 ls (.ref a :: st) P := X_get (M := mX11_pinOf) (j := 14) (T := TX11) (dX11_pinOf_14) rfl (by decide) x_in11 xw_415 hP hv k
theorem dX11_pinOf_17 : decode cX11_pinOf 17 = .ok (.bipush 9, 2) := by decide +kernel
theorem sX11_pinOf_17 (k : X w mX11_pinOf d Q 19 ls (.int (9 : Int32) :: st) P) : X w mX11_pinOf d Q 17 ls st P := X_bipush (M := mX11_pinOf) (dX11_pinOf_17) (by decide) k
theorem dX11_pinOf_19 : decode cX11_pinOf 19 = .ok (.aload_n 0, 1) := by decide +kernel
theorem sX11_pinOf_19 {l1 l2 l3 l4 l5 l6 : Option Value} {x : Nat} (k : X w mX11_pinOf d Q 20 [some (.ref x), l1, l2, l3, l4, l5, l6] (.ref x :: st) P) : X w mX11_pinOf d Q 19 [some (.ref x), l1, l2, l3, l4, l5, l6] st P := X_aload_n (M := mX11_pinOf) (dX11_pinOf_19) rfl rfl k
theorem dX11_pinOf_20 : decode cX11_pinOf 20 = .ok (.getfield 157, 3) := by decide +kernel
theorem sX11_pinOf_20 {a : Nat} {fs : List Value} {v : Int32} (hP : P.1 a = some (xO 9 fs)) (hv : fs[30]? = some (.int v)) (k : X w mX11_pinOf d Q 23 ls (.int v :: st) P) : X w mX11_pinOf d Q 20 ls (.ref a :: st) P := X_get (M := mX11_pinOf) (j := 30) (T := TX11) (dX11_pinOf_20) rfl (by decide) x_in11 xw_469 hP hv k
theorem dX11_pinOf_23 : decode cX11_pinOf 23 = .ok (.imul, 1) := by decide +kernel
theorem sX11_pinOf_23 {x y : Int32} (k : X w mX11_pinOf d Q 24 ls (.int (x * y) :: st) P) : X w mX11_pinOf d Q 23 ls (.int y :: .int x :: st) P := X_imul (M := mX11_pinOf) (dX11_pinOf_23) k
theorem dX11_pinOf_24 : decode cX11_pinOf 24 = .ok (.iload_n 3, 1) := by decide +kernel
theorem sX11_pinOf_24 {l0 l1 l2 l4 l5 l6 : Option Value} {x : Int32} (k : X w mX11_pinOf d Q 25 [l0, l1, l2, some (.int x), l4, l5, l6] (.int x :: st) P) : X w mX11_pinOf d Q 24 [l0, l1, l2, some (.int x), l4, l5, l6] st P := X_iload_n (M := mX11_pinOf) (dX11_pinOf_24) rfl rfl k
theorem dX11_pinOf_25 : decode cX11_pinOf 25 = .ok (.iadd, 1) := by decide +kernel
theorem sX11_pinOf_25 {x y : Int32} (k : X w mX11_pinOf d Q 26 ls (.int (x + y) :: st) P) : X w mX11_pinOf d Q 25 ls (.int y :: .int x :: st) P := X_iadd (M := mX11_pinOf) (dX11_pinOf_25) k
theorem dX11_pinOf_26 : decode cX11_pinOf 26 = .ok (.iload 6, 2) := by decide +kernel
theorem sX11_pinOf_26 {l0 l1 l2 l3 l4 l5 : Option Value} {x : Int32} (k : X w mX11_pinOf d Q 28 [l0, l1, l2, l3, l4, l5, some (.int x)] (.int x :: st) P) : X w mX11_pinOf d Q 26 [l0, l1, l2, l3, l4, l5, some (.int x)] st P := X_iload (M := mX11_pinOf) (dX11_pinOf_26) rfl k
theorem dX11_pinOf_28 : decode cX11_pinOf 28 = .ok (.iadd, 1) := by decide +kernel
theorem sX11_pinOf_28 {x y : Int32} (k : X w mX11_pinOf d Q 29 ls (.int (x + y) :: st) P) : X w mX11_pinOf d Q 28 ls (.int y :: .int x :: st) P := X_iadd (M := mX11_pinOf) (dX11_pinOf_28) k
theorem dX11_pinOf_29 : decode cX11_pinOf 29 = .ok (.laload, 1) := by decide +kernel
theorem sX11_pinOf_29 {a n : Nat} {f : Nat → Int64} {i : Int32} (hP : P.1 a = some (xJ n f)) (hi : vp_in i n) (k : X w mX11_pinOf d Q 30 ls (.long (f i.toNatClampNeg) :: st) P) : X w mX11_pinOf d Q 29 ls (.int i :: .ref a :: st) P := X_lald (M := mX11_pinOf) (dX11_pinOf_29) hP hi k
theorem dX11_pinOf_30 : decode cX11_pinOf 30 = .ok (.lload_n 1, 1) := by decide +kernel
theorem sX11_pinOf_30 {l0 l2 l3 l4 l5 l6 : Option Value} {x : Int64} (k : X w mX11_pinOf d Q 31 [l0, some (.long x), l2, l3, l4, l5, l6] (.long x :: st) P) : X w mX11_pinOf d Q 30 [l0, some (.long x), l2, l3, l4, l5, l6] st P := X_lload_n (M := mX11_pinOf) (dX11_pinOf_30) rfl rfl k
theorem dX11_pinOf_31 : decode cX11_pinOf 31 = .ok (.lcmp, 1) := by decide +kernel
theorem sX11_pinOf_31 {x y : Int64} (k : X w mX11_pinOf d Q 32 ls (.int (lg_cmp x y) :: st) P) : X w mX11_pinOf d Q 31 ls (.long y :: .long x :: st) P := X_lcmp (M := mX11_pinOf) (dX11_pinOf_31) k
theorem dX11_pinOf_32 : decode cX11_pinOf 32 = .ok (.ifCond .ne 8, 3) := by decide +kernel
theorem sX11_pinOf_32 {x : Int32} (kt : ¬ x = 0 → X w mX11_pinOf d Q 40 ls st P) (kf : x = 0 → X w mX11_pinOf d Q 35 ls st P) : X w mX11_pinOf d Q 32 ls (.int x :: st) P := X_if_ne (M := mX11_pinOf) (dX11_pinOf_32) (by decide) kt kf
theorem dX11_pinOf_35 : decode cX11_pinOf 35 = .ok (.iload 6, 2) := by decide +kernel
theorem sX11_pinOf_35 {l0 l1 l2 l3 l4 l5 : Option Value} {x : Int32} (k : X w mX11_pinOf d Q 37 [l0, l1, l2, l3, l4, l5, some (.int x)] (.int x :: st) P) : X w mX11_pinOf d Q 35 [l0, l1, l2, l3, l4, l5, some (.int x)] st P := X_iload (M := mX11_pinOf) (dX11_pinOf_35) rfl k
theorem dX11_pinOf_37 : decode cX11_pinOf 37 = .ok (.goto 5, 3) := by decide +kernel
theorem sX11_pinOf_37 (k : X w mX11_pinOf d Q 42 ls st P) : X w mX11_pinOf d Q 37 ls st P := X_goto (M := mX11_pinOf) (dX11_pinOf_37) (by decide) k
theorem dX11_pinOf_40 : decode cX11_pinOf 40 = .ok (.iload 5, 2) := by decide +kernel
theorem sX11_pinOf_40 {l0 l1 l2 l3 l4 l6 : Option Value} {x : Int32} (k : X w mX11_pinOf d Q 42 [l0, l1, l2, l3, l4, some (.int x), l6] (.int x :: st) P) : X w mX11_pinOf d Q 40 [l0, l1, l2, l3, l4, some (.int x), l6] st P := X_iload (M := mX11_pinOf) (dX11_pinOf_40) rfl k
theorem dX11_pinOf_42 : decode cX11_pinOf 42 = .ok (.istore 5, 2) := by decide +kernel
theorem sX11_pinOf_42 {l0 l1 l2 l3 l4 l5 l6 : Option Value} {x : Int32} (hn : xnl l4 = true) (k : X w mX11_pinOf d Q 44 [l0, l1, l2, l3, l4, some (.int x), l6] st P) : X w mX11_pinOf d Q 42 [l0, l1, l2, l3, l4, l5, l6] (.int x :: st) P := X_istore (M := mX11_pinOf) (dX11_pinOf_42) (by decide) rfl (xnl_p (ls := [l0, l1, l2, l3, l4, l5, l6]) (j := 4) rfl hn) k
theorem dX11_pinOf_44 : decode cX11_pinOf 44 = .ok (.iinc 6 1, 3) := by decide +kernel
theorem sX11_pinOf_44 {l0 l1 l2 l3 l4 l5 : Option Value} {x : Int32} (hn : xnl l5 = true) (k : X w mX11_pinOf d Q 47 [l0, l1, l2, l3, l4, l5, some (.int (x + (1 : Int32)))] st P) : X w mX11_pinOf d Q 44 [l0, l1, l2, l3, l4, l5, some (.int x)] st P := X_iinc (M := mX11_pinOf) (dX11_pinOf_44) rfl (by rfl) (by decide) rfl (xnl_p (ls := [l0, l1, l2, l3, l4, l5, some (.int x)]) (j := 5) rfl hn) k
theorem dX11_pinOf_47 : decode cX11_pinOf 47 = .ok (.goto (-41), 3) := by decide +kernel
theorem sX11_pinOf_47 (k : X w mX11_pinOf d Q 6 ls st P) : X w mX11_pinOf d Q 47 ls st P := X_goto (M := mX11_pinOf) (dX11_pinOf_47) (by decide) k
theorem dX11_pinOf_50 : decode cX11_pinOf 50 = .ok (.iload 5, 2) := by decide +kernel
theorem sX11_pinOf_50 {l0 l1 l2 l3 l4 l6 : Option Value} {x : Int32} (k : X w mX11_pinOf d Q 52 [l0, l1, l2, l3, l4, some (.int x), l6] (.int x :: st) P) : X w mX11_pinOf d Q 50 [l0, l1, l2, l3, l4, some (.int x), l6] st P := X_iload (M := mX11_pinOf) (dX11_pinOf_50) rfl k
theorem dX11_pinOf_52 : decode cX11_pinOf 52 = .ok (.ireturn, 1) := by decide +kernel
theorem sX11_pinOf_52 {v : Int32} (hq : Q (.returned (some (.int v))) P) : X w mX11_pinOf d Q 52 ls [.int v] P := X_iret (M := mX11_pinOf) (dX11_pinOf_52) rfl hq
theorem dX11_isPin_0 : decode cX11_isPin 0 = .ok (.aload_n 0, 1) := by decide +kernel
theorem sX11_isPin_0 {x : Nat} (k : X w mX11_isPin d Q 1 [some (.ref x)] (.ref x :: st) P) : X w mX11_isPin d Q 0 [some (.ref x)] st P := X_aload_n (M := mX11_isPin) (dX11_isPin_0) rfl rfl k
theorem dX11_isPin_1 : decode cX11_isPin 1 = .ok (.aload_n 0, 1) := by decide +kernel
theorem sX11_isPin_1 {x : Nat} (k : X w mX11_isPin d Q 2 [some (.ref x)] (.ref x :: st) P) : X w mX11_isPin d Q 1 [some (.ref x)] st P := X_aload_n (M := mX11_isPin) (dX11_isPin_1) rfl rfl k
theorem dX11_isPin_2 : decode cX11_isPin 2 = .ok (.getfield 101, 3) := by decide +kernel
theorem sX11_isPin_2 {a : Nat} {fs : List Value} {v : Int64} (hP : P.1 a = some (xO 9 fs)) (hv : fs[26]? = some (.long v)) (k : X w mX11_isPin d Q 5 ls (.long v :: st) P) : X w mX11_isPin d Q 2 ls (.ref a :: st) P := X_get (M := mX11_isPin) (j := 26) (T := TX11) (dX11_isPin_2) rfl (by decide) x_in11 xw_434 hP hv k
theorem dX11_isPin_5 : decode cX11_isPin 5 = .ok (.iconst 0, 1) := by decide +kernel
theorem sX11_isPin_5 (k : X w mX11_isPin d Q 6 ls (.int (0 : Int32) :: st) P) : X w mX11_isPin d Q 5 ls st P := X_iconst (M := mX11_isPin) (dX11_isPin_5) (by decide) k
theorem dX11_isPin_6 : decode cX11_isPin 6 = .ok (.aload_n 0, 1) := by decide +kernel
theorem sX11_isPin_6 {x : Nat} (k : X w mX11_isPin d Q 7 [some (.ref x)] (.ref x :: st) P) : X w mX11_isPin d Q 6 [some (.ref x)] st P := X_aload_n (M := mX11_isPin) (dX11_isPin_6) rfl rfl k
theorem dX11_isPin_7 : decode cX11_isPin 7 = .ok (.getfield 47, 3) := by decide +kernel
theorem sX11_isPin_7 {a : Nat} {fs : List Value} {v : Nat} (hP : P.1 a = some (xO 9 fs)) (hv : fs[15]? = some (.ref v)) (k : X w mX11_isPin d Q 10 ls (.ref v :: st) P) : X w mX11_isPin d Q 7 ls (.ref a :: st) P := X_get (M := mX11_isPin) (j := 15) (T := TX11) (dX11_isPin_7) rfl (by decide) x_in11 xw_416 hP hv k
theorem dX11_isPin_10 : decode cX11_isPin 10 = .ok (.aload_n 0, 1) := by decide +kernel
theorem sX11_isPin_10 {x : Nat} (k : X w mX11_isPin d Q 11 [some (.ref x)] (.ref x :: st) P) : X w mX11_isPin d Q 10 [some (.ref x)] st P := X_aload_n (M := mX11_isPin) (dX11_isPin_10) rfl rfl k
theorem dX11_isPin_11 : decode cX11_isPin 11 = .ok (.getfield 157, 3) := by decide +kernel
theorem sX11_isPin_11 {a : Nat} {fs : List Value} {v : Int32} (hP : P.1 a = some (xO 9 fs)) (hv : fs[30]? = some (.int v)) (k : X w mX11_isPin d Q 14 ls (.int v :: st) P) : X w mX11_isPin d Q 11 ls (.ref a :: st) P := X_get (M := mX11_isPin) (j := 30) (T := TX11) (dX11_isPin_11) rfl (by decide) x_in11 xw_469 hP hv k
theorem dX11_isPin_14 : decode cX11_isPin 14 = .ok (.iaload, 1) := by decide +kernel
theorem sX11_isPin_14 {a n : Nat} {f : Nat → Int32} {i : Int32} (hP : P.1 a = some (xA 0 n f)) (hi : vp_in i n) (k : X w mX11_isPin d Q 15 ls (.int (f i.toNatClampNeg) :: st) P) : X w mX11_isPin d Q 14 ls (.int i :: .ref a :: st) P := X_iald (M := mX11_isPin) (dX11_isPin_14) hP hi k
theorem dX11_isPin_15 : decode cX11_isPin 15 = .ok (.invokevirtual 160, 3) := by decide +kernel
theorem sX11_isPin_15_g {b : Nat} {fs : List Value} {a0 : Int64} {a1 : Int32} {a2 : Int32} {Qc : Outcome → xH → Prop} (hst : (st.map fun v => v.category).sum ≤ 8) (hP : P.1 b = some (xO 9 fs)) (hC : xC w d mX11_pinOf [.ref b, .long a0, .int a1, .int a2] P Qc) (kr : ∀ v P1, Qc (.returned v) P1 → X w mX11_isPin (d + 1) Q 18 ls (v.toList ++ st) P1) (kt : ∀ q P1, Qc (.threw q) P1 → Xt w mX11_isPin (d + 1) Q 15 ls st P1 q) : X w mX11_isPin (d + 1) Q 15 ls (.int a2 :: .int a1 :: .long a0 :: .ref b :: st) P := X_callV (M := mX11_isPin) (MC := mX11_pinOf) (As := [.long a0, .int a1, .int a2]) (T := TX11) (dX11_isPin_15) calX11_pinOf xw_470 xw_471 xw_472 rfl rfl hP hC hst kr kt
theorem sX11_isPin_15 {b : Nat} {fs : List Value} {a0 : Int64} {a1 : Int32} {a2 : Int32} {r : Int32} {P1 : xH} (hst : (st.map fun v => v.category).sum ≤ 8) (hP : P.1 b = some (xO 9 fs)) (hC : xC w d mX11_pinOf [.ref b, .long a0, .int a1, .int a2] P (xRet (some (.int r)) P1)) (k : X w mX11_isPin (d + 1) Q 18 ls (.int r :: st) P1) : X w mX11_isPin (d + 1) Q 15 ls (.int a2 :: .int a1 :: .long a0 :: .ref b :: st) P := X_callV (M := mX11_isPin) (MC := mX11_pinOf) (As := [.long a0, .int a1, .int a2]) (T := TX11) (dX11_isPin_15) calX11_pinOf xw_470 xw_471 xw_472 rfl rfl hP hC hst (fun v P2 h => by obtain ⟨h1, rfl⟩ := h; cases h1; exact k) (fun q P2 h => by cases h.1)
theorem sX11_isPin_15_r {b : Nat} {fs : List Value} {a0 : Int64} {a1 : Int32} {a2 : Int32} {r : Int32} {Rp : xH → Prop} (hst : (st.map fun v => v.category).sum ≤ 8) (hP : P.1 b = some (xO 9 fs)) (hC : xC w d mX11_pinOf [.ref b, .long a0, .int a1, .int a2] P (xRl (some (.int r)) Rp)) (k : ∀ P1, Rp P1 → X w mX11_isPin (d + 1) Q 18 ls (.int r :: st) P1) : X w mX11_isPin (d + 1) Q 15 ls (.int a2 :: .int a1 :: .long a0 :: .ref b :: st) P := X_callV (M := mX11_isPin) (MC := mX11_pinOf) (As := [.long a0, .int a1, .int a2]) (T := TX11) (dX11_isPin_15) calX11_pinOf xw_470 xw_471 xw_472 rfl rfl hP hC hst (fun v P2 h => by obtain ⟨h1, hR⟩ := h; cases h1; exact k P2 hR) (fun q P2 h => by cases h.1)
theorem sX11_isPin_15_t {b : Nat} {fs : List Value} {a0 : Int64} {a1 : Int32} {a2 : Int32} {q : Nat} {P1 : xH} (hst : (st.map fun v => v.category).sum ≤ 8) (hP : P.1 b = some (xO 9 fs)) (hC : xC w d mX11_pinOf [.ref b, .long a0, .int a1, .int a2] P (xThr q P1)) (hq : Q (.threw q) P1) : X w mX11_isPin (d + 1) Q 15 ls (.int a2 :: .int a1 :: .long a0 :: .ref b :: st) P := X_callV (M := mX11_isPin) (MC := mX11_pinOf) (As := [.long a0, .int a1, .int a2]) (T := TX11) (dX11_isPin_15) calX11_pinOf xw_470 xw_471 xw_472 rfl rfl hP hC hst (fun v P2 h => by cases h.1) (fun q2 P2 h => by obtain ⟨h1, rfl⟩ := h; cases h1; exact Xt_out rfl hq)
theorem dX11_isPin_18 : decode cX11_isPin 18 = .ok (.iconst (-1), 1) := by decide +kernel
theorem sX11_isPin_18 (k : X w mX11_isPin d Q 19 ls (.int (-1 : Int32) :: st) P) : X w mX11_isPin d Q 18 ls st P := X_iconst (M := mX11_isPin) (dX11_isPin_18) (by decide) k
theorem dX11_isPin_19 : decode cX11_isPin 19 = .ok (.if_icmp .ne 26, 3) := by decide +kernel
theorem sX11_isPin_19 {x y : Int32} (kt : ¬ x = y → X w mX11_isPin d Q 45 ls st P) (kf : x = y → X w mX11_isPin d Q 22 ls st P) : X w mX11_isPin d Q 19 ls (.int y :: .int x :: st) P := X_icmp_ne (M := mX11_isPin) (dX11_isPin_19) (by decide) kt kf
theorem dX11_isPin_22 : decode cX11_isPin 22 = .ok (.aload_n 0, 1) := by decide +kernel
theorem sX11_isPin_22 {x : Nat} (k : X w mX11_isPin d Q 23 [some (.ref x)] (.ref x :: st) P) : X w mX11_isPin d Q 22 [some (.ref x)] st P := X_aload_n (M := mX11_isPin) (dX11_isPin_22) rfl rfl k
theorem dX11_isPin_23 : decode cX11_isPin 23 = .ok (.aload_n 0, 1) := by decide +kernel
theorem sX11_isPin_23 {x : Nat} (k : X w mX11_isPin d Q 24 [some (.ref x)] (.ref x :: st) P) : X w mX11_isPin d Q 23 [some (.ref x)] st P := X_aload_n (M := mX11_isPin) (dX11_isPin_23) rfl rfl k
theorem dX11_isPin_24 : decode cX11_isPin 24 = .ok (.getfield 101, 3) := by decide +kernel
theorem sX11_isPin_24 {a : Nat} {fs : List Value} {v : Int64} (hP : P.1 a = some (xO 9 fs)) (hv : fs[26]? = some (.long v)) (k : X w mX11_isPin d Q 27 ls (.long v :: st) P) : X w mX11_isPin d Q 24 ls (.ref a :: st) P := X_get (M := mX11_isPin) (j := 26) (T := TX11) (dX11_isPin_24) rfl (by decide) x_in11 xw_434 hP hv k
theorem dX11_isPin_27 : decode cX11_isPin 27 = .ok (.bipush 6, 2) := by decide +kernel
theorem sX11_isPin_27 (k : X w mX11_isPin d Q 29 ls (.int (6 : Int32) :: st) P) : X w mX11_isPin d Q 27 ls st P := X_bipush (M := mX11_isPin) (dX11_isPin_27) (by decide) k
theorem dX11_isPin_29 : decode cX11_isPin 29 = .ok (.aload_n 0, 1) := by decide +kernel
theorem sX11_isPin_29 {x : Nat} (k : X w mX11_isPin d Q 30 [some (.ref x)] (.ref x :: st) P) : X w mX11_isPin d Q 29 [some (.ref x)] st P := X_aload_n (M := mX11_isPin) (dX11_isPin_29) rfl rfl k
theorem dX11_isPin_30 : decode cX11_isPin 30 = .ok (.getfield 50, 3) := by decide +kernel
theorem sX11_isPin_30 {a : Nat} {fs : List Value} {v : Nat} (hP : P.1 a = some (xO 9 fs)) (hv : fs[16]? = some (.ref v)) (k : X w mX11_isPin d Q 33 ls (.ref v :: st) P) : X w mX11_isPin d Q 30 ls (.ref a :: st) P := X_get (M := mX11_isPin) (j := 16) (T := TX11) (dX11_isPin_30) rfl (by decide) x_in11 xw_417 hP hv k
theorem dX11_isPin_33 : decode cX11_isPin 33 = .ok (.aload_n 0, 1) := by decide +kernel
theorem sX11_isPin_33 {x : Nat} (k : X w mX11_isPin d Q 34 [some (.ref x)] (.ref x :: st) P) : X w mX11_isPin d Q 33 [some (.ref x)] st P := X_aload_n (M := mX11_isPin) (dX11_isPin_33) rfl rfl k
theorem dX11_isPin_34 : decode cX11_isPin 34 = .ok (.getfield 157, 3) := by decide +kernel
theorem sX11_isPin_34 {a : Nat} {fs : List Value} {v : Int32} (hP : P.1 a = some (xO 9 fs)) (hv : fs[30]? = some (.int v)) (k : X w mX11_isPin d Q 37 ls (.int v :: st) P) : X w mX11_isPin d Q 34 ls (.ref a :: st) P := X_get (M := mX11_isPin) (j := 30) (T := TX11) (dX11_isPin_34) rfl (by decide) x_in11 xw_469 hP hv k
theorem dX11_isPin_37 : decode cX11_isPin 37 = .ok (.iaload, 1) := by decide +kernel
theorem sX11_isPin_37 {a n : Nat} {f : Nat → Int32} {i : Int32} (hP : P.1 a = some (xA 0 n f)) (hi : vp_in i n) (k : X w mX11_isPin d Q 38 ls (.int (f i.toNatClampNeg) :: st) P) : X w mX11_isPin d Q 37 ls (.int i :: .ref a :: st) P := X_iald (M := mX11_isPin) (dX11_isPin_37) hP hi k
theorem dX11_isPin_38 : decode cX11_isPin 38 = .ok (.invokevirtual 160, 3) := by decide +kernel
theorem sX11_isPin_38_g {b : Nat} {fs : List Value} {a0 : Int64} {a1 : Int32} {a2 : Int32} {Qc : Outcome → xH → Prop} (hst : (st.map fun v => v.category).sum ≤ 8) (hP : P.1 b = some (xO 9 fs)) (hC : xC w d mX11_pinOf [.ref b, .long a0, .int a1, .int a2] P Qc) (kr : ∀ v P1, Qc (.returned v) P1 → X w mX11_isPin (d + 1) Q 41 ls (v.toList ++ st) P1) (kt : ∀ q P1, Qc (.threw q) P1 → Xt w mX11_isPin (d + 1) Q 38 ls st P1 q) : X w mX11_isPin (d + 1) Q 38 ls (.int a2 :: .int a1 :: .long a0 :: .ref b :: st) P := X_callV (M := mX11_isPin) (MC := mX11_pinOf) (As := [.long a0, .int a1, .int a2]) (T := TX11) (dX11_isPin_38) calX11_pinOf xw_470 xw_471 xw_472 rfl rfl hP hC hst kr kt
theorem sX11_isPin_38 {b : Nat} {fs : List Value} {a0 : Int64} {a1 : Int32} {a2 : Int32} {r : Int32} {P1 : xH} (hst : (st.map fun v => v.category).sum ≤ 8) (hP : P.1 b = some (xO 9 fs)) (hC : xC w d mX11_pinOf [.ref b, .long a0, .int a1, .int a2] P (xRet (some (.int r)) P1)) (k : X w mX11_isPin (d + 1) Q 41 ls (.int r :: st) P1) : X w mX11_isPin (d + 1) Q 38 ls (.int a2 :: .int a1 :: .long a0 :: .ref b :: st) P := X_callV (M := mX11_isPin) (MC := mX11_pinOf) (As := [.long a0, .int a1, .int a2]) (T := TX11) (dX11_isPin_38) calX11_pinOf xw_470 xw_471 xw_472 rfl rfl hP hC hst (fun v P2 h => by obtain ⟨h1, rfl⟩ := h; cases h1; exact k) (fun q P2 h => by cases h.1)
theorem sX11_isPin_38_r {b : Nat} {fs : List Value} {a0 : Int64} {a1 : Int32} {a2 : Int32} {r : Int32} {Rp : xH → Prop} (hst : (st.map fun v => v.category).sum ≤ 8) (hP : P.1 b = some (xO 9 fs)) (hC : xC w d mX11_pinOf [.ref b, .long a0, .int a1, .int a2] P (xRl (some (.int r)) Rp)) (k : ∀ P1, Rp P1 → X w mX11_isPin (d + 1) Q 41 ls (.int r :: st) P1) : X w mX11_isPin (d + 1) Q 38 ls (.int a2 :: .int a1 :: .long a0 :: .ref b :: st) P := X_callV (M := mX11_isPin) (MC := mX11_pinOf) (As := [.long a0, .int a1, .int a2]) (T := TX11) (dX11_isPin_38) calX11_pinOf xw_470 xw_471 xw_472 rfl rfl hP hC hst (fun v P2 h => by obtain ⟨h1, hR⟩ := h; cases h1; exact k P2 hR) (fun q P2 h => by cases h.1)
theorem sX11_isPin_38_t {b : Nat} {fs : List Value} {a0 : Int64} {a1 : Int32} {a2 : Int32} {q : Nat} {P1 : xH} (hst : (st.map fun v => v.category).sum ≤ 8) (hP : P.1 b = some (xO 9 fs)) (hC : xC w d mX11_pinOf [.ref b, .long a0, .int a1, .int a2] P (xThr q P1)) (hq : Q (.threw q) P1) : X w mX11_isPin (d + 1) Q 38 ls (.int a2 :: .int a1 :: .long a0 :: .ref b :: st) P := X_callV (M := mX11_isPin) (MC := mX11_pinOf) (As := [.long a0, .int a1, .int a2]) (T := TX11) (dX11_isPin_38) calX11_pinOf xw_470 xw_471 xw_472 rfl rfl hP hC hst (fun v P2 h => by cases h.1) (fun q2 P2 h => by obtain ⟨h1, rfl⟩ := h; cases h1; exact Xt_out rfl hq)
theorem dX11_isPin_41 : decode cX11_isPin 41 = .ok (.iconst (-1), 1) := by decide +kernel
theorem sX11_isPin_41 (k : X w mX11_isPin d Q 42 ls (.int (-1 : Int32) :: st) P) : X w mX11_isPin d Q 41 ls st P := X_iconst (M := mX11_isPin) (dX11_isPin_41) (by decide) k
theorem dX11_isPin_42 : decode cX11_isPin 42 = .ok (.if_icmp .eq 7, 3) := by decide +kernel
theorem sX11_isPin_42 {x y : Int32} (kt : x = y → X w mX11_isPin d Q 49 ls st P) (kf : ¬ x = y → X w mX11_isPin d Q 45 ls st P) : X w mX11_isPin d Q 42 ls (.int y :: .int x :: st) P := X_icmp_eq (M := mX11_isPin) (dX11_isPin_42) (by decide) kt kf
theorem dX11_isPin_45 : decode cX11_isPin 45 = .ok (.iconst 1, 1) := by decide +kernel
theorem sX11_isPin_45 (k : X w mX11_isPin d Q 46 ls (.int (1 : Int32) :: st) P) : X w mX11_isPin d Q 45 ls st P := X_iconst (M := mX11_isPin) (dX11_isPin_45) (by decide) k
theorem dX11_isPin_46 : decode cX11_isPin 46 = .ok (.goto 4, 3) := by decide +kernel
theorem sX11_isPin_46 (k : X w mX11_isPin d Q 50 ls st P) : X w mX11_isPin d Q 46 ls st P := X_goto (M := mX11_isPin) (dX11_isPin_46) (by decide) k
theorem dX11_isPin_49 : decode cX11_isPin 49 = .ok (.iconst 0, 1) := by decide +kernel
theorem sX11_isPin_49 (k : X w mX11_isPin d Q 50 ls (.int (0 : Int32) :: st) P) : X w mX11_isPin d Q 49 ls st P := X_iconst (M := mX11_isPin) (dX11_isPin_49) (by decide) k
theorem dX11_isPin_50 : decode cX11_isPin 50 = .ok (.ireturn, 1) := by decide +kernel
theorem sX11_isPin_50 {v : Int32} (hb : v = 0 ∨ v = 1) (hq : Q (.returned (some (.int v))) P) : X w mX11_isPin d Q 50 ls [.int v] P := X_zret (M := mX11_isPin) (ty := .boolean) (dX11_isPin_50) rfl (xz_n hb) hq
theorem dX11_readCell_0 : decode cX11_readCell 0 = .ok (.aload_n 0, 1) := by decide +kernel
theorem sX11_readCell_0 {l1 l2 : Option Value} {x : Nat} (k : X w mX11_readCell d Q 1 [some (.ref x), l1, l2] (.ref x :: st) P) : X w mX11_readCell d Q 0 [some (.ref x), l1, l2] st P := X_aload_n (M := mX11_readCell) (dX11_readCell_0) rfl rfl k
theorem dX11_readCell_1 : decode cX11_readCell 1 = .ok (.invokevirtual 131, 3) := by decide +kernel
theorem sX11_readCell_1_g {b : Nat} {fs : List Value}  {Qc : Outcome → xH → Prop} (hst : (st.map fun v => v.category).sum ≤ 8) (hP : P.1 b = some (xO 9 fs)) (hC : xC w d mX11_go [.ref b] P Qc) (kr : ∀ v P1, Qc (.returned v) P1 → X w mX11_readCell (d + 1) Q 4 ls (v.toList ++ st) P1) (kt : ∀ q P1, Qc (.threw q) P1 → Xt w mX11_readCell (d + 1) Q 1 ls st P1 q) : X w mX11_readCell (d + 1) Q 1 ls (.ref b :: st) P := X_callV (M := mX11_readCell) (MC := mX11_go) (As := []) (T := TX11) (dX11_readCell_1) calX11_go xw_451 xw_452 xw_453 rfl rfl hP hC hst kr kt
theorem sX11_readCell_1 {b : Nat} {fs : List Value}  {P1 : xH} (hst : (st.map fun v => v.category).sum ≤ 8) (hP : P.1 b = some (xO 9 fs)) (hC : xC w d mX11_go [.ref b] P (xRet none P1)) (k : X w mX11_readCell (d + 1) Q 4 ls st P1) : X w mX11_readCell (d + 1) Q 1 ls (.ref b :: st) P := X_callV (M := mX11_readCell) (MC := mX11_go) (As := []) (T := TX11) (dX11_readCell_1) calX11_go xw_451 xw_452 xw_453 rfl rfl hP hC hst (fun v P2 h => by obtain ⟨h1, rfl⟩ := h; cases h1; exact k) (fun q P2 h => by cases h.1)
theorem sX11_readCell_1_r {b : Nat} {fs : List Value}  {Rp : xH → Prop} (hst : (st.map fun v => v.category).sum ≤ 8) (hP : P.1 b = some (xO 9 fs)) (hC : xC w d mX11_go [.ref b] P (xRl none Rp)) (k : ∀ P1, Rp P1 → X w mX11_readCell (d + 1) Q 4 ls st P1) : X w mX11_readCell (d + 1) Q 1 ls (.ref b :: st) P := X_callV (M := mX11_readCell) (MC := mX11_go) (As := []) (T := TX11) (dX11_readCell_1) calX11_go xw_451 xw_452 xw_453 rfl rfl hP hC hst (fun v P2 h => by obtain ⟨h1, hR⟩ := h; cases h1; exact k P2 hR) (fun q P2 h => by cases h.1)
theorem sX11_readCell_1_t {b : Nat} {fs : List Value}  {q : Nat} {P1 : xH} (hst : (st.map fun v => v.category).sum ≤ 8) (hP : P.1 b = some (xO 9 fs)) (hC : xC w d mX11_go [.ref b] P (xThr q P1)) (hq : Q (.threw q) P1) : X w mX11_readCell (d + 1) Q 1 ls (.ref b :: st) P := X_callV (M := mX11_readCell) (MC := mX11_go) (As := []) (T := TX11) (dX11_readCell_1) calX11_go xw_451 xw_452 xw_453 rfl rfl hP hC hst (fun v P2 h => by cases h.1) (fun q2 P2 h => by obtain ⟨h1, rfl⟩ := h; cases h1; exact Xt_out rfl hq)
theorem dX11_readCell_4 : decode cX11_readCell 4 = .ok (.iconst 1, 1) := by decide +kernel
theorem sX11_readCell_4 (k : X w mX11_readCell d Q 5 ls (.int (1 : Int32) :: st) P) : X w mX11_readCell d Q 4 ls st P := X_iconst (M := mX11_readCell) (dX11_readCell_4) (by decide) k
theorem dX11_readCell_5 : decode cX11_readCell 5 = .ok (.istore_n 1, 1) := by decide +kernel
theorem sX11_readCell_5 {l0 l1 l2 : Option Value} {x : Int32} (hn : xnl l0 = true) (k : X w mX11_readCell d Q 6 [l0, some (.int x), l2] st P) : X w mX11_readCell d Q 5 [l0, l1, l2] (.int x :: st) P := X_istore_n (M := mX11_readCell) (dX11_readCell_5) rfl (by decide) rfl (xnl_p (ls := [l0, l1, l2]) (j := 0) rfl hn) k
theorem dX11_readCell_6 : decode cX11_readCell 6 = .ok (.iconst 0, 1) := by decide +kernel
theorem sX11_readCell_6 (k : X w mX11_readCell d Q 7 ls (.int (0 : Int32) :: st) P) : X w mX11_readCell d Q 6 ls st P := X_iconst (M := mX11_readCell) (dX11_readCell_6) (by decide) k
theorem dX11_readCell_7 : decode cX11_readCell 7 = .ok (.istore_n 2, 1) := by decide +kernel
theorem sX11_readCell_7 {l0 l1 l2 : Option Value} {x : Int32} (hn : xnl l1 = true) (k : X w mX11_readCell d Q 8 [l0, l1, some (.int x)] st P) : X w mX11_readCell d Q 7 [l0, l1, l2] (.int x :: st) P := X_istore_n (M := mX11_readCell) (dX11_readCell_7) rfl (by decide) rfl (xnl_p (ls := [l0, l1, l2]) (j := 1) rfl hn) k
theorem dX11_readCell_8 : decode cX11_readCell 8 = .ok (.iload_n 2, 1) := by decide +kernel
theorem sX11_readCell_8 {l0 l1 : Option Value} {x : Int32} (k : X w mX11_readCell d Q 9 [l0, l1, some (.int x)] (.int x :: st) P) : X w mX11_readCell d Q 8 [l0, l1, some (.int x)] st P := X_iload_n (M := mX11_readCell) (dX11_readCell_8) rfl rfl k
theorem dX11_readCell_9 : decode cX11_readCell 9 = .ok (.aload_n 0, 1) := by decide +kernel
theorem sX11_readCell_9 {l1 l2 : Option Value} {x : Nat} (k : X w mX11_readCell d Q 10 [some (.ref x), l1, l2] (.ref x :: st) P) : X w mX11_readCell d Q 9 [some (.ref x), l1, l2] st P := X_aload_n (M := mX11_readCell) (dX11_readCell_9) rfl rfl k
theorem dX11_readCell_10 : decode cX11_readCell 10 = .ok (.getfield 35, 3) := by decide +kernel
theorem sX11_readCell_10 {a : Nat} {fs : List Value} {v : Nat} (hP : P.1 a = some (xO 9 fs)) (hv : fs[11]? = some (.ref v)) (k : X w mX11_readCell d Q 13 ls (.ref v :: st) P) : X w mX11_readCell d Q 10 ls (.ref a :: st) P := X_get (M := mX11_readCell) (j := 11) (T := TX11) (dX11_readCell_10) rfl (by decide) x_in11 xw_412 hP hv k
theorem dX11_readCell_13 : decode cX11_readCell 13 = .ok (.aload_n 0, 1) := by decide +kernel
theorem sX11_readCell_13 {l1 l2 : Option Value} {x : Nat} (k : X w mX11_readCell d Q 14 [some (.ref x), l1, l2] (.ref x :: st) P) : X w mX11_readCell d Q 13 [some (.ref x), l1, l2] st P := X_aload_n (M := mX11_readCell) (dX11_readCell_13) rfl rfl k
theorem dX11_readCell_14 : decode cX11_readCell 14 = .ok (.getfield 138, 3) := by decide +kernel
theorem sX11_readCell_14 {a : Nat} {fs : List Value} {v : Int32} (hP : P.1 a = some (xO 9 fs)) (hv : fs[29]? = some (.int v)) (k : X w mX11_readCell d Q 17 ls (.int v :: st) P) : X w mX11_readCell d Q 14 ls (.ref a :: st) P := X_get (M := mX11_readCell) (j := 29) (T := TX11) (dX11_readCell_14) rfl (by decide) x_in11 xw_456 hP hv k
theorem dX11_readCell_17 : decode cX11_readCell 17 = .ok (.iaload, 1) := by decide +kernel
theorem sX11_readCell_17 {a n : Nat} {f : Nat → Int32} {i : Int32} (hP : P.1 a = some (xA 0 n f)) (hi : vp_in i n) (k : X w mX11_readCell d Q 18 ls (.int (f i.toNatClampNeg) :: st) P) : X w mX11_readCell d Q 17 ls (.int i :: .ref a :: st) P := X_iald (M := mX11_readCell) (dX11_readCell_17) hP hi k
theorem dX11_readCell_18 : decode cX11_readCell 18 = .ok (.if_icmp .ge 41, 3) := by decide +kernel
theorem sX11_readCell_18 {x y : Int32} (kt : y ≤ x → X w mX11_readCell d Q 59 ls st P) (kf : ¬ y ≤ x → X w mX11_readCell d Q 21 ls st P) : X w mX11_readCell d Q 18 ls (.int y :: .int x :: st) P := X_icmp_ge (M := mX11_readCell) (dX11_readCell_18) (by decide) kt kf
theorem dX11_readCell_21 : decode cX11_readCell 21 = .ok (.iload_n 1, 1) := by decide +kernel
theorem sX11_readCell_21 {l0 l2 : Option Value} {x : Int32} (k : X w mX11_readCell d Q 22 [l0, some (.int x), l2] (.int x :: st) P) : X w mX11_readCell d Q 21 [l0, some (.int x), l2] st P := X_iload_n (M := mX11_readCell) (dX11_readCell_21) rfl rfl k
theorem dX11_readCell_22 : decode cX11_readCell 22 = .ok (.ifCond .eq 29, 3) := by decide +kernel
theorem sX11_readCell_22 {x : Int32} (kt : x = 0 → X w mX11_readCell d Q 51 ls st P) (kf : ¬ x = 0 → X w mX11_readCell d Q 25 ls st P) : X w mX11_readCell d Q 22 ls (.int x :: st) P := X_if_eq (M := mX11_readCell) (dX11_readCell_22) (by decide) kt kf
theorem dX11_readCell_25 : decode cX11_readCell 25 = .ok (.aload_n 0, 1) := by decide +kernel
theorem sX11_readCell_25 {l1 l2 : Option Value} {x : Nat} (k : X w mX11_readCell d Q 26 [some (.ref x), l1, l2] (.ref x :: st) P) : X w mX11_readCell d Q 25 [some (.ref x), l1, l2] st P := X_aload_n (M := mX11_readCell) (dX11_readCell_25) rfl rfl k
theorem dX11_readCell_26 : decode cX11_readCell 26 = .ok (.getfield 38, 3) := by decide +kernel
theorem sX11_readCell_26 {a : Nat} {fs : List Value} {v : Nat} (hP : P.1 a = some (xO 9 fs)) (hv : fs[12]? = some (.ref v)) (k : X w mX11_readCell d Q 29 ls (.ref v :: st) P) : X w mX11_readCell d Q 26 ls (.ref a :: st) P := X_get (M := mX11_readCell) (j := 12) (T := TX11) (dX11_readCell_26) rfl (by decide) x_in11 xw_413 hP hv k
theorem dX11_readCell_29 : decode cX11_readCell 29 = .ok (.bipush 12, 2) := by decide +kernel
theorem sX11_readCell_29 (k : X w mX11_readCell d Q 31 ls (.int (12 : Int32) :: st) P) : X w mX11_readCell d Q 29 ls st P := X_bipush (M := mX11_readCell) (dX11_readCell_29) (by decide) k
theorem dX11_readCell_31 : decode cX11_readCell 31 = .ok (.aload_n 0, 1) := by decide +kernel
theorem sX11_readCell_31 {l1 l2 : Option Value} {x : Nat} (k : X w mX11_readCell d Q 32 [some (.ref x), l1, l2] (.ref x :: st) P) : X w mX11_readCell d Q 31 [some (.ref x), l1, l2] st P := X_aload_n (M := mX11_readCell) (dX11_readCell_31) rfl rfl k
theorem dX11_readCell_32 : decode cX11_readCell 32 = .ok (.getfield 138, 3) := by decide +kernel
theorem sX11_readCell_32 {a : Nat} {fs : List Value} {v : Int32} (hP : P.1 a = some (xO 9 fs)) (hv : fs[29]? = some (.int v)) (k : X w mX11_readCell d Q 35 ls (.int v :: st) P) : X w mX11_readCell d Q 32 ls (.ref a :: st) P := X_get (M := mX11_readCell) (j := 29) (T := TX11) (dX11_readCell_32) rfl (by decide) x_in11 xw_456 hP hv k
theorem dX11_readCell_35 : decode cX11_readCell 35 = .ok (.imul, 1) := by decide +kernel
theorem sX11_readCell_35 {x y : Int32} (k : X w mX11_readCell d Q 36 ls (.int (x * y) :: st) P) : X w mX11_readCell d Q 35 ls (.int y :: .int x :: st) P := X_imul (M := mX11_readCell) (dX11_readCell_35) k
theorem dX11_readCell_36 : decode cX11_readCell 36 = .ok (.iload_n 2, 1) := by decide +kernel
theorem sX11_readCell_36 {l0 l1 : Option Value} {x : Int32} (k : X w mX11_readCell d Q 37 [l0, l1, some (.int x)] (.int x :: st) P) : X w mX11_readCell d Q 36 [l0, l1, some (.int x)] st P := X_iload_n (M := mX11_readCell) (dX11_readCell_36) rfl rfl k
theorem dX11_readCell_37 : decode cX11_readCell 37 = .ok (.iadd, 1) := by decide +kernel
theorem sX11_readCell_37 {x y : Int32} (k : X w mX11_readCell d Q 38 ls (.int (x + y) :: st) P) : X w mX11_readCell d Q 37 ls (.int y :: .int x :: st) P := X_iadd (M := mX11_readCell) (dX11_readCell_37) k
theorem dX11_readCell_38 : decode cX11_readCell 38 = .ok (.laload, 1) := by decide +kernel
theorem sX11_readCell_38 {a n : Nat} {f : Nat → Int64} {i : Int32} (hP : P.1 a = some (xJ n f)) (hi : vp_in i n) (k : X w mX11_readCell d Q 39 ls (.long (f i.toNatClampNeg) :: st) P) : X w mX11_readCell d Q 38 ls (.int i :: .ref a :: st) P := X_lald (M := mX11_readCell) (dX11_readCell_38) hP hi k
theorem dX11_readCell_39 : decode cX11_readCell 39 = .ok (.aload_n 0, 1) := by decide +kernel
theorem sX11_readCell_39 {l1 l2 : Option Value} {x : Nat} (k : X w mX11_readCell d Q 40 [some (.ref x), l1, l2] (.ref x :: st) P) : X w mX11_readCell d Q 39 [some (.ref x), l1, l2] st P := X_aload_n (M := mX11_readCell) (dX11_readCell_39) rfl rfl k
theorem dX11_readCell_40 : decode cX11_readCell 40 = .ok (.getfield 101, 3) := by decide +kernel
theorem sX11_readCell_40 {a : Nat} {fs : List Value} {v : Int64} (hP : P.1 a = some (xO 9 fs)) (hv : fs[26]? = some (.long v)) (k : X w mX11_readCell d Q 43 ls (.long v :: st) P) : X w mX11_readCell d Q 40 ls (.ref a :: st) P := X_get (M := mX11_readCell) (j := 26) (T := TX11) (dX11_readCell_40) rfl (by decide) x_in11 xw_434 hP hv k
theorem dX11_readCell_43 : decode cX11_readCell 43 = .ok (.lcmp, 1) := by decide +kernel
theorem sX11_readCell_43 {x y : Int64} (k : X w mX11_readCell d Q 44 ls (.int (lg_cmp x y) :: st) P) : X w mX11_readCell d Q 43 ls (.long y :: .long x :: st) P := X_lcmp (M := mX11_readCell) (dX11_readCell_43) k
theorem dX11_readCell_44 : decode cX11_readCell 44 = .ok (.ifCond .eq 7, 3) := by decide +kernel
theorem sX11_readCell_44 {x : Int32} (kt : x = 0 → X w mX11_readCell d Q 51 ls st P) (kf : ¬ x = 0 → X w mX11_readCell d Q 47 ls st P) : X w mX11_readCell d Q 44 ls (.int x :: st) P := X_if_eq (M := mX11_readCell) (dX11_readCell_44) (by decide) kt kf
theorem dX11_readCell_47 : decode cX11_readCell 47 = .ok (.iconst 1, 1) := by decide +kernel
theorem sX11_readCell_47 (k : X w mX11_readCell d Q 48 ls (.int (1 : Int32) :: st) P) : X w mX11_readCell d Q 47 ls st P := X_iconst (M := mX11_readCell) (dX11_readCell_47) (by decide) k
theorem dX11_readCell_48 : decode cX11_readCell 48 = .ok (.goto 4, 3) := by decide +kernel
theorem sX11_readCell_48 (k : X w mX11_readCell d Q 52 ls st P) : X w mX11_readCell d Q 48 ls st P := X_goto (M := mX11_readCell) (dX11_readCell_48) (by decide) k
theorem dX11_readCell_51 : decode cX11_readCell 51 = .ok (.iconst 0, 1) := by decide +kernel
theorem sX11_readCell_51 (k : X w mX11_readCell d Q 52 ls (.int (0 : Int32) :: st) P) : X w mX11_readCell d Q 51 ls st P := X_iconst (M := mX11_readCell) (dX11_readCell_51) (by decide) k
theorem dX11_readCell_52 : decode cX11_readCell 52 = .ok (.istore_n 1, 1) := by decide +kernel
theorem sX11_readCell_52 {l0 l1 l2 : Option Value} {x : Int32} (hn : xnl l0 = true) (k : X w mX11_readCell d Q 53 [l0, some (.int x), l2] st P) : X w mX11_readCell d Q 52 [l0, l1, l2] (.int x :: st) P := X_istore_n (M := mX11_readCell) (dX11_readCell_52) rfl (by decide) rfl (xnl_p (ls := [l0, l1, l2]) (j := 0) rfl hn) k
theorem dX11_readCell_53 : decode cX11_readCell 53 = .ok (.iinc 2 1, 3) := by decide +kernel
theorem sX11_readCell_53 {l0 l1 : Option Value} {x : Int32} (hn : xnl l1 = true) (k : X w mX11_readCell d Q 56 [l0, l1, some (.int (x + (1 : Int32)))] st P) : X w mX11_readCell d Q 53 [l0, l1, some (.int x)] st P := X_iinc (M := mX11_readCell) (dX11_readCell_53) rfl (by rfl) (by decide) rfl (xnl_p (ls := [l0, l1, some (.int x)]) (j := 1) rfl hn) k
theorem dX11_readCell_56 : decode cX11_readCell 56 = .ok (.goto (-48), 3) := by decide +kernel
theorem sX11_readCell_56 (k : X w mX11_readCell d Q 8 ls st P) : X w mX11_readCell d Q 56 ls st P := X_goto (M := mX11_readCell) (dX11_readCell_56) (by decide) k
theorem dX11_readCell_59 : decode cX11_readCell 59 = .ok (.aload_n 0, 1) := by decide +kernel
theorem sX11_readCell_59 {l1 l2 : Option Value} {x : Nat} (k : X w mX11_readCell d Q 60 [some (.ref x), l1, l2] (.ref x :: st) P) : X w mX11_readCell d Q 59 [some (.ref x), l1, l2] st P := X_aload_n (M := mX11_readCell) (dX11_readCell_59) rfl rfl k
theorem dX11_readCell_60 : decode cX11_readCell 60 = .ok (.aload_n 0, 1) := by decide +kernel
theorem sX11_readCell_60 {l1 l2 : Option Value} {x : Nat} (k : X w mX11_readCell d Q 61 [some (.ref x), l1, l2] (.ref x :: st) P) : X w mX11_readCell d Q 60 [some (.ref x), l1, l2] st P := X_aload_n (M := mX11_readCell) (dX11_readCell_60) rfl rfl k
theorem dX11_readCell_61 : decode cX11_readCell 61 = .ok (.getfield 108, 3) := by decide +kernel
theorem sX11_readCell_61 {a : Nat} {fs : List Value} {v : Int32} (hP : P.1 a = some (xO 9 fs)) (hv : fs[25]? = some (.int v)) (k : X w mX11_readCell d Q 64 ls (.int v :: st) P) : X w mX11_readCell d Q 61 ls (.ref a :: st) P := X_get (M := mX11_readCell) (j := 25) (T := TX11) (dX11_readCell_61) rfl (by decide) x_in11 xw_436 hP hv k
theorem dX11_readCell_64 : decode cX11_readCell 64 = .ok (.iconst 1, 1) := by decide +kernel
theorem sX11_readCell_64 (k : X w mX11_readCell d Q 65 ls (.int (1 : Int32) :: st) P) : X w mX11_readCell d Q 64 ls st P := X_iconst (M := mX11_readCell) (dX11_readCell_64) (by decide) k
theorem dX11_readCell_65 : decode cX11_readCell 65 = .ok (.if_icmp .ne 25, 3) := by decide +kernel
theorem sX11_readCell_65 {x y : Int32} (kt : ¬ x = y → X w mX11_readCell d Q 90 ls st P) (kf : x = y → X w mX11_readCell d Q 68 ls st P) : X w mX11_readCell d Q 65 ls (.int y :: .int x :: st) P := X_icmp_ne (M := mX11_readCell) (dX11_readCell_65) (by decide) kt kf
theorem dX11_readCell_68 : decode cX11_readCell 68 = .ok (.iload_n 1, 1) := by decide +kernel
theorem sX11_readCell_68 {l0 l2 : Option Value} {x : Int32} (k : X w mX11_readCell d Q 69 [l0, some (.int x), l2] (.int x :: st) P) : X w mX11_readCell d Q 68 [l0, some (.int x), l2] st P := X_iload_n (M := mX11_readCell) (dX11_readCell_68) rfl rfl k
theorem dX11_readCell_69 : decode cX11_readCell 69 = .ok (.ifCond .eq 21, 3) := by decide +kernel
theorem sX11_readCell_69 {x : Int32} (kt : x = 0 → X w mX11_readCell d Q 90 ls st P) (kf : ¬ x = 0 → X w mX11_readCell d Q 72 ls st P) : X w mX11_readCell d Q 69 ls (.int x :: st) P := X_if_eq (M := mX11_readCell) (dX11_readCell_69) (by decide) kt kf
theorem dX11_readCell_72 : decode cX11_readCell 72 = .ok (.aload_n 0, 1) := by decide +kernel
theorem sX11_readCell_72 {l1 l2 : Option Value} {x : Nat} (k : X w mX11_readCell d Q 73 [some (.ref x), l1, l2] (.ref x :: st) P) : X w mX11_readCell d Q 72 [some (.ref x), l1, l2] st P := X_aload_n (M := mX11_readCell) (dX11_readCell_72) rfl rfl k
theorem dX11_readCell_73 : decode cX11_readCell 73 = .ok (.getfield 35, 3) := by decide +kernel
theorem sX11_readCell_73 {a : Nat} {fs : List Value} {v : Nat} (hP : P.1 a = some (xO 9 fs)) (hv : fs[11]? = some (.ref v)) (k : X w mX11_readCell d Q 76 ls (.ref v :: st) P) : X w mX11_readCell d Q 73 ls (.ref a :: st) P := X_get (M := mX11_readCell) (j := 11) (T := TX11) (dX11_readCell_73) rfl (by decide) x_in11 xw_412 hP hv k
theorem dX11_readCell_76 : decode cX11_readCell 76 = .ok (.aload_n 0, 1) := by decide +kernel
theorem sX11_readCell_76 {l1 l2 : Option Value} {x : Nat} (k : X w mX11_readCell d Q 77 [some (.ref x), l1, l2] (.ref x :: st) P) : X w mX11_readCell d Q 76 [some (.ref x), l1, l2] st P := X_aload_n (M := mX11_readCell) (dX11_readCell_76) rfl rfl k
theorem dX11_readCell_77 : decode cX11_readCell 77 = .ok (.getfield 138, 3) := by decide +kernel
theorem sX11_readCell_77 {a : Nat} {fs : List Value} {v : Int32} (hP : P.1 a = some (xO 9 fs)) (hv : fs[29]? = some (.int v)) (k : X w mX11_readCell d Q 80 ls (.int v :: st) P) : X w mX11_readCell d Q 77 ls (.ref a :: st) P := X_get (M := mX11_readCell) (j := 29) (T := TX11) (dX11_readCell_77) rfl (by decide) x_in11 xw_456 hP hv k
theorem dX11_readCell_80 : decode cX11_readCell 80 = .ok (.iaload, 1) := by decide +kernel
theorem sX11_readCell_80 {a n : Nat} {f : Nat → Int32} {i : Int32} (hP : P.1 a = some (xA 0 n f)) (hi : vp_in i n) (k : X w mX11_readCell d Q 81 ls (.int (f i.toNatClampNeg) :: st) P) : X w mX11_readCell d Q 80 ls (.int i :: .ref a :: st) P := X_iald (M := mX11_readCell) (dX11_readCell_80) hP hi k
theorem dX11_readCell_81 : decode cX11_readCell 81 = .ok (.bipush 12, 2) := by decide +kernel
theorem sX11_readCell_81 (k : X w mX11_readCell d Q 83 ls (.int (12 : Int32) :: st) P) : X w mX11_readCell d Q 81 ls st P := X_bipush (M := mX11_readCell) (dX11_readCell_81) (by decide) k
theorem dX11_readCell_83 : decode cX11_readCell 83 = .ok (.if_icmp .ge 7, 3) := by decide +kernel
theorem sX11_readCell_83 {x y : Int32} (kt : y ≤ x → X w mX11_readCell d Q 90 ls st P) (kf : ¬ y ≤ x → X w mX11_readCell d Q 86 ls st P) : X w mX11_readCell d Q 83 ls (.int y :: .int x :: st) P := X_icmp_ge (M := mX11_readCell) (dX11_readCell_83) (by decide) kt kf
theorem dX11_readCell_86 : decode cX11_readCell 86 = .ok (.iconst 1, 1) := by decide +kernel
theorem sX11_readCell_86 (k : X w mX11_readCell d Q 87 ls (.int (1 : Int32) :: st) P) : X w mX11_readCell d Q 86 ls st P := X_iconst (M := mX11_readCell) (dX11_readCell_86) (by decide) k
theorem dX11_readCell_87 : decode cX11_readCell 87 = .ok (.goto 4, 3) := by decide +kernel
theorem sX11_readCell_87 (k : X w mX11_readCell d Q 91 ls st P) : X w mX11_readCell d Q 87 ls st P := X_goto (M := mX11_readCell) (dX11_readCell_87) (by decide) k
theorem dX11_readCell_90 : decode cX11_readCell 90 = .ok (.iconst 0, 1) := by decide +kernel
theorem sX11_readCell_90 (k : X w mX11_readCell d Q 91 ls (.int (0 : Int32) :: st) P) : X w mX11_readCell d Q 90 ls st P := X_iconst (M := mX11_readCell) (dX11_readCell_90) (by decide) k
theorem dX11_readCell_91 : decode cX11_readCell 91 = .ok (.invokevirtual 127, 3) := by decide +kernel
theorem sX11_readCell_91_g {b : Nat} {fs : List Value} {a0 : Int32} {Qc : Outcome → xH → Prop} (hst : (st.map fun v => v.category).sum ≤ 8) (hP : P.1 b = some (xO 9 fs)) (hC : xC w d mX11_need [.ref b, .int a0] P Qc) (kr : ∀ v P1, Qc (.returned v) P1 → X w mX11_readCell (d + 1) Q 94 ls (v.toList ++ st) P1) (kt : ∀ q P1, Qc (.threw q) P1 → Xt w mX11_readCell (d + 1) Q 91 ls st P1 q) : X w mX11_readCell (d + 1) Q 91 ls (.int a0 :: .ref b :: st) P := X_callV (M := mX11_readCell) (MC := mX11_need) (As := [.int a0]) (T := TX11) (dX11_readCell_91) calX11_need xw_448 xw_449 xw_450 rfl rfl hP hC hst kr kt
theorem sX11_readCell_91 {b : Nat} {fs : List Value} {a0 : Int32} {P1 : xH} (hst : (st.map fun v => v.category).sum ≤ 8) (hP : P.1 b = some (xO 9 fs)) (hC : xC w d mX11_need [.ref b, .int a0] P (xRet none P1)) (k : X w mX11_readCell (d + 1) Q 94 ls st P1) : X w mX11_readCell (d + 1) Q 91 ls (.int a0 :: .ref b :: st) P := X_callV (M := mX11_readCell) (MC := mX11_need) (As := [.int a0]) (T := TX11) (dX11_readCell_91) calX11_need xw_448 xw_449 xw_450 rfl rfl hP hC hst (fun v P2 h => by obtain ⟨h1, rfl⟩ := h; cases h1; exact k) (fun q P2 h => by cases h.1)
theorem sX11_readCell_91_r {b : Nat} {fs : List Value} {a0 : Int32} {Rp : xH → Prop} (hst : (st.map fun v => v.category).sum ≤ 8) (hP : P.1 b = some (xO 9 fs)) (hC : xC w d mX11_need [.ref b, .int a0] P (xRl none Rp)) (k : ∀ P1, Rp P1 → X w mX11_readCell (d + 1) Q 94 ls st P1) : X w mX11_readCell (d + 1) Q 91 ls (.int a0 :: .ref b :: st) P := X_callV (M := mX11_readCell) (MC := mX11_need) (As := [.int a0]) (T := TX11) (dX11_readCell_91) calX11_need xw_448 xw_449 xw_450 rfl rfl hP hC hst (fun v P2 h => by obtain ⟨h1, hR⟩ := h; cases h1; exact k P2 hR) (fun q P2 h => by cases h.1)
theorem sX11_readCell_91_t {b : Nat} {fs : List Value} {a0 : Int32} {q : Nat} {P1 : xH} (hst : (st.map fun v => v.category).sum ≤ 8) (hP : P.1 b = some (xO 9 fs)) (hC : xC w d mX11_need [.ref b, .int a0] P (xThr q P1)) (hq : Q (.threw q) P1) : X w mX11_readCell (d + 1) Q 91 ls (.int a0 :: .ref b :: st) P := X_callV (M := mX11_readCell) (MC := mX11_need) (As := [.int a0]) (T := TX11) (dX11_readCell_91) calX11_need xw_448 xw_449 xw_450 rfl rfl hP hC hst (fun v P2 h => by cases h.1) (fun q2 P2 h => by obtain ⟨h1, rfl⟩ := h; cases h1; exact Xt_out rfl hq)
theorem dX11_readCell_94 : decode cX11_readCell 94 = .ok (.aload_n 0, 1) := by decide +kernel
theorem sX11_readCell_94 {l1 l2 : Option Value} {x : Nat} (k : X w mX11_readCell d Q 95 [some (.ref x), l1, l2] (.ref x :: st) P) : X w mX11_readCell d Q 94 [some (.ref x), l1, l2] st P := X_aload_n (M := mX11_readCell) (dX11_readCell_94) rfl rfl k
theorem dX11_readCell_95 : decode cX11_readCell 95 = .ok (.bipush 12, 2) := by decide +kernel
theorem sX11_readCell_95 (k : X w mX11_readCell d Q 97 ls (.int (12 : Int32) :: st) P) : X w mX11_readCell d Q 95 ls st P := X_bipush (M := mX11_readCell) (dX11_readCell_95) (by decide) k
theorem dX11_readCell_97 : decode cX11_readCell 97 = .ok (.aload_n 0, 1) := by decide +kernel
theorem sX11_readCell_97 {l1 l2 : Option Value} {x : Nat} (k : X w mX11_readCell d Q 98 [some (.ref x), l1, l2] (.ref x :: st) P) : X w mX11_readCell d Q 97 [some (.ref x), l1, l2] st P := X_aload_n (M := mX11_readCell) (dX11_readCell_97) rfl rfl k
theorem dX11_readCell_98 : decode cX11_readCell 98 = .ok (.getfield 138, 3) := by decide +kernel
theorem sX11_readCell_98 {a : Nat} {fs : List Value} {v : Int32} (hP : P.1 a = some (xO 9 fs)) (hv : fs[29]? = some (.int v)) (k : X w mX11_readCell d Q 101 ls (.int v :: st) P) : X w mX11_readCell d Q 98 ls (.ref a :: st) P := X_get (M := mX11_readCell) (j := 29) (T := TX11) (dX11_readCell_98) rfl (by decide) x_in11 xw_456 hP hv k
theorem dX11_readCell_101 : decode cX11_readCell 101 = .ok (.imul, 1) := by decide +kernel
theorem sX11_readCell_101 {x y : Int32} (k : X w mX11_readCell d Q 102 ls (.int (x * y) :: st) P) : X w mX11_readCell d Q 101 ls (.int y :: .int x :: st) P := X_imul (M := mX11_readCell) (dX11_readCell_101) k
theorem dX11_readCell_102 : decode cX11_readCell 102 = .ok (.aload_n 0, 1) := by decide +kernel
theorem sX11_readCell_102 {l1 l2 : Option Value} {x : Nat} (k : X w mX11_readCell d Q 103 [some (.ref x), l1, l2] (.ref x :: st) P) : X w mX11_readCell d Q 102 [some (.ref x), l1, l2] st P := X_aload_n (M := mX11_readCell) (dX11_readCell_102) rfl rfl k
theorem dX11_readCell_103 : decode cX11_readCell 103 = .ok (.getfield 35, 3) := by decide +kernel
theorem sX11_readCell_103 {a : Nat} {fs : List Value} {v : Nat} (hP : P.1 a = some (xO 9 fs)) (hv : fs[11]? = some (.ref v)) (k : X w mX11_readCell d Q 106 ls (.ref v :: st) P) : X w mX11_readCell d Q 103 ls (.ref a :: st) P := X_get (M := mX11_readCell) (j := 11) (T := TX11) (dX11_readCell_103) rfl (by decide) x_in11 xw_412 hP hv k
theorem dX11_readCell_106 : decode cX11_readCell 106 = .ok (.aload_n 0, 1) := by decide +kernel
theorem sX11_readCell_106 {l1 l2 : Option Value} {x : Nat} (k : X w mX11_readCell d Q 107 [some (.ref x), l1, l2] (.ref x :: st) P) : X w mX11_readCell d Q 106 [some (.ref x), l1, l2] st P := X_aload_n (M := mX11_readCell) (dX11_readCell_106) rfl rfl k
theorem dX11_readCell_107 : decode cX11_readCell 107 = .ok (.getfield 138, 3) := by decide +kernel
theorem sX11_readCell_107 {a : Nat} {fs : List Value} {v : Int32} (hP : P.1 a = some (xO 9 fs)) (hv : fs[29]? = some (.int v)) (k : X w mX11_readCell d Q 110 ls (.int v :: st) P) : X w mX11_readCell d Q 107 ls (.ref a :: st) P := X_get (M := mX11_readCell) (j := 29) (T := TX11) (dX11_readCell_107) rfl (by decide) x_in11 xw_456 hP hv k
theorem dX11_readCell_110 : decode cX11_readCell 110 = .ok (.iaload, 1) := by decide +kernel
theorem sX11_readCell_110 {a n : Nat} {f : Nat → Int32} {i : Int32} (hP : P.1 a = some (xA 0 n f)) (hi : vp_in i n) (k : X w mX11_readCell d Q 111 ls (.int (f i.toNatClampNeg) :: st) P) : X w mX11_readCell d Q 110 ls (.int i :: .ref a :: st) P := X_iald (M := mX11_readCell) (dX11_readCell_110) hP hi k
theorem dX11_readCell_111 : decode cX11_readCell 111 = .ok (.bipush 12, 2) := by decide +kernel
theorem sX11_readCell_111 (k : X w mX11_readCell d Q 113 ls (.int (12 : Int32) :: st) P) : X w mX11_readCell d Q 111 ls st P := X_bipush (M := mX11_readCell) (dX11_readCell_111) (by decide) k
theorem dX11_readCell_113 : decode cX11_readCell 113 = .ok (.irem, 1) := by decide +kernel
theorem sX11_readCell_113 {x y : Int32} (hne : ¬ y = 0) (k : X w mX11_readCell d Q 114 ls (.int (x - x / y * y) :: st) P) : X w mX11_readCell d Q 113 ls (.int y :: .int x :: st) P := X_irem (M := mX11_readCell) (dX11_readCell_113) hne k
theorem dX11_readCell_114 : decode cX11_readCell 114 = .ok (.iadd, 1) := by decide +kernel
theorem sX11_readCell_114 {x y : Int32} (k : X w mX11_readCell d Q 115 ls (.int (x + y) :: st) P) : X w mX11_readCell d Q 114 ls (.int y :: .int x :: st) P := X_iadd (M := mX11_readCell) (dX11_readCell_114) k
theorem dX11_readCell_115 : decode cX11_readCell 115 = .ok (.putfield 157, 3) := by decide +kernel
theorem sX11_readCell_115 {a : Nat} {fs : List Value} {v : Int32} (hP : P.1 a = some (xO 9 fs)) (hl : 30 < fs.length) (k : X w mX11_readCell d Q 118 ls st (xs P a (xO 9 (fs.set 30 (.int v))))) : X w mX11_readCell d Q 115 ls (.int v :: .ref a :: st) P := X_put (M := mX11_readCell) (j := 30) (T := TX11) (dX11_readCell_115) rfl (by decide) x_c11 xw_469 rfl hP rfl rfl hl k
theorem dX11_readCell_118 : decode cX11_readCell 118 = .ok (.aload_n 0, 1) := by decide +kernel
theorem sX11_readCell_118 {l1 l2 : Option Value} {x : Nat} (k : X w mX11_readCell d Q 119 [some (.ref x), l1, l2] (.ref x :: st) P) : X w mX11_readCell d Q 118 [some (.ref x), l1, l2] st P := X_aload_n (M := mX11_readCell) (dX11_readCell_118) rfl rfl k
theorem dX11_readCell_119 : decode cX11_readCell 119 = .ok (.getfield 38, 3) := by decide +kernel
theorem sX11_readCell_119 {a : Nat} {fs : List Value} {v : Nat} (hP : P.1 a = some (xO 9 fs)) (hv : fs[12]? = some (.ref v)) (k : X w mX11_readCell d Q 122 ls (.ref v :: st) P) : X w mX11_readCell d Q 119 ls (.ref a :: st) P := X_get (M := mX11_readCell) (j := 12) (T := TX11) (dX11_readCell_119) rfl (by decide) x_in11 xw_413 hP hv k
theorem dX11_readCell_122 : decode cX11_readCell 122 = .ok (.aload_n 0, 1) := by decide +kernel
theorem sX11_readCell_122 {l1 l2 : Option Value} {x : Nat} (k : X w mX11_readCell d Q 123 [some (.ref x), l1, l2] (.ref x :: st) P) : X w mX11_readCell d Q 122 [some (.ref x), l1, l2] st P := X_aload_n (M := mX11_readCell) (dX11_readCell_122) rfl rfl k
theorem dX11_readCell_123 : decode cX11_readCell 123 = .ok (.getfield 157, 3) := by decide +kernel
theorem sX11_readCell_123 {a : Nat} {fs : List Value} {v : Int32} (hP : P.1 a = some (xO 9 fs)) (hv : fs[30]? = some (.int v)) (k : X w mX11_readCell d Q 126 ls (.int v :: st) P) : X w mX11_readCell d Q 123 ls (.ref a :: st) P := X_get (M := mX11_readCell) (j := 30) (T := TX11) (dX11_readCell_123) rfl (by decide) x_in11 xw_469 hP hv k
theorem dX11_readCell_126 : decode cX11_readCell 126 = .ok (.aload_n 0, 1) := by decide +kernel
theorem sX11_readCell_126 {l1 l2 : Option Value} {x : Nat} (k : X w mX11_readCell d Q 127 [some (.ref x), l1, l2] (.ref x :: st) P) : X w mX11_readCell d Q 126 [some (.ref x), l1, l2] st P := X_aload_n (M := mX11_readCell) (dX11_readCell_126) rfl rfl k
theorem dX11_readCell_127 : decode cX11_readCell 127 = .ok (.getfield 101, 3) := by decide +kernel
theorem sX11_readCell_127 {a : Nat} {fs : List Value} {v : Int64} (hP : P.1 a = some (xO 9 fs)) (hv : fs[26]? = some (.long v)) (k : X w mX11_readCell d Q 130 ls (.long v :: st) P) : X w mX11_readCell d Q 127 ls (.ref a :: st) P := X_get (M := mX11_readCell) (j := 26) (T := TX11) (dX11_readCell_127) rfl (by decide) x_in11 xw_434 hP hv k
theorem dX11_readCell_130 : decode cX11_readCell 130 = .ok (.lastore, 1) := by decide +kernel
theorem sX11_readCell_130 {a n : Nat} {f : Nat → Int64} {i : Int32} {x : Int64} (hP : P.1 a = some (xJ n f)) (hi : vp_in i n) (k : X w mX11_readCell d Q 131 ls st (xs P a (xJ n (vp_updL f i.toNatClampNeg x)))) : X w mX11_readCell d Q 130 ls (.long x :: .int i :: .ref a :: st) P := X_last (M := mX11_readCell) (dX11_readCell_130) hP hi k
theorem dX11_readCell_131 : decode cX11_readCell 131 = .ok (.aload_n 0, 1) := by decide +kernel
theorem sX11_readCell_131 {l1 l2 : Option Value} {x : Nat} (k : X w mX11_readCell d Q 132 [some (.ref x), l1, l2] (.ref x :: st) P) : X w mX11_readCell d Q 131 [some (.ref x), l1, l2] st P := X_aload_n (M := mX11_readCell) (dX11_readCell_131) rfl rfl k
theorem dX11_readCell_132 : decode cX11_readCell 132 = .ok (.getfield 41, 3) := by decide +kernel
theorem sX11_readCell_132 {a : Nat} {fs : List Value} {v : Nat} (hP : P.1 a = some (xO 9 fs)) (hv : fs[13]? = some (.ref v)) (k : X w mX11_readCell d Q 135 ls (.ref v :: st) P) : X w mX11_readCell d Q 132 ls (.ref a :: st) P := X_get (M := mX11_readCell) (j := 13) (T := TX11) (dX11_readCell_132) rfl (by decide) x_in11 xw_414 hP hv k
theorem dX11_readCell_135 : decode cX11_readCell 135 = .ok (.aload_n 0, 1) := by decide +kernel
theorem sX11_readCell_135 {l1 l2 : Option Value} {x : Nat} (k : X w mX11_readCell d Q 136 [some (.ref x), l1, l2] (.ref x :: st) P) : X w mX11_readCell d Q 135 [some (.ref x), l1, l2] st P := X_aload_n (M := mX11_readCell) (dX11_readCell_135) rfl rfl k
theorem dX11_readCell_136 : decode cX11_readCell 136 = .ok (.getfield 157, 3) := by decide +kernel
theorem sX11_readCell_136 {a : Nat} {fs : List Value} {v : Int32} (hP : P.1 a = some (xO 9 fs)) (hv : fs[30]? = some (.int v)) (k : X w mX11_readCell d Q 139 ls (.int v :: st) P) : X w mX11_readCell d Q 136 ls (.ref a :: st) P := X_get (M := mX11_readCell) (j := 30) (T := TX11) (dX11_readCell_136) rfl (by decide) x_in11 xw_469 hP hv k
theorem dX11_readCell_139 : decode cX11_readCell 139 = .ok (.aload_n 0, 1) := by decide +kernel
theorem sX11_readCell_139 {l1 l2 : Option Value} {x : Nat} (k : X w mX11_readCell d Q 140 [some (.ref x), l1, l2] (.ref x :: st) P) : X w mX11_readCell d Q 139 [some (.ref x), l1, l2] st P := X_aload_n (M := mX11_readCell) (dX11_readCell_139) rfl rfl k
theorem dX11_readCell_140 : decode cX11_readCell 140 = .ok (.getfield 95, 3) := by decide +kernel
theorem sX11_readCell_140 {a : Nat} {fs : List Value} {v : Int32} (hP : P.1 a = some (xO 9 fs)) (hv : fs[23]? = some (.int v)) (k : X w mX11_readCell d Q 143 ls (.int v :: st) P) : X w mX11_readCell d Q 140 ls (.ref a :: st) P := X_get (M := mX11_readCell) (j := 23) (T := TX11) (dX11_readCell_140) rfl (by decide) x_in11 xw_432 hP hv k
theorem dX11_readCell_143 : decode cX11_readCell 143 = .ok (.iastore, 1) := by decide +kernel
theorem sX11_readCell_143 {a n : Nat} {f : Nat → Int32} {i x : Int32} (hP : P.1 a = some (xA 0 n f)) (hi : vp_in i n) (k : X w mX11_readCell d Q 144 ls st (xs P a (xA 0 n (upd f i.toNatClampNeg x)))) : X w mX11_readCell d Q 143 ls (.int x :: .int i :: .ref a :: st) P := X_iast (M := mX11_readCell) (dX11_readCell_143) hP hi k
theorem dX11_readCell_144 : decode cX11_readCell 144 = .ok (.aload_n 0, 1) := by decide +kernel
theorem sX11_readCell_144 {l1 l2 : Option Value} {x : Nat} (k : X w mX11_readCell d Q 145 [some (.ref x), l1, l2] (.ref x :: st) P) : X w mX11_readCell d Q 144 [some (.ref x), l1, l2] st P := X_aload_n (M := mX11_readCell) (dX11_readCell_144) rfl rfl k
theorem dX11_readCell_145 : decode cX11_readCell 145 = .ok (.getfield 47, 3) := by decide +kernel
theorem sX11_readCell_145 {a : Nat} {fs : List Value} {v : Nat} (hP : P.1 a = some (xO 9 fs)) (hv : fs[15]? = some (.ref v)) (k : X w mX11_readCell d Q 148 ls (.ref v :: st) P) : X w mX11_readCell d Q 145 ls (.ref a :: st) P := X_get (M := mX11_readCell) (j := 15) (T := TX11) (dX11_readCell_145) rfl (by decide) x_in11 xw_416 hP hv k
theorem dX11_readCell_148 : decode cX11_readCell 148 = .ok (.aload_n 0, 1) := by decide +kernel
theorem sX11_readCell_148 {l1 l2 : Option Value} {x : Nat} (k : X w mX11_readCell d Q 149 [some (.ref x), l1, l2] (.ref x :: st) P) : X w mX11_readCell d Q 148 [some (.ref x), l1, l2] st P := X_aload_n (M := mX11_readCell) (dX11_readCell_148) rfl rfl k
theorem dX11_readCell_149 : decode cX11_readCell 149 = .ok (.getfield 157, 3) := by decide +kernel
theorem sX11_readCell_149 {a : Nat} {fs : List Value} {v : Int32} (hP : P.1 a = some (xO 9 fs)) (hv : fs[30]? = some (.int v)) (k : X w mX11_readCell d Q 152 ls (.int v :: st) P) : X w mX11_readCell d Q 149 ls (.ref a :: st) P := X_get (M := mX11_readCell) (j := 30) (T := TX11) (dX11_readCell_149) rfl (by decide) x_in11 xw_469 hP hv k
theorem dX11_readCell_152 : decode cX11_readCell 152 = .ok (.iconst 0, 1) := by decide +kernel
theorem sX11_readCell_152 (k : X w mX11_readCell d Q 153 ls (.int (0 : Int32) :: st) P) : X w mX11_readCell d Q 152 ls st P := X_iconst (M := mX11_readCell) (dX11_readCell_152) (by decide) k
theorem dX11_readCell_153 : decode cX11_readCell 153 = .ok (.iastore, 1) := by decide +kernel
theorem sX11_readCell_153 {a n : Nat} {f : Nat → Int32} {i x : Int32} (hP : P.1 a = some (xA 0 n f)) (hi : vp_in i n) (k : X w mX11_readCell d Q 154 ls st (xs P a (xA 0 n (upd f i.toNatClampNeg x)))) : X w mX11_readCell d Q 153 ls (.int x :: .int i :: .ref a :: st) P := X_iast (M := mX11_readCell) (dX11_readCell_153) hP hi k
theorem dX11_readCell_154 : decode cX11_readCell 154 = .ok (.aload_n 0, 1) := by decide +kernel
theorem sX11_readCell_154 {l1 l2 : Option Value} {x : Nat} (k : X w mX11_readCell d Q 155 [some (.ref x), l1, l2] (.ref x :: st) P) : X w mX11_readCell d Q 154 [some (.ref x), l1, l2] st P := X_aload_n (M := mX11_readCell) (dX11_readCell_154) rfl rfl k
theorem dX11_readCell_155 : decode cX11_readCell 155 = .ok (.getfield 50, 3) := by decide +kernel
theorem sX11_readCell_155 {a : Nat} {fs : List Value} {v : Nat} (hP : P.1 a = some (xO 9 fs)) (hv : fs[16]? = some (.ref v)) (k : X w mX11_readCell d Q 158 ls (.ref v :: st) P) : X w mX11_readCell d Q 155 ls (.ref a :: st) P := X_get (M := mX11_readCell) (j := 16) (T := TX11) (dX11_readCell_155) rfl (by decide) x_in11 xw_417 hP hv k
theorem dX11_readCell_158 : decode cX11_readCell 158 = .ok (.aload_n 0, 1) := by decide +kernel
theorem sX11_readCell_158 {l1 l2 : Option Value} {x : Nat} (k : X w mX11_readCell d Q 159 [some (.ref x), l1, l2] (.ref x :: st) P) : X w mX11_readCell d Q 158 [some (.ref x), l1, l2] st P := X_aload_n (M := mX11_readCell) (dX11_readCell_158) rfl rfl k
theorem dX11_readCell_159 : decode cX11_readCell 159 = .ok (.getfield 157, 3) := by decide +kernel
theorem sX11_readCell_159 {a : Nat} {fs : List Value} {v : Int32} (hP : P.1 a = some (xO 9 fs)) (hv : fs[30]? = some (.int v)) (k : X w mX11_readCell d Q 162 ls (.int v :: st) P) : X w mX11_readCell d Q 159 ls (.ref a :: st) P := X_get (M := mX11_readCell) (j := 30) (T := TX11) (dX11_readCell_159) rfl (by decide) x_in11 xw_469 hP hv k
theorem dX11_readCell_162 : decode cX11_readCell 162 = .ok (.iconst 0, 1) := by decide +kernel
theorem sX11_readCell_162 (k : X w mX11_readCell d Q 163 ls (.int (0 : Int32) :: st) P) : X w mX11_readCell d Q 162 ls st P := X_iconst (M := mX11_readCell) (dX11_readCell_162) (by decide) k
theorem dX11_readCell_163 : decode cX11_readCell 163 = .ok (.iastore, 1) := by decide +kernel
theorem sX11_readCell_163 {a n : Nat} {f : Nat → Int32} {i x : Int32} (hP : P.1 a = some (xA 0 n f)) (hi : vp_in i n) (k : X w mX11_readCell d Q 164 ls st (xs P a (xA 0 n (upd f i.toNatClampNeg x)))) : X w mX11_readCell d Q 163 ls (.int x :: .int i :: .ref a :: st) P := X_iast (M := mX11_readCell) (dX11_readCell_163) hP hi k
theorem dX11_readCell_164 : decode cX11_readCell 164 = .ok (.aload_n 0, 1) := by decide +kernel
theorem sX11_readCell_164 {l1 l2 : Option Value} {x : Nat} (k : X w mX11_readCell d Q 165 [some (.ref x), l1, l2] (.ref x :: st) P) : X w mX11_readCell d Q 164 [some (.ref x), l1, l2] st P := X_aload_n (M := mX11_readCell) (dX11_readCell_164) rfl rfl k
theorem dX11_readCell_165 : decode cX11_readCell 165 = .ok (.getfield 63, 3) := by decide +kernel
theorem sX11_readCell_165 {a : Nat} {fs : List Value} {v : Nat} (hP : P.1 a = some (xO 9 fs)) (hv : fs[20]? = some (.ref v)) (k : X w mX11_readCell d Q 168 ls (.ref v :: st) P) : X w mX11_readCell d Q 165 ls (.ref a :: st) P := X_get (M := mX11_readCell) (j := 20) (T := TX11) (dX11_readCell_165) rfl (by decide) x_in11 xw_421 hP hv k
theorem dX11_readCell_168 : decode cX11_readCell 168 = .ok (.aload_n 0, 1) := by decide +kernel
theorem sX11_readCell_168 {l1 l2 : Option Value} {x : Nat} (k : X w mX11_readCell d Q 169 [some (.ref x), l1, l2] (.ref x :: st) P) : X w mX11_readCell d Q 168 [some (.ref x), l1, l2] st P := X_aload_n (M := mX11_readCell) (dX11_readCell_168) rfl rfl k
theorem dX11_readCell_169 : decode cX11_readCell 169 = .ok (.getfield 157, 3) := by decide +kernel
theorem sX11_readCell_169 {a : Nat} {fs : List Value} {v : Int32} (hP : P.1 a = some (xO 9 fs)) (hv : fs[30]? = some (.int v)) (k : X w mX11_readCell d Q 172 ls (.int v :: st) P) : X w mX11_readCell d Q 169 ls (.ref a :: st) P := X_get (M := mX11_readCell) (j := 30) (T := TX11) (dX11_readCell_169) rfl (by decide) x_in11 xw_469 hP hv k
theorem dX11_readCell_172 : decode cX11_readCell 172 = .ok (.iconst 0, 1) := by decide +kernel
theorem sX11_readCell_172 (k : X w mX11_readCell d Q 173 ls (.int (0 : Int32) :: st) P) : X w mX11_readCell d Q 172 ls st P := X_iconst (M := mX11_readCell) (dX11_readCell_172) (by decide) k
theorem dX11_readCell_173 : decode cX11_readCell 173 = .ok (.iastore, 1) := by decide +kernel
theorem sX11_readCell_173 {a n : Nat} {f : Nat → Int32} {i x : Int32} (hP : P.1 a = some (xA 0 n f)) (hi : vp_in i n) (k : X w mX11_readCell d Q 174 ls st (xs P a (xA 0 n (upd f i.toNatClampNeg x)))) : X w mX11_readCell d Q 173 ls (.int x :: .int i :: .ref a :: st) P := X_iast (M := mX11_readCell) (dX11_readCell_173) hP hi k
theorem dX11_readCell_174 : decode cX11_readCell 174 = .ok (.iconst 0, 1) := by decide +kernel
theorem sX11_readCell_174 (k : X w mX11_readCell d Q 175 ls (.int (0 : Int32) :: st) P) : X w mX11_readCell d Q 174 ls st P := X_iconst (M := mX11_readCell) (dX11_readCell_174) (by decide) k
theorem dX11_readCell_175 : decode cX11_readCell 175 = .ok (.istore_n 2, 1) := by decide +kernel
theorem sX11_readCell_175 {l0 l1 l2 : Option Value} {x : Int32} (hn : xnl l1 = true) (k : X w mX11_readCell d Q 176 [l0, l1, some (.int x)] st P) : X w mX11_readCell d Q 175 [l0, l1, l2] (.int x :: st) P := X_istore_n (M := mX11_readCell) (dX11_readCell_175) rfl (by decide) rfl (xnl_p (ls := [l0, l1, l2]) (j := 1) rfl hn) k
theorem dX11_readCell_176 : decode cX11_readCell 176 = .ok (.iload_n 2, 1) := by decide +kernel
theorem sX11_readCell_176 {l0 l1 : Option Value} {x : Int32} (k : X w mX11_readCell d Q 177 [l0, l1, some (.int x)] (.int x :: st) P) : X w mX11_readCell d Q 176 [l0, l1, some (.int x)] st P := X_iload_n (M := mX11_readCell) (dX11_readCell_176) rfl rfl k
theorem dX11_readCell_177 : decode cX11_readCell 177 = .ok (.iconst 4, 1) := by decide +kernel
theorem sX11_readCell_177 (k : X w mX11_readCell d Q 178 ls (.int (4 : Int32) :: st) P) : X w mX11_readCell d Q 177 ls st P := X_iconst (M := mX11_readCell) (dX11_readCell_177) (by decide) k
theorem dX11_readCell_178 : decode cX11_readCell 178 = .ok (.if_icmp .ge 23, 3) := by decide +kernel
theorem sX11_readCell_178 {x y : Int32} (kt : y ≤ x → X w mX11_readCell d Q 201 ls st P) (kf : ¬ y ≤ x → X w mX11_readCell d Q 181 ls st P) : X w mX11_readCell d Q 178 ls (.int y :: .int x :: st) P := X_icmp_ge (M := mX11_readCell) (dX11_readCell_178) (by decide) kt kf
theorem dX11_readCell_181 : decode cX11_readCell 181 = .ok (.aload_n 0, 1) := by decide +kernel
theorem sX11_readCell_181 {l1 l2 : Option Value} {x : Nat} (k : X w mX11_readCell d Q 182 [some (.ref x), l1, l2] (.ref x :: st) P) : X w mX11_readCell d Q 181 [some (.ref x), l1, l2] st P := X_aload_n (M := mX11_readCell) (dX11_readCell_181) rfl rfl k
theorem dX11_readCell_182 : decode cX11_readCell 182 = .ok (.getfield 56, 3) := by decide +kernel
theorem sX11_readCell_182 {a : Nat} {fs : List Value} {v : Nat} (hP : P.1 a = some (xO 9 fs)) (hv : fs[18]? = some (.ref v)) (k : X w mX11_readCell d Q 185 ls (.ref v :: st) P) : X w mX11_readCell d Q 182 ls (.ref a :: st) P := X_get (M := mX11_readCell) (j := 18) (T := TX11) (dX11_readCell_182) rfl (by decide) x_in11 xw_419 hP hv k
theorem dX11_readCell_185 : decode cX11_readCell 185 = .ok (.iconst 4, 1) := by decide +kernel
theorem sX11_readCell_185 (k : X w mX11_readCell d Q 186 ls (.int (4 : Int32) :: st) P) : X w mX11_readCell d Q 185 ls st P := X_iconst (M := mX11_readCell) (dX11_readCell_185) (by decide) k
theorem dX11_readCell_186 : decode cX11_readCell 186 = .ok (.aload_n 0, 1) := by decide +kernel
theorem sX11_readCell_186 {l1 l2 : Option Value} {x : Nat} (k : X w mX11_readCell d Q 187 [some (.ref x), l1, l2] (.ref x :: st) P) : X w mX11_readCell d Q 186 [some (.ref x), l1, l2] st P := X_aload_n (M := mX11_readCell) (dX11_readCell_186) rfl rfl k
theorem dX11_readCell_187 : decode cX11_readCell 187 = .ok (.getfield 157, 3) := by decide +kernel
theorem sX11_readCell_187 {a : Nat} {fs : List Value} {v : Int32} (hP : P.1 a = some (xO 9 fs)) (hv : fs[30]? = some (.int v)) (k : X w mX11_readCell d Q 190 ls (.int v :: st) P) : X w mX11_readCell d Q 187 ls (.ref a :: st) P := X_get (M := mX11_readCell) (j := 30) (T := TX11) (dX11_readCell_187) rfl (by decide) x_in11 xw_469 hP hv k
theorem dX11_readCell_190 : decode cX11_readCell 190 = .ok (.imul, 1) := by decide +kernel
theorem sX11_readCell_190 {x y : Int32} (k : X w mX11_readCell d Q 191 ls (.int (x * y) :: st) P) : X w mX11_readCell d Q 190 ls (.int y :: .int x :: st) P := X_imul (M := mX11_readCell) (dX11_readCell_190) k
theorem dX11_readCell_191 : decode cX11_readCell 191 = .ok (.iload_n 2, 1) := by decide +kernel
theorem sX11_readCell_191 {l0 l1 : Option Value} {x : Int32} (k : X w mX11_readCell d Q 192 [l0, l1, some (.int x)] (.int x :: st) P) : X w mX11_readCell d Q 191 [l0, l1, some (.int x)] st P := X_iload_n (M := mX11_readCell) (dX11_readCell_191) rfl rfl k
theorem dX11_readCell_192 : decode cX11_readCell 192 = .ok (.iadd, 1) := by decide +kernel
theorem sX11_readCell_192 {x y : Int32} (k : X w mX11_readCell d Q 193 ls (.int (x + y) :: st) P) : X w mX11_readCell d Q 192 ls (.int y :: .int x :: st) P := X_iadd (M := mX11_readCell) (dX11_readCell_192) k
theorem dX11_readCell_193 : decode cX11_readCell 193 = .ok (.iconst 0, 1) := by decide +kernel
theorem sX11_readCell_193 (k : X w mX11_readCell d Q 194 ls (.int (0 : Int32) :: st) P) : X w mX11_readCell d Q 193 ls st P := X_iconst (M := mX11_readCell) (dX11_readCell_193) (by decide) k
theorem dX11_readCell_194 : decode cX11_readCell 194 = .ok (.bastore, 1) := by decide +kernel
theorem sX11_readCell_194 {a n : Nat} {f : Nat → Int32} {i x : Int32} (hP : P.1 a = some (xA 3 n f)) (hi : vp_in i n) (k : X w mX11_readCell d Q 195 ls st (xs P a (xA 3 n (upd f i.toNatClampNeg (vp_nar .boolean x))))) : X w mX11_readCell d Q 194 ls (.int x :: .int i :: .ref a :: st) P := X_zast (M := mX11_readCell) (dX11_readCell_194) hP hi k
theorem dX11_readCell_195 : decode cX11_readCell 195 = .ok (.iinc 2 1, 3) := by decide +kernel
theorem sX11_readCell_195 {l0 l1 : Option Value} {x : Int32} (hn : xnl l1 = true) (k : X w mX11_readCell d Q 198 [l0, l1, some (.int (x + (1 : Int32)))] st P) : X w mX11_readCell d Q 195 [l0, l1, some (.int x)] st P := X_iinc (M := mX11_readCell) (dX11_readCell_195) rfl (by rfl) (by decide) rfl (xnl_p (ls := [l0, l1, some (.int x)]) (j := 1) rfl hn) k
theorem dX11_readCell_198 : decode cX11_readCell 198 = .ok (.goto (-22), 3) := by decide +kernel
theorem sX11_readCell_198 (k : X w mX11_readCell d Q 176 ls st P) : X w mX11_readCell d Q 198 ls st P := X_goto (M := mX11_readCell) (dX11_readCell_198) (by decide) k
theorem dX11_readCell_201 : decode cX11_readCell 201 = .ok (.iconst 0, 1) := by decide +kernel
theorem sX11_readCell_201 (k : X w mX11_readCell d Q 202 ls (.int (0 : Int32) :: st) P) : X w mX11_readCell d Q 201 ls st P := X_iconst (M := mX11_readCell) (dX11_readCell_201) (by decide) k
theorem dX11_readCell_202 : decode cX11_readCell 202 = .ok (.istore_n 2, 1) := by decide +kernel
theorem sX11_readCell_202 {l0 l1 l2 : Option Value} {x : Int32} (hn : xnl l1 = true) (k : X w mX11_readCell d Q 203 [l0, l1, some (.int x)] st P) : X w mX11_readCell d Q 202 [l0, l1, l2] (.int x :: st) P := X_istore_n (M := mX11_readCell) (dX11_readCell_202) rfl (by decide) rfl (xnl_p (ls := [l0, l1, l2]) (j := 1) rfl hn) k
theorem dX11_readCell_203 : decode cX11_readCell 203 = .ok (.iload_n 2, 1) := by decide +kernel
theorem sX11_readCell_203 {l0 l1 : Option Value} {x : Int32} (k : X w mX11_readCell d Q 204 [l0, l1, some (.int x)] (.int x :: st) P) : X w mX11_readCell d Q 203 [l0, l1, some (.int x)] st P := X_iload_n (M := mX11_readCell) (dX11_readCell_203) rfl rfl k
theorem dX11_readCell_204 : decode cX11_readCell 204 = .ok (.iconst 3, 1) := by decide +kernel
theorem sX11_readCell_204 (k : X w mX11_readCell d Q 205 ls (.int (3 : Int32) :: st) P) : X w mX11_readCell d Q 204 ls st P := X_iconst (M := mX11_readCell) (dX11_readCell_204) (by decide) k
theorem dX11_readCell_205 : decode cX11_readCell 205 = .ok (.if_icmp .ge 23, 3) := by decide +kernel
theorem sX11_readCell_205 {x y : Int32} (kt : y ≤ x → X w mX11_readCell d Q 228 ls st P) (kf : ¬ y ≤ x → X w mX11_readCell d Q 208 ls st P) : X w mX11_readCell d Q 205 ls (.int y :: .int x :: st) P := X_icmp_ge (M := mX11_readCell) (dX11_readCell_205) (by decide) kt kf
theorem dX11_readCell_208 : decode cX11_readCell 208 = .ok (.aload_n 0, 1) := by decide +kernel
theorem sX11_readCell_208 {l1 l2 : Option Value} {x : Nat} (k : X w mX11_readCell d Q 209 [some (.ref x), l1, l2] (.ref x :: st) P) : X w mX11_readCell d Q 208 [some (.ref x), l1, l2] st P := X_aload_n (M := mX11_readCell) (dX11_readCell_208) rfl rfl k
theorem dX11_readCell_209 : decode cX11_readCell 209 = .ok (.getfield 53, 3) := by decide +kernel
theorem sX11_readCell_209 {a : Nat} {fs : List Value} {v : Nat} (hP : P.1 a = some (xO 9 fs)) (hv : fs[17]? = some (.ref v)) (k : X w mX11_readCell d Q 212 ls (.ref v :: st) P) : X w mX11_readCell d Q 209 ls (.ref a :: st) P := X_get (M := mX11_readCell) (j := 17) (T := TX11) (dX11_readCell_209) rfl (by decide) x_in11 xw_418 hP hv k
theorem dX11_readCell_212 : decode cX11_readCell 212 = .ok (.iconst 3, 1) := by decide +kernel
theorem sX11_readCell_212 (k : X w mX11_readCell d Q 213 ls (.int (3 : Int32) :: st) P) : X w mX11_readCell d Q 212 ls st P := X_iconst (M := mX11_readCell) (dX11_readCell_212) (by decide) k
theorem dX11_readCell_213 : decode cX11_readCell 213 = .ok (.aload_n 0, 1) := by decide +kernel
theorem sX11_readCell_213 {l1 l2 : Option Value} {x : Nat} (k : X w mX11_readCell d Q 214 [some (.ref x), l1, l2] (.ref x :: st) P) : X w mX11_readCell d Q 213 [some (.ref x), l1, l2] st P := X_aload_n (M := mX11_readCell) (dX11_readCell_213) rfl rfl k
theorem dX11_readCell_214 : decode cX11_readCell 214 = .ok (.getfield 157, 3) := by decide +kernel
theorem sX11_readCell_214 {a : Nat} {fs : List Value} {v : Int32} (hP : P.1 a = some (xO 9 fs)) (hv : fs[30]? = some (.int v)) (k : X w mX11_readCell d Q 217 ls (.int v :: st) P) : X w mX11_readCell d Q 214 ls (.ref a :: st) P := X_get (M := mX11_readCell) (j := 30) (T := TX11) (dX11_readCell_214) rfl (by decide) x_in11 xw_469 hP hv k
theorem dX11_readCell_217 : decode cX11_readCell 217 = .ok (.imul, 1) := by decide +kernel
theorem sX11_readCell_217 {x y : Int32} (k : X w mX11_readCell d Q 218 ls (.int (x * y) :: st) P) : X w mX11_readCell d Q 217 ls (.int y :: .int x :: st) P := X_imul (M := mX11_readCell) (dX11_readCell_217) k
theorem dX11_readCell_218 : decode cX11_readCell 218 = .ok (.iload_n 2, 1) := by decide +kernel
theorem sX11_readCell_218 {l0 l1 : Option Value} {x : Int32} (k : X w mX11_readCell d Q 219 [l0, l1, some (.int x)] (.int x :: st) P) : X w mX11_readCell d Q 218 [l0, l1, some (.int x)] st P := X_iload_n (M := mX11_readCell) (dX11_readCell_218) rfl rfl k
theorem dX11_readCell_219 : decode cX11_readCell 219 = .ok (.iadd, 1) := by decide +kernel
theorem sX11_readCell_219 {x y : Int32} (k : X w mX11_readCell d Q 220 ls (.int (x + y) :: st) P) : X w mX11_readCell d Q 219 ls (.int y :: .int x :: st) P := X_iadd (M := mX11_readCell) (dX11_readCell_219) k
theorem dX11_readCell_220 : decode cX11_readCell 220 = .ok (.iconst 0, 1) := by decide +kernel
theorem sX11_readCell_220 (k : X w mX11_readCell d Q 221 ls (.int (0 : Int32) :: st) P) : X w mX11_readCell d Q 220 ls st P := X_iconst (M := mX11_readCell) (dX11_readCell_220) (by decide) k
theorem dX11_readCell_221 : decode cX11_readCell 221 = .ok (.iastore, 1) := by decide +kernel
theorem sX11_readCell_221 {a n : Nat} {f : Nat → Int32} {i x : Int32} (hP : P.1 a = some (xA 0 n f)) (hi : vp_in i n) (k : X w mX11_readCell d Q 222 ls st (xs P a (xA 0 n (upd f i.toNatClampNeg x)))) : X w mX11_readCell d Q 221 ls (.int x :: .int i :: .ref a :: st) P := X_iast (M := mX11_readCell) (dX11_readCell_221) hP hi k
theorem dX11_readCell_222 : decode cX11_readCell 222 = .ok (.iinc 2 1, 3) := by decide +kernel
theorem sX11_readCell_222 {l0 l1 : Option Value} {x : Int32} (hn : xnl l1 = true) (k : X w mX11_readCell d Q 225 [l0, l1, some (.int (x + (1 : Int32)))] st P) : X w mX11_readCell d Q 222 [l0, l1, some (.int x)] st P := X_iinc (M := mX11_readCell) (dX11_readCell_222) rfl (by rfl) (by decide) rfl (xnl_p (ls := [l0, l1, some (.int x)]) (j := 1) rfl hn) k
theorem dX11_readCell_225 : decode cX11_readCell 225 = .ok (.goto (-22), 3) := by decide +kernel
theorem sX11_readCell_225 (k : X w mX11_readCell d Q 203 ls st P) : X w mX11_readCell d Q 225 ls st P := X_goto (M := mX11_readCell) (dX11_readCell_225) (by decide) k
theorem dX11_readCell_228 : decode cX11_readCell 228 = .ok (.iconst 0, 1) := by decide +kernel
theorem sX11_readCell_228 (k : X w mX11_readCell d Q 229 ls (.int (0 : Int32) :: st) P) : X w mX11_readCell d Q 228 ls st P := X_iconst (M := mX11_readCell) (dX11_readCell_228) (by decide) k
theorem dX11_readCell_229 : decode cX11_readCell 229 = .ok (.istore_n 2, 1) := by decide +kernel
theorem sX11_readCell_229 {l0 l1 l2 : Option Value} {x : Int32} (hn : xnl l1 = true) (k : X w mX11_readCell d Q 230 [l0, l1, some (.int x)] st P) : X w mX11_readCell d Q 229 [l0, l1, l2] (.int x :: st) P := X_istore_n (M := mX11_readCell) (dX11_readCell_229) rfl (by decide) rfl (xnl_p (ls := [l0, l1, l2]) (j := 1) rfl hn) k
theorem dX11_readCell_230 : decode cX11_readCell 230 = .ok (.iload_n 2, 1) := by decide +kernel
theorem sX11_readCell_230 {l0 l1 : Option Value} {x : Int32} (k : X w mX11_readCell d Q 231 [l0, l1, some (.int x)] (.int x :: st) P) : X w mX11_readCell d Q 230 [l0, l1, some (.int x)] st P := X_iload_n (M := mX11_readCell) (dX11_readCell_230) rfl rfl k
theorem dX11_readCell_231 : decode cX11_readCell 231 = .ok (.bipush 64, 2) := by decide +kernel
theorem sX11_readCell_231 (k : X w mX11_readCell d Q 233 ls (.int (64 : Int32) :: st) P) : X w mX11_readCell d Q 231 ls st P := X_bipush (M := mX11_readCell) (dX11_readCell_231) (by decide) k
theorem dX11_readCell_233 : decode cX11_readCell 233 = .ok (.if_icmp .ge 24, 3) := by decide +kernel
theorem sX11_readCell_233 {x y : Int32} (kt : y ≤ x → X w mX11_readCell d Q 257 ls st P) (kf : ¬ y ≤ x → X w mX11_readCell d Q 236 ls st P) : X w mX11_readCell d Q 233 ls (.int y :: .int x :: st) P := X_icmp_ge (M := mX11_readCell) (dX11_readCell_233) (by decide) kt kf
theorem dX11_readCell_236 : decode cX11_readCell 236 = .ok (.aload_n 0, 1) := by decide +kernel
theorem sX11_readCell_236 {l1 l2 : Option Value} {x : Nat} (k : X w mX11_readCell d Q 237 [some (.ref x), l1, l2] (.ref x :: st) P) : X w mX11_readCell d Q 236 [some (.ref x), l1, l2] st P := X_aload_n (M := mX11_readCell) (dX11_readCell_236) rfl rfl k
theorem dX11_readCell_237 : decode cX11_readCell 237 = .ok (.getfield 69, 3) := by decide +kernel
theorem sX11_readCell_237 {a : Nat} {fs : List Value} {v : Nat} (hP : P.1 a = some (xO 9 fs)) (hv : fs[22]? = some (.ref v)) (k : X w mX11_readCell d Q 240 ls (.ref v :: st) P) : X w mX11_readCell d Q 237 ls (.ref a :: st) P := X_get (M := mX11_readCell) (j := 22) (T := TX11) (dX11_readCell_237) rfl (by decide) x_in11 xw_423 hP hv k
theorem dX11_readCell_240 : decode cX11_readCell 240 = .ok (.bipush 64, 2) := by decide +kernel
theorem sX11_readCell_240 (k : X w mX11_readCell d Q 242 ls (.int (64 : Int32) :: st) P) : X w mX11_readCell d Q 240 ls st P := X_bipush (M := mX11_readCell) (dX11_readCell_240) (by decide) k
theorem dX11_readCell_242 : decode cX11_readCell 242 = .ok (.aload_n 0, 1) := by decide +kernel
theorem sX11_readCell_242 {l1 l2 : Option Value} {x : Nat} (k : X w mX11_readCell d Q 243 [some (.ref x), l1, l2] (.ref x :: st) P) : X w mX11_readCell d Q 242 [some (.ref x), l1, l2] st P := X_aload_n (M := mX11_readCell) (dX11_readCell_242) rfl rfl k
theorem dX11_readCell_243 : decode cX11_readCell 243 = .ok (.getfield 157, 3) := by decide +kernel
theorem sX11_readCell_243 {a : Nat} {fs : List Value} {v : Int32} (hP : P.1 a = some (xO 9 fs)) (hv : fs[30]? = some (.int v)) (k : X w mX11_readCell d Q 246 ls (.int v :: st) P) : X w mX11_readCell d Q 243 ls (.ref a :: st) P := X_get (M := mX11_readCell) (j := 30) (T := TX11) (dX11_readCell_243) rfl (by decide) x_in11 xw_469 hP hv k
theorem dX11_readCell_246 : decode cX11_readCell 246 = .ok (.imul, 1) := by decide +kernel
theorem sX11_readCell_246 {x y : Int32} (k : X w mX11_readCell d Q 247 ls (.int (x * y) :: st) P) : X w mX11_readCell d Q 246 ls (.int y :: .int x :: st) P := X_imul (M := mX11_readCell) (dX11_readCell_246) k
theorem dX11_readCell_247 : decode cX11_readCell 247 = .ok (.iload_n 2, 1) := by decide +kernel
theorem sX11_readCell_247 {l0 l1 : Option Value} {x : Int32} (k : X w mX11_readCell d Q 248 [l0, l1, some (.int x)] (.int x :: st) P) : X w mX11_readCell d Q 247 [l0, l1, some (.int x)] st P := X_iload_n (M := mX11_readCell) (dX11_readCell_247) rfl rfl k
theorem dX11_readCell_248 : decode cX11_readCell 248 = .ok (.iadd, 1) := by decide +kernel
theorem sX11_readCell_248 {x y : Int32} (k : X w mX11_readCell d Q 249 ls (.int (x + y) :: st) P) : X w mX11_readCell d Q 248 ls (.int y :: .int x :: st) P := X_iadd (M := mX11_readCell) (dX11_readCell_248) k
theorem dX11_readCell_249 : decode cX11_readCell 249 = .ok (.iconst 0, 1) := by decide +kernel
theorem sX11_readCell_249 (k : X w mX11_readCell d Q 250 ls (.int (0 : Int32) :: st) P) : X w mX11_readCell d Q 249 ls st P := X_iconst (M := mX11_readCell) (dX11_readCell_249) (by decide) k
theorem dX11_readCell_250 : decode cX11_readCell 250 = .ok (.iastore, 1) := by decide +kernel
theorem sX11_readCell_250 {a n : Nat} {f : Nat → Int32} {i x : Int32} (hP : P.1 a = some (xA 0 n f)) (hi : vp_in i n) (k : X w mX11_readCell d Q 251 ls st (xs P a (xA 0 n (upd f i.toNatClampNeg x)))) : X w mX11_readCell d Q 250 ls (.int x :: .int i :: .ref a :: st) P := X_iast (M := mX11_readCell) (dX11_readCell_250) hP hi k
theorem dX11_readCell_251 : decode cX11_readCell 251 = .ok (.iinc 2 1, 3) := by decide +kernel
theorem sX11_readCell_251 {l0 l1 : Option Value} {x : Int32} (hn : xnl l1 = true) (k : X w mX11_readCell d Q 254 [l0, l1, some (.int (x + (1 : Int32)))] st P) : X w mX11_readCell d Q 251 [l0, l1, some (.int x)] st P := X_iinc (M := mX11_readCell) (dX11_readCell_251) rfl (by rfl) (by decide) rfl (xnl_p (ls := [l0, l1, some (.int x)]) (j := 1) rfl hn) k
theorem dX11_readCell_254 : decode cX11_readCell 254 = .ok (.goto (-24), 3) := by decide +kernel
theorem sX11_readCell_254 (k : X w mX11_readCell d Q 230 ls st P) : X w mX11_readCell d Q 254 ls st P := X_goto (M := mX11_readCell) (dX11_readCell_254) (by decide) k
theorem dX11_readCell_257 : decode cX11_readCell 257 = .ok (.aload_n 0, 1) := by decide +kernel
theorem sX11_readCell_257 {l1 l2 : Option Value} {x : Nat} (k : X w mX11_readCell d Q 258 [some (.ref x), l1, l2] (.ref x :: st) P) : X w mX11_readCell d Q 257 [some (.ref x), l1, l2] st P := X_aload_n (M := mX11_readCell) (dX11_readCell_257) rfl rfl k
theorem dX11_readCell_258 : decode cX11_readCell 258 = .ok (.invokevirtual 131, 3) := by decide +kernel
theorem sX11_readCell_258_g {b : Nat} {fs : List Value}  {Qc : Outcome → xH → Prop} (hst : (st.map fun v => v.category).sum ≤ 8) (hP : P.1 b = some (xO 9 fs)) (hC : xC w d mX11_go [.ref b] P Qc) (kr : ∀ v P1, Qc (.returned v) P1 → X w mX11_readCell (d + 1) Q 261 ls (v.toList ++ st) P1) (kt : ∀ q P1, Qc (.threw q) P1 → Xt w mX11_readCell (d + 1) Q 258 ls st P1 q) : X w mX11_readCell (d + 1) Q 258 ls (.ref b :: st) P := X_callV (M := mX11_readCell) (MC := mX11_go) (As := []) (T := TX11) (dX11_readCell_258) calX11_go xw_451 xw_452 xw_453 rfl rfl hP hC hst kr kt
theorem sX11_readCell_258 {b : Nat} {fs : List Value}  {P1 : xH} (hst : (st.map fun v => v.category).sum ≤ 8) (hP : P.1 b = some (xO 9 fs)) (hC : xC w d mX11_go [.ref b] P (xRet none P1)) (k : X w mX11_readCell (d + 1) Q 261 ls st P1) : X w mX11_readCell (d + 1) Q 258 ls (.ref b :: st) P := X_callV (M := mX11_readCell) (MC := mX11_go) (As := []) (T := TX11) (dX11_readCell_258) calX11_go xw_451 xw_452 xw_453 rfl rfl hP hC hst (fun v P2 h => by obtain ⟨h1, rfl⟩ := h; cases h1; exact k) (fun q P2 h => by cases h.1)
theorem sX11_readCell_258_r {b : Nat} {fs : List Value}  {Rp : xH → Prop} (hst : (st.map fun v => v.category).sum ≤ 8) (hP : P.1 b = some (xO 9 fs)) (hC : xC w d mX11_go [.ref b] P (xRl none Rp)) (k : ∀ P1, Rp P1 → X w mX11_readCell (d + 1) Q 261 ls st P1) : X w mX11_readCell (d + 1) Q 258 ls (.ref b :: st) P := X_callV (M := mX11_readCell) (MC := mX11_go) (As := []) (T := TX11) (dX11_readCell_258) calX11_go xw_451 xw_452 xw_453 rfl rfl hP hC hst (fun v P2 h => by obtain ⟨h1, hR⟩ := h; cases h1; exact k P2 hR) (fun q P2 h => by cases h.1)
theorem sX11_readCell_258_t {b : Nat} {fs : List Value}  {q : Nat} {P1 : xH} (hst : (st.map fun v => v.category).sum ≤ 8) (hP : P.1 b = some (xO 9 fs)) (hC : xC w d mX11_go [.ref b] P (xThr q P1)) (hq : Q (.threw q) P1) : X w mX11_readCell (d + 1) Q 258 ls (.ref b :: st) P := X_callV (M := mX11_readCell) (MC := mX11_go) (As := []) (T := TX11) (dX11_readCell_258) calX11_go xw_451 xw_452 xw_453 rfl rfl hP hC hst (fun v P2 h => by cases h.1) (fun q2 P2 h => by obtain ⟨h1, rfl⟩ := h; cases h1; exact Xt_out rfl hq)
theorem dX11_readCell_261 : decode cX11_readCell 261 = .ok (.aload_n 0, 1) := by decide +kernel
theorem sX11_readCell_261 {l1 l2 : Option Value} {x : Nat} (k : X w mX11_readCell d Q 262 [some (.ref x), l1, l2] (.ref x :: st) P) : X w mX11_readCell d Q 261 [some (.ref x), l1, l2] st P := X_aload_n (M := mX11_readCell) (dX11_readCell_261) rfl rfl k
theorem dX11_readCell_262 : decode cX11_readCell 262 = .ok (.bipush 123, 2) := by decide +kernel
theorem sX11_readCell_262 (k : X w mX11_readCell d Q 264 ls (.int (123 : Int32) :: st) P) : X w mX11_readCell d Q 262 ls st P := X_bipush (M := mX11_readCell) (dX11_readCell_262) (by decide) k
theorem dX11_readCell_264 : decode cX11_readCell 264 = .ok (.invokevirtual 145, 3) := by decide +kernel
theorem sX11_readCell_264_g {b : Nat} {fs : List Value} {a0 : Int32} {Qc : Outcome → xH → Prop} (hst : (st.map fun v => v.category).sum ≤ 8) (hP : P.1 b = some (xO 9 fs)) (hC : xC w d mX11_sign [.ref b, .int a0] P Qc) (kr : ∀ v P1, Qc (.returned v) P1 → X w mX11_readCell (d + 1) Q 267 ls (v.toList ++ st) P1) (kt : ∀ q P1, Qc (.threw q) P1 → Xt w mX11_readCell (d + 1) Q 264 ls st P1 q) : X w mX11_readCell (d + 1) Q 264 ls (.int a0 :: .ref b :: st) P := X_callV (M := mX11_readCell) (MC := mX11_sign) (As := [.int a0]) (T := TX11) (dX11_readCell_264) calX11_sign xw_460 xw_461 xw_462 rfl rfl hP hC hst kr kt
theorem sX11_readCell_264 {b : Nat} {fs : List Value} {a0 : Int32} {P1 : xH} (hst : (st.map fun v => v.category).sum ≤ 8) (hP : P.1 b = some (xO 9 fs)) (hC : xC w d mX11_sign [.ref b, .int a0] P (xRet none P1)) (k : X w mX11_readCell (d + 1) Q 267 ls st P1) : X w mX11_readCell (d + 1) Q 264 ls (.int a0 :: .ref b :: st) P := X_callV (M := mX11_readCell) (MC := mX11_sign) (As := [.int a0]) (T := TX11) (dX11_readCell_264) calX11_sign xw_460 xw_461 xw_462 rfl rfl hP hC hst (fun v P2 h => by obtain ⟨h1, rfl⟩ := h; cases h1; exact k) (fun q P2 h => by cases h.1)
theorem sX11_readCell_264_r {b : Nat} {fs : List Value} {a0 : Int32} {Rp : xH → Prop} (hst : (st.map fun v => v.category).sum ≤ 8) (hP : P.1 b = some (xO 9 fs)) (hC : xC w d mX11_sign [.ref b, .int a0] P (xRl none Rp)) (k : ∀ P1, Rp P1 → X w mX11_readCell (d + 1) Q 267 ls st P1) : X w mX11_readCell (d + 1) Q 264 ls (.int a0 :: .ref b :: st) P := X_callV (M := mX11_readCell) (MC := mX11_sign) (As := [.int a0]) (T := TX11) (dX11_readCell_264) calX11_sign xw_460 xw_461 xw_462 rfl rfl hP hC hst (fun v P2 h => by obtain ⟨h1, hR⟩ := h; cases h1; exact k P2 hR) (fun q P2 h => by cases h.1)
theorem sX11_readCell_264_t {b : Nat} {fs : List Value} {a0 : Int32} {q : Nat} {P1 : xH} (hst : (st.map fun v => v.category).sum ≤ 8) (hP : P.1 b = some (xO 9 fs)) (hC : xC w d mX11_sign [.ref b, .int a0] P (xThr q P1)) (hq : Q (.threw q) P1) : X w mX11_readCell (d + 1) Q 264 ls (.int a0 :: .ref b :: st) P := X_callV (M := mX11_readCell) (MC := mX11_sign) (As := [.int a0]) (T := TX11) (dX11_readCell_264) calX11_sign xw_460 xw_461 xw_462 rfl rfl hP hC hst (fun v P2 h => by cases h.1) (fun q2 P2 h => by obtain ⟨h1, rfl⟩ := h; cases h1; exact Xt_out rfl hq)
theorem dX11_readCell_267 : decode cX11_readCell 267 = .ok (.aload_n 0, 1) := by decide +kernel
theorem sX11_readCell_267 {l1 l2 : Option Value} {x : Nat} (k : X w mX11_readCell d Q 268 [some (.ref x), l1, l2] (.ref x :: st) P) : X w mX11_readCell d Q 267 [some (.ref x), l1, l2] st P := X_aload_n (M := mX11_readCell) (dX11_readCell_267) rfl rfl k
theorem dX11_readCell_268 : decode cX11_readCell 268 = .ok (.getfield 117, 3) := by decide +kernel
theorem sX11_readCell_268 {a : Nat} {fs : List Value} {v : Int32} (hP : P.1 a = some (xO 9 fs)) (hv : fs[28]? = some (.int v)) (k : X w mX11_readCell d Q 271 ls (.int v :: st) P) : X w mX11_readCell d Q 268 ls (.ref a :: st) P := X_get (M := mX11_readCell) (j := 28) (T := TX11) (dX11_readCell_268) rfl (by decide) x_in11 xw_441 hP hv k
theorem dX11_readCell_271 : decode cX11_readCell 271 = .ok (.ifCond .eq 19, 3) := by decide +kernel
theorem sX11_readCell_271 {x : Int32} (kt : x = 0 → X w mX11_readCell d Q 290 ls st P) (kf : ¬ x = 0 → X w mX11_readCell d Q 274 ls st P) : X w mX11_readCell d Q 271 ls (.int x :: st) P := X_if_eq (M := mX11_readCell) (dX11_readCell_271) (by decide) kt kf
theorem dX11_readCell_274 : decode cX11_readCell 274 = .ok (.aload_n 0, 1) := by decide +kernel
theorem sX11_readCell_274 {l1 l2 : Option Value} {x : Nat} (k : X w mX11_readCell d Q 275 [some (.ref x), l1, l2] (.ref x :: st) P) : X w mX11_readCell d Q 274 [some (.ref x), l1, l2] st P := X_aload_n (M := mX11_readCell) (dX11_readCell_274) rfl rfl k
theorem dX11_readCell_275 : decode cX11_readCell 275 = .ok (.bipush 125, 2) := by decide +kernel
theorem sX11_readCell_275 (k : X w mX11_readCell d Q 277 ls (.int (125 : Int32) :: st) P) : X w mX11_readCell d Q 275 ls st P := X_bipush (M := mX11_readCell) (dX11_readCell_275) (by decide) k
theorem dX11_readCell_277 : decode cX11_readCell 277 = .ok (.invokevirtual 124, 3) := by decide +kernel
theorem sX11_readCell_277_g {b : Nat} {fs : List Value} {a0 : Int32} {Qc : Outcome → xH → Prop} (hst : (st.map fun v => v.category).sum ≤ 8) (hP : P.1 b = some (xO 9 fs)) (hC : xC w d mX11_isSign [.ref b, .int a0] P Qc) (kr : ∀ v P1, Qc (.returned v) P1 → X w mX11_readCell (d + 1) Q 280 ls (v.toList ++ st) P1) (kt : ∀ q P1, Qc (.threw q) P1 → Xt w mX11_readCell (d + 1) Q 277 ls st P1 q) : X w mX11_readCell (d + 1) Q 277 ls (.int a0 :: .ref b :: st) P := X_callV (M := mX11_readCell) (MC := mX11_isSign) (As := [.int a0]) (T := TX11) (dX11_readCell_277) calX11_isSign xw_445 xw_446 xw_447 rfl rfl hP hC hst kr kt
theorem sX11_readCell_277 {b : Nat} {fs : List Value} {a0 : Int32} {r : Int32} {P1 : xH} (hst : (st.map fun v => v.category).sum ≤ 8) (hP : P.1 b = some (xO 9 fs)) (hC : xC w d mX11_isSign [.ref b, .int a0] P (xRet (some (.int r)) P1)) (k : X w mX11_readCell (d + 1) Q 280 ls (.int r :: st) P1) : X w mX11_readCell (d + 1) Q 277 ls (.int a0 :: .ref b :: st) P := X_callV (M := mX11_readCell) (MC := mX11_isSign) (As := [.int a0]) (T := TX11) (dX11_readCell_277) calX11_isSign xw_445 xw_446 xw_447 rfl rfl hP hC hst (fun v P2 h => by obtain ⟨h1, rfl⟩ := h; cases h1; exact k) (fun q P2 h => by cases h.1)
theorem sX11_readCell_277_r {b : Nat} {fs : List Value} {a0 : Int32} {r : Int32} {Rp : xH → Prop} (hst : (st.map fun v => v.category).sum ≤ 8) (hP : P.1 b = some (xO 9 fs)) (hC : xC w d mX11_isSign [.ref b, .int a0] P (xRl (some (.int r)) Rp)) (k : ∀ P1, Rp P1 → X w mX11_readCell (d + 1) Q 280 ls (.int r :: st) P1) : X w mX11_readCell (d + 1) Q 277 ls (.int a0 :: .ref b :: st) P := X_callV (M := mX11_readCell) (MC := mX11_isSign) (As := [.int a0]) (T := TX11) (dX11_readCell_277) calX11_isSign xw_445 xw_446 xw_447 rfl rfl hP hC hst (fun v P2 h => by obtain ⟨h1, hR⟩ := h; cases h1; exact k P2 hR) (fun q P2 h => by cases h.1)
theorem sX11_readCell_277_t {b : Nat} {fs : List Value} {a0 : Int32} {q : Nat} {P1 : xH} (hst : (st.map fun v => v.category).sum ≤ 8) (hP : P.1 b = some (xO 9 fs)) (hC : xC w d mX11_isSign [.ref b, .int a0] P (xThr q P1)) (hq : Q (.threw q) P1) : X w mX11_readCell (d + 1) Q 277 ls (.int a0 :: .ref b :: st) P := X_callV (M := mX11_readCell) (MC := mX11_isSign) (As := [.int a0]) (T := TX11) (dX11_readCell_277) calX11_isSign xw_445 xw_446 xw_447 rfl rfl hP hC hst (fun v P2 h => by cases h.1) (fun q2 P2 h => by obtain ⟨h1, rfl⟩ := h; cases h1; exact Xt_out rfl hq)
theorem dX11_readCell_280 : decode cX11_readCell 280 = .ok (.ifCond .ne 10, 3) := by decide +kernel
theorem sX11_readCell_280 {x : Int32} (kt : ¬ x = 0 → X w mX11_readCell d Q 290 ls st P) (kf : x = 0 → X w mX11_readCell d Q 283 ls st P) : X w mX11_readCell d Q 280 ls (.int x :: st) P := X_if_ne (M := mX11_readCell) (dX11_readCell_280) (by decide) kt kf
theorem dX11_readCell_283 : decode cX11_readCell 283 = .ok (.aload_n 0, 1) := by decide +kernel
theorem sX11_readCell_283 {l1 l2 : Option Value} {x : Nat} (k : X w mX11_readCell d Q 284 [some (.ref x), l1, l2] (.ref x :: st) P) : X w mX11_readCell d Q 283 [some (.ref x), l1, l2] st P := X_aload_n (M := mX11_readCell) (dX11_readCell_283) rfl rfl k
theorem dX11_readCell_284 : decode cX11_readCell 284 = .ok (.invokevirtual 164, 3) := by decide +kernel
theorem sX11_readCell_284_g {b : Nat} {fs : List Value}  {Qc : Outcome → xH → Prop} (hst : (st.map fun v => v.category).sum ≤ 8) (hP : P.1 b = some (xO 9 fs)) (hC : xC w d mX11_readItem [.ref b] P Qc) (kr : ∀ v P1, Qc (.returned v) P1 → X w mX11_readCell (d + 1) Q 287 ls (v.toList ++ st) P1) (kt : ∀ q P1, Qc (.threw q) P1 → Xt w mX11_readCell (d + 1) Q 284 ls st P1 q) : X w mX11_readCell (d + 1) Q 284 ls (.ref b :: st) P := X_callV (M := mX11_readCell) (MC := mX11_readItem) (As := []) (T := TX11) (dX11_readCell_284) calX11_readItem xw_473 xw_474 xw_475 rfl rfl hP hC hst kr kt
theorem sX11_readCell_284 {b : Nat} {fs : List Value}  {P1 : xH} (hst : (st.map fun v => v.category).sum ≤ 8) (hP : P.1 b = some (xO 9 fs)) (hC : xC w d mX11_readItem [.ref b] P (xRet none P1)) (k : X w mX11_readCell (d + 1) Q 287 ls st P1) : X w mX11_readCell (d + 1) Q 284 ls (.ref b :: st) P := X_callV (M := mX11_readCell) (MC := mX11_readItem) (As := []) (T := TX11) (dX11_readCell_284) calX11_readItem xw_473 xw_474 xw_475 rfl rfl hP hC hst (fun v P2 h => by obtain ⟨h1, rfl⟩ := h; cases h1; exact k) (fun q P2 h => by cases h.1)
theorem sX11_readCell_284_r {b : Nat} {fs : List Value}  {Rp : xH → Prop} (hst : (st.map fun v => v.category).sum ≤ 8) (hP : P.1 b = some (xO 9 fs)) (hC : xC w d mX11_readItem [.ref b] P (xRl none Rp)) (k : ∀ P1, Rp P1 → X w mX11_readCell (d + 1) Q 287 ls st P1) : X w mX11_readCell (d + 1) Q 284 ls (.ref b :: st) P := X_callV (M := mX11_readCell) (MC := mX11_readItem) (As := []) (T := TX11) (dX11_readCell_284) calX11_readItem xw_473 xw_474 xw_475 rfl rfl hP hC hst (fun v P2 h => by obtain ⟨h1, hR⟩ := h; cases h1; exact k P2 hR) (fun q P2 h => by cases h.1)
theorem sX11_readCell_284_t {b : Nat} {fs : List Value}  {q : Nat} {P1 : xH} (hst : (st.map fun v => v.category).sum ≤ 8) (hP : P.1 b = some (xO 9 fs)) (hC : xC w d mX11_readItem [.ref b] P (xThr q P1)) (hq : Q (.threw q) P1) : X w mX11_readCell (d + 1) Q 284 ls (.ref b :: st) P := X_callV (M := mX11_readCell) (MC := mX11_readItem) (As := []) (T := TX11) (dX11_readCell_284) calX11_readItem xw_473 xw_474 xw_475 rfl rfl hP hC hst (fun v P2 h => by cases h.1) (fun q2 P2 h => by obtain ⟨h1, rfl⟩ := h; cases h1; exact Xt_out rfl hq)
theorem dX11_readCell_287 : decode cX11_readCell 287 = .ok (.goto (-20), 3) := by decide +kernel
theorem sX11_readCell_287 (k : X w mX11_readCell d Q 267 ls st P) : X w mX11_readCell d Q 287 ls st P := X_goto (M := mX11_readCell) (dX11_readCell_287) (by decide) k
theorem dX11_readCell_290 : decode cX11_readCell 290 = .ok (.aload_n 0, 1) := by decide +kernel
theorem sX11_readCell_290 {l1 l2 : Option Value} {x : Nat} (k : X w mX11_readCell d Q 291 [some (.ref x), l1, l2] (.ref x :: st) P) : X w mX11_readCell d Q 290 [some (.ref x), l1, l2] st P := X_aload_n (M := mX11_readCell) (dX11_readCell_290) rfl rfl k
theorem dX11_readCell_291 : decode cX11_readCell 291 = .ok (.aload_n 0, 1) := by decide +kernel
theorem sX11_readCell_291 {l1 l2 : Option Value} {x : Nat} (k : X w mX11_readCell d Q 292 [some (.ref x), l1, l2] (.ref x :: st) P) : X w mX11_readCell d Q 291 [some (.ref x), l1, l2] st P := X_aload_n (M := mX11_readCell) (dX11_readCell_291) rfl rfl k
theorem dX11_readCell_292 : decode cX11_readCell 292 = .ok (.getfield 50, 3) := by decide +kernel
theorem sX11_readCell_292 {a : Nat} {fs : List Value} {v : Nat} (hP : P.1 a = some (xO 9 fs)) (hv : fs[16]? = some (.ref v)) (k : X w mX11_readCell d Q 295 ls (.ref v :: st) P) : X w mX11_readCell d Q 292 ls (.ref a :: st) P := X_get (M := mX11_readCell) (j := 16) (T := TX11) (dX11_readCell_292) rfl (by decide) x_in11 xw_417 hP hv k
theorem dX11_readCell_295 : decode cX11_readCell 295 = .ok (.aload_n 0, 1) := by decide +kernel
theorem sX11_readCell_295 {l1 l2 : Option Value} {x : Nat} (k : X w mX11_readCell d Q 296 [some (.ref x), l1, l2] (.ref x :: st) P) : X w mX11_readCell d Q 295 [some (.ref x), l1, l2] st P := X_aload_n (M := mX11_readCell) (dX11_readCell_295) rfl rfl k
theorem dX11_readCell_296 : decode cX11_readCell 296 = .ok (.getfield 157, 3) := by decide +kernel
theorem sX11_readCell_296 {a : Nat} {fs : List Value} {v : Int32} (hP : P.1 a = some (xO 9 fs)) (hv : fs[30]? = some (.int v)) (k : X w mX11_readCell d Q 299 ls (.int v :: st) P) : X w mX11_readCell d Q 296 ls (.ref a :: st) P := X_get (M := mX11_readCell) (j := 30) (T := TX11) (dX11_readCell_296) rfl (by decide) x_in11 xw_469 hP hv k
theorem dX11_readCell_299 : decode cX11_readCell 299 = .ok (.iaload, 1) := by decide +kernel
theorem sX11_readCell_299 {a n : Nat} {f : Nat → Int32} {i : Int32} (hP : P.1 a = some (xA 0 n f)) (hi : vp_in i n) (k : X w mX11_readCell d Q 300 ls (.int (f i.toNatClampNeg) :: st) P) : X w mX11_readCell d Q 299 ls (.int i :: .ref a :: st) P := X_iald (M := mX11_readCell) (dX11_readCell_299) hP hi k
theorem dX11_readCell_300 : decode cX11_readCell 300 = .ok (.ifCond .le 7, 3) := by decide +kernel
theorem sX11_readCell_300 {x : Int32} (kt : x ≤ 0 → X w mX11_readCell d Q 307 ls st P) (kf : ¬ x ≤ 0 → X w mX11_readCell d Q 303 ls st P) : X w mX11_readCell d Q 300 ls (.int x :: st) P := X_if_le (M := mX11_readCell) (dX11_readCell_300) (by decide) kt kf
theorem dX11_readCell_303 : decode cX11_readCell 303 = .ok (.iconst 1, 1) := by decide +kernel
theorem sX11_readCell_303 (k : X w mX11_readCell d Q 304 ls (.int (1 : Int32) :: st) P) : X w mX11_readCell d Q 303 ls st P := X_iconst (M := mX11_readCell) (dX11_readCell_303) (by decide) k
theorem dX11_readCell_304 : decode cX11_readCell 304 = .ok (.goto 4, 3) := by decide +kernel
theorem sX11_readCell_304 (k : X w mX11_readCell d Q 308 ls st P) : X w mX11_readCell d Q 304 ls st P := X_goto (M := mX11_readCell) (dX11_readCell_304) (by decide) k
theorem dX11_readCell_307 : decode cX11_readCell 307 = .ok (.iconst 0, 1) := by decide +kernel
theorem sX11_readCell_307 (k : X w mX11_readCell d Q 308 ls (.int (0 : Int32) :: st) P) : X w mX11_readCell d Q 307 ls st P := X_iconst (M := mX11_readCell) (dX11_readCell_307) (by decide) k
theorem dX11_readCell_308 : decode cX11_readCell 308 = .ok (.invokevirtual 127, 3) := by decide +kernel
theorem sX11_readCell_308_g {b : Nat} {fs : List Value} {a0 : Int32} {Qc : Outcome → xH → Prop} (hst : (st.map fun v => v.category).sum ≤ 8) (hP : P.1 b = some (xO 9 fs)) (hC : xC w d mX11_need [.ref b, .int a0] P Qc) (kr : ∀ v P1, Qc (.returned v) P1 → X w mX11_readCell (d + 1) Q 311 ls (v.toList ++ st) P1) (kt : ∀ q P1, Qc (.threw q) P1 → Xt w mX11_readCell (d + 1) Q 308 ls st P1 q) : X w mX11_readCell (d + 1) Q 308 ls (.int a0 :: .ref b :: st) P := X_callV (M := mX11_readCell) (MC := mX11_need) (As := [.int a0]) (T := TX11) (dX11_readCell_308) calX11_need xw_448 xw_449 xw_450 rfl rfl hP hC hst kr kt
theorem sX11_readCell_308 {b : Nat} {fs : List Value} {a0 : Int32} {P1 : xH} (hst : (st.map fun v => v.category).sum ≤ 8) (hP : P.1 b = some (xO 9 fs)) (hC : xC w d mX11_need [.ref b, .int a0] P (xRet none P1)) (k : X w mX11_readCell (d + 1) Q 311 ls st P1) : X w mX11_readCell (d + 1) Q 308 ls (.int a0 :: .ref b :: st) P := X_callV (M := mX11_readCell) (MC := mX11_need) (As := [.int a0]) (T := TX11) (dX11_readCell_308) calX11_need xw_448 xw_449 xw_450 rfl rfl hP hC hst (fun v P2 h => by obtain ⟨h1, rfl⟩ := h; cases h1; exact k) (fun q P2 h => by cases h.1)
theorem sX11_readCell_308_r {b : Nat} {fs : List Value} {a0 : Int32} {Rp : xH → Prop} (hst : (st.map fun v => v.category).sum ≤ 8) (hP : P.1 b = some (xO 9 fs)) (hC : xC w d mX11_need [.ref b, .int a0] P (xRl none Rp)) (k : ∀ P1, Rp P1 → X w mX11_readCell (d + 1) Q 311 ls st P1) : X w mX11_readCell (d + 1) Q 308 ls (.int a0 :: .ref b :: st) P := X_callV (M := mX11_readCell) (MC := mX11_need) (As := [.int a0]) (T := TX11) (dX11_readCell_308) calX11_need xw_448 xw_449 xw_450 rfl rfl hP hC hst (fun v P2 h => by obtain ⟨h1, hR⟩ := h; cases h1; exact k P2 hR) (fun q P2 h => by cases h.1)
theorem sX11_readCell_308_t {b : Nat} {fs : List Value} {a0 : Int32} {q : Nat} {P1 : xH} (hst : (st.map fun v => v.category).sum ≤ 8) (hP : P.1 b = some (xO 9 fs)) (hC : xC w d mX11_need [.ref b, .int a0] P (xThr q P1)) (hq : Q (.threw q) P1) : X w mX11_readCell (d + 1) Q 308 ls (.int a0 :: .ref b :: st) P := X_callV (M := mX11_readCell) (MC := mX11_need) (As := [.int a0]) (T := TX11) (dX11_readCell_308) calX11_need xw_448 xw_449 xw_450 rfl rfl hP hC hst (fun v P2 h => by cases h.1) (fun q2 P2 h => by obtain ⟨h1, rfl⟩ := h; cases h1; exact Xt_out rfl hq)
theorem dX11_readCell_311 : decode cX11_readCell 311 = .ok (.aload_n 0, 1) := by decide +kernel
theorem sX11_readCell_311 {l1 l2 : Option Value} {x : Nat} (k : X w mX11_readCell d Q 312 [some (.ref x), l1, l2] (.ref x :: st) P) : X w mX11_readCell d Q 311 [some (.ref x), l1, l2] st P := X_aload_n (M := mX11_readCell) (dX11_readCell_311) rfl rfl k
theorem dX11_readCell_312 : decode cX11_readCell 312 = .ok (.bipush 125, 2) := by decide +kernel
theorem sX11_readCell_312 (k : X w mX11_readCell d Q 314 ls (.int (125 : Int32) :: st) P) : X w mX11_readCell d Q 312 ls st P := X_bipush (M := mX11_readCell) (dX11_readCell_312) (by decide) k
theorem dX11_readCell_314 : decode cX11_readCell 314 = .ok (.invokevirtual 145, 3) := by decide +kernel
theorem sX11_readCell_314_g {b : Nat} {fs : List Value} {a0 : Int32} {Qc : Outcome → xH → Prop} (hst : (st.map fun v => v.category).sum ≤ 8) (hP : P.1 b = some (xO 9 fs)) (hC : xC w d mX11_sign [.ref b, .int a0] P Qc) (kr : ∀ v P1, Qc (.returned v) P1 → X w mX11_readCell (d + 1) Q 317 ls (v.toList ++ st) P1) (kt : ∀ q P1, Qc (.threw q) P1 → Xt w mX11_readCell (d + 1) Q 314 ls st P1 q) : X w mX11_readCell (d + 1) Q 314 ls (.int a0 :: .ref b :: st) P := X_callV (M := mX11_readCell) (MC := mX11_sign) (As := [.int a0]) (T := TX11) (dX11_readCell_314) calX11_sign xw_460 xw_461 xw_462 rfl rfl hP hC hst kr kt
theorem sX11_readCell_314 {b : Nat} {fs : List Value} {a0 : Int32} {P1 : xH} (hst : (st.map fun v => v.category).sum ≤ 8) (hP : P.1 b = some (xO 9 fs)) (hC : xC w d mX11_sign [.ref b, .int a0] P (xRet none P1)) (k : X w mX11_readCell (d + 1) Q 317 ls st P1) : X w mX11_readCell (d + 1) Q 314 ls (.int a0 :: .ref b :: st) P := X_callV (M := mX11_readCell) (MC := mX11_sign) (As := [.int a0]) (T := TX11) (dX11_readCell_314) calX11_sign xw_460 xw_461 xw_462 rfl rfl hP hC hst (fun v P2 h => by obtain ⟨h1, rfl⟩ := h; cases h1; exact k) (fun q P2 h => by cases h.1)
theorem sX11_readCell_314_r {b : Nat} {fs : List Value} {a0 : Int32} {Rp : xH → Prop} (hst : (st.map fun v => v.category).sum ≤ 8) (hP : P.1 b = some (xO 9 fs)) (hC : xC w d mX11_sign [.ref b, .int a0] P (xRl none Rp)) (k : ∀ P1, Rp P1 → X w mX11_readCell (d + 1) Q 317 ls st P1) : X w mX11_readCell (d + 1) Q 314 ls (.int a0 :: .ref b :: st) P := X_callV (M := mX11_readCell) (MC := mX11_sign) (As := [.int a0]) (T := TX11) (dX11_readCell_314) calX11_sign xw_460 xw_461 xw_462 rfl rfl hP hC hst (fun v P2 h => by obtain ⟨h1, hR⟩ := h; cases h1; exact k P2 hR) (fun q P2 h => by cases h.1)
theorem sX11_readCell_314_t {b : Nat} {fs : List Value} {a0 : Int32} {q : Nat} {P1 : xH} (hst : (st.map fun v => v.category).sum ≤ 8) (hP : P.1 b = some (xO 9 fs)) (hC : xC w d mX11_sign [.ref b, .int a0] P (xThr q P1)) (hq : Q (.threw q) P1) : X w mX11_readCell (d + 1) Q 314 ls (.int a0 :: .ref b :: st) P := X_callV (M := mX11_readCell) (MC := mX11_sign) (As := [.int a0]) (T := TX11) (dX11_readCell_314) calX11_sign xw_460 xw_461 xw_462 rfl rfl hP hC hst (fun v P2 h => by cases h.1) (fun q2 P2 h => by obtain ⟨h1, rfl⟩ := h; cases h1; exact Xt_out rfl hq)
theorem dX11_readCell_317 : decode cX11_readCell 317 = .ok (.aload_n 0, 1) := by decide +kernel
theorem sX11_readCell_317 {l1 l2 : Option Value} {x : Nat} (k : X w mX11_readCell d Q 318 [some (.ref x), l1, l2] (.ref x :: st) P) : X w mX11_readCell d Q 317 [some (.ref x), l1, l2] st P := X_aload_n (M := mX11_readCell) (dX11_readCell_317) rfl rfl k
theorem dX11_readCell_318 : decode cX11_readCell 318 = .ok (.getfield 35, 3) := by decide +kernel
theorem sX11_readCell_318 {a : Nat} {fs : List Value} {v : Nat} (hP : P.1 a = some (xO 9 fs)) (hv : fs[11]? = some (.ref v)) (k : X w mX11_readCell d Q 321 ls (.ref v :: st) P) : X w mX11_readCell d Q 318 ls (.ref a :: st) P := X_get (M := mX11_readCell) (j := 11) (T := TX11) (dX11_readCell_318) rfl (by decide) x_in11 xw_412 hP hv k
theorem dX11_readCell_321 : decode cX11_readCell 321 = .ok (.aload_n 0, 1) := by decide +kernel
theorem sX11_readCell_321 {l1 l2 : Option Value} {x : Nat} (k : X w mX11_readCell d Q 322 [some (.ref x), l1, l2] (.ref x :: st) P) : X w mX11_readCell d Q 321 [some (.ref x), l1, l2] st P := X_aload_n (M := mX11_readCell) (dX11_readCell_321) rfl rfl k
theorem dX11_readCell_322 : decode cX11_readCell 322 = .ok (.getfield 138, 3) := by decide +kernel
theorem sX11_readCell_322 {a : Nat} {fs : List Value} {v : Int32} (hP : P.1 a = some (xO 9 fs)) (hv : fs[29]? = some (.int v)) (k : X w mX11_readCell d Q 325 ls (.int v :: st) P) : X w mX11_readCell d Q 322 ls (.ref a :: st) P := X_get (M := mX11_readCell) (j := 29) (T := TX11) (dX11_readCell_322) rfl (by decide) x_in11 xw_456 hP hv k
theorem dX11_readCell_325 : decode cX11_readCell 325 = .ok (.dup2, 1) := by decide +kernel
theorem sX11_readCell_325 {i : Int32} {a : Nat} (k : X w mX11_readCell d Q 326 ls (.int i :: .ref a :: .int i :: .ref a :: st) P) : X w mX11_readCell d Q 325 ls (.int i :: .ref a :: st) P := X_dup2 (M := mX11_readCell) (dX11_readCell_325) rfl rfl k
theorem dX11_readCell_326 : decode cX11_readCell 326 = .ok (.iaload, 1) := by decide +kernel
theorem sX11_readCell_326 {a n : Nat} {f : Nat → Int32} {i : Int32} (hP : P.1 a = some (xA 0 n f)) (hi : vp_in i n) (k : X w mX11_readCell d Q 327 ls (.int (f i.toNatClampNeg) :: st) P) : X w mX11_readCell d Q 326 ls (.int i :: .ref a :: st) P := X_iald (M := mX11_readCell) (dX11_readCell_326) hP hi k
theorem dX11_readCell_327 : decode cX11_readCell 327 = .ok (.aload_n 0, 1) := by decide +kernel
theorem sX11_readCell_327 {l1 l2 : Option Value} {x : Nat} (k : X w mX11_readCell d Q 328 [some (.ref x), l1, l2] (.ref x :: st) P) : X w mX11_readCell d Q 327 [some (.ref x), l1, l2] st P := X_aload_n (M := mX11_readCell) (dX11_readCell_327) rfl rfl k
theorem dX11_readCell_328 : decode cX11_readCell 328 = .ok (.getfield 117, 3) := by decide +kernel
theorem sX11_readCell_328 {a : Nat} {fs : List Value} {v : Int32} (hP : P.1 a = some (xO 9 fs)) (hv : fs[28]? = some (.int v)) (k : X w mX11_readCell d Q 331 ls (.int v :: st) P) : X w mX11_readCell d Q 328 ls (.ref a :: st) P := X_get (M := mX11_readCell) (j := 28) (T := TX11) (dX11_readCell_328) rfl (by decide) x_in11 xw_441 hP hv k
theorem dX11_readCell_331 : decode cX11_readCell 331 = .ok (.ifCond .eq 7, 3) := by decide +kernel
theorem sX11_readCell_331 {x : Int32} (kt : x = 0 → X w mX11_readCell d Q 338 ls st P) (kf : ¬ x = 0 → X w mX11_readCell d Q 334 ls st P) : X w mX11_readCell d Q 331 ls (.int x :: st) P := X_if_eq (M := mX11_readCell) (dX11_readCell_331) (by decide) kt kf
theorem dX11_readCell_334 : decode cX11_readCell 334 = .ok (.iconst 1, 1) := by decide +kernel
theorem sX11_readCell_334 (k : X w mX11_readCell d Q 335 ls (.int (1 : Int32) :: st) P) : X w mX11_readCell d Q 334 ls st P := X_iconst (M := mX11_readCell) (dX11_readCell_334) (by decide) k
theorem dX11_readCell_335 : decode cX11_readCell 335 = .ok (.goto 4, 3) := by decide +kernel
theorem sX11_readCell_335 (k : X w mX11_readCell d Q 339 ls st P) : X w mX11_readCell d Q 335 ls st P := X_goto (M := mX11_readCell) (dX11_readCell_335) (by decide) k
theorem dX11_readCell_338 : decode cX11_readCell 338 = .ok (.iconst 0, 1) := by decide +kernel
theorem sX11_readCell_338 (k : X w mX11_readCell d Q 339 ls (.int (0 : Int32) :: st) P) : X w mX11_readCell d Q 338 ls st P := X_iconst (M := mX11_readCell) (dX11_readCell_338) (by decide) k
theorem dX11_readCell_339 : decode cX11_readCell 339 = .ok (.iadd, 1) := by decide +kernel
theorem sX11_readCell_339 {x y : Int32} (k : X w mX11_readCell d Q 340 ls (.int (x + y) :: st) P) : X w mX11_readCell d Q 339 ls (.int y :: .int x :: st) P := X_iadd (M := mX11_readCell) (dX11_readCell_339) k
theorem dX11_readCell_340 : decode cX11_readCell 340 = .ok (.iastore, 1) := by decide +kernel
theorem sX11_readCell_340 {a n : Nat} {f : Nat → Int32} {i x : Int32} (hP : P.1 a = some (xA 0 n f)) (hi : vp_in i n) (k : X w mX11_readCell d Q 341 ls st (xs P a (xA 0 n (upd f i.toNatClampNeg x)))) : X w mX11_readCell d Q 340 ls (.int x :: .int i :: .ref a :: st) P := X_iast (M := mX11_readCell) (dX11_readCell_340) hP hi k
theorem dX11_readCell_341 : decode cX11_readCell 341 = .ok (.return_, 1) := by decide +kernel
theorem sX11_readCell_341 (hq : Q (.returned none) P) : X w mX11_readCell d Q 341 ls [] P := X_vret (M := mX11_readCell) (dX11_readCell_341) rfl hq
end
