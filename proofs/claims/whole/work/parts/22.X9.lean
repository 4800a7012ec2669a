section
variable {w : xWd} {d : Nat} {Q : Outcome → xH → Prop} {ls : List (Option Value)} {st : List Value} {P : xH}
theorem dX8_init_0 : decode cX8_init 0 = .ok (.aload_n 0, 1) := by decide +kernel
theorem sX8_init_0 {x : Nat} (k : X w mX8_init d Q 1 [some (.ref x)] (.ref x :: st) P) : X w mX8_init d Q 0 [some (.ref x)] st P := X_aload_n (M := mX8_init) (dX8_init_0) rfl rfl k
theorem dX8_init_1 : decode cX8_init 1 = .ok (.invokespecial 3, 3) := by decide +kernel
theorem sX8_init_1 {a : Nat} (hst : (st.map fun v => v.category).sum ≤ 8) (k : X w mX8_init d Q 4 ls st P) : X w mX8_init d Q 1 ls (.ref a :: st) P := X_objInit (M := mX8_init) (dX8_init_1) xw_59 xw_20 xw_21 hst k
theorem dX8_init_4 : decode cX8_init 4 = .ok (.aload_n 0, 1) := by decide +kernel
theorem sX8_init_4 {x : Nat} (k : X w mX8_init d Q 5 [some (.ref x)] (.ref x :: st) P) : X w mX8_init d Q 4 [some (.ref x)] st P := X_aload_n (M := mX8_init) (dX8_init_4) rfl rfl k
theorem dX8_init_5 : decode cX8_init 5 = .ok (.bipush 17, 2) := by decide +kernel
theorem sX8_init_5 (k : X w mX8_init d Q 7 ls (.int (17 : Int32) :: st) P) : X w mX8_init d Q 5 ls st P := X_bipush (M := mX8_init) (dX8_init_5) (by decide) k
theorem dX8_init_7 : decode cX8_init 7 = .ok (.newarray .long, 2) := by decide +kernel
theorem sX8_init_7 {n : Int32} {N : Nat} (hn : ¬ n < 0) (hN : n.toNatClampNeg = N) (hb : N ≤ 10000) (hr1 : P.2.1 + 1 ≤ w.z + 601024) (hr2 : P.2.2 + N ≤ 7293034) (k : X w mX8_init d Q 9 ls (.ref P.2.1 :: st) (xal P (xJ N (fun _ => 0)) N)) : X w mX8_init d Q 7 ls (.int n :: st) P := X_newaJ (M := mX8_init) (dX8_init_7) xw_60 hn hN hb hr1 hr2 k
theorem dX8_init_9 : decode cX8_init 9 = .ok (.putfield 9, 3) := by decide +kernel
theorem sX8_init_9 {a : Nat} {fs : List Value} {v : Nat} (hP : P.1 a = some (xO 6 fs)) (hl : 0 < fs.length) (k : X w mX8_init d Q 12 ls st (xs P a (xO 6 (fs.set 0 (.ref v))))) : X w mX8_init d Q 9 ls (.ref v :: .ref a :: st) P := X_putF (M := mX8_init) (j := 0) (T := TX8) (dX8_init_9) rfl (by decide) x_c8 xw_61 rfl rfl rfl hP rfl rfl hl k
theorem dX8_init_12 : decode cX8_init 12 = .ok (.aload_n 0, 1) := by decide +kernel
theorem sX8_init_12 {x : Nat} (k : X w mX8_init d Q 13 [some (.ref x)] (.ref x :: st) P) : X w mX8_init d Q 12 [some (.ref x)] st P := X_aload_n (M := mX8_init) (dX8_init_12) rfl rfl k
theorem dX8_init_13 : decode cX8_init 13 = .ok (.bipush 17, 2) := by decide +kernel
theorem sX8_init_13 (k : X w mX8_init d Q 15 ls (.int (17 : Int32) :: st) P) : X w mX8_init d Q 13 ls st P := X_bipush (M := mX8_init) (dX8_init_13) (by decide) k
theorem dX8_init_15 : decode cX8_init 15 = .ok (.newarray .long, 2) := by decide +kernel
theorem sX8_init_15 {n : Int32} {N : Nat} (hn : ¬ n < 0) (hN : n.toNatClampNeg = N) (hb : N ≤ 10000) (hr1 : P.2.1 + 1 ≤ w.z + 601024) (hr2 : P.2.2 + N ≤ 7293034) (k : X w mX8_init d Q 17 ls (.ref P.2.1 :: st) (xal P (xJ N (fun _ => 0)) N)) : X w mX8_init d Q 15 ls (.int n :: st) P := X_newaJ (M := mX8_init) (dX8_init_15) xw_60 hn hN hb hr1 hr2 k
theorem dX8_init_17 : decode cX8_init 17 = .ok (.putfield 15, 3) := by decide +kernel
theorem sX8_init_17 {a : Nat} {fs : List Value} {v : Nat} (hP : P.1 a = some (xO 6 fs)) (hl : 1 < fs.length) (k : X w mX8_init d Q 20 ls st (xs P a (xO 6 (fs.set 1 (.ref v))))) : X w mX8_init d Q 17 ls (.ref v :: .ref a :: st) P := X_putF (M := mX8_init) (j := 1) (T := TX8) (dX8_init_17) rfl (by decide) x_c8 xw_62 rfl rfl rfl hP rfl rfl hl k
theorem dX8_init_20 : decode cX8_init 20 = .ok (.aload_n 0, 1) := by decide +kernel
theorem sX8_init_20 {x : Nat} (k : X w mX8_init d Q 21 [some (.ref x)] (.ref x :: st) P) : X w mX8_init d Q 20 [some (.ref x)] st P := X_aload_n (M := mX8_init) (dX8_init_20) rfl rfl k
theorem dX8_init_21 : decode cX8_init 21 = .ok (.bipush 17, 2) := by decide +kernel
theorem sX8_init_21 (k : X w mX8_init d Q 23 ls (.int (17 : Int32) :: st) P) : X w mX8_init d Q 21 ls st P := X_bipush (M := mX8_init) (dX8_init_21) (by decide) k
theorem dX8_init_23 : decode cX8_init 23 = .ok (.newarray .long, 2) := by decide +kernel
theorem sX8_init_23 {n : Int32} {N : Nat} (hn : ¬ n < 0) (hN : n.toNatClampNeg = N) (hb : N ≤ 10000) (hr1 : P.2.1 + 1 ≤ w.z + 601024) (hr2 : P.2.2 + N ≤ 7293034) (k : X w mX8_init d Q 25 ls (.ref P.2.1 :: st) (xal P (xJ N (fun _ => 0)) N)) : X w mX8_init d Q 23 ls (.int n :: st) P := X_newaJ (M := mX8_init) (dX8_init_23) xw_60 hn hN hb hr1 hr2 k
theorem dX8_init_25 : decode cX8_init 25 = .ok (.putfield 18, 3) := by decide +kernel
theorem sX8_init_25 {a : Nat} {fs : List Value} {v : Nat} (hP : P.1 a = some (xO 6 fs)) (hl : 2 < fs.length) (k : X w mX8_init d Q 28 ls st (xs P a (xO 6 (fs.set 2 (.ref v))))) : X w mX8_init d Q 25 ls (.ref v :: .ref a :: st) P := X_putF (M := mX8_init) (j := 2) (T := TX8) (dX8_init_25) rfl (by decide) x_c8 xw_63 rfl rfl rfl hP rfl rfl hl k
theorem dX8_init_28 : decode cX8_init 28 = .ok (.aload_n 0, 1) := by decide +kernel
theorem sX8_init_28 {x : Nat} (k : X w mX8_init d Q 29 [some (.ref x)] (.ref x :: st) P) : X w mX8_init d Q 28 [some (.ref x)] st P := X_aload_n (M := mX8_init) (dX8_init_28) rfl rfl k
theorem dX8_init_29 : decode cX8_init 29 = .ok (.bipush 17, 2) := by decide +kernel
theorem sX8_init_29 (k : X w mX8_init d Q 31 ls (.int (17 : Int32) :: st) P) : X w mX8_init d Q 29 ls st P := X_bipush (M := mX8_init) (dX8_init_29) (by decide) k
theorem dX8_init_31 : decode cX8_init 31 = .ok (.newarray .long, 2) := by decide +kernel
theorem sX8_init_31 {n : Int32} {N : Nat} (hn : ¬ n < 0) (hN : n.toNatClampNeg = N) (hb : N ≤ 10000) (hr1 : P.2.1 + 1 ≤ w.z + 601024) (hr2 : P.2.2 + N ≤ 7293034) (k : X w mX8_init d Q 33 ls (.ref P.2.1 :: st) (xal P (xJ N (fun _ => 0)) N)) : X w mX8_init d Q 31 ls (.int n :: st) P := X_newaJ (M := mX8_init) (dX8_init_31) xw_60 hn hN hb hr1 hr2 k
theorem dX8_init_33 : decode cX8_init 33 = .ok (.putfield 21, 3) := by decide +kernel
theorem sX8_init_33 {a : Nat} {fs : List Value} {v : Nat} (hP : P.1 a = some (xO 6 fs)) (hl : 3 < fs.length) (k : X w mX8_init d Q 36 ls st (xs P a (xO 6 (fs.set 3 (.ref v))))) : X w mX8_init d Q 33 ls (.ref v :: .ref a :: st) P := X_putF (M := mX8_init) (j := 3) (T := TX8) (dX8_init_33) rfl (by decide) x_c8 xw_64 rfl rfl rfl hP rfl rfl hl k
theorem dX8_init_36 : decode cX8_init 36 = .ok (.return_, 1) := by decide +kernel
theorem sX8_init_36 (hq : Q (.returned none) P) : X w mX8_init d Q 36 ls [] P := X_vret (M := mX8_init) (dX8_init_36) rfl hq
theorem dX8_begin_0 : decode cX8_begin 0 = .ok (.aload_n 0, 1) := by decide +kernel
theorem sX8_begin_0 {x : Nat} (k : X w mX8_begin d Q 1 [some (.ref x)] (.ref x :: st) P) : X w mX8_begin d Q 0 [some (.ref x)] st P := X_aload_n (M := mX8_begin) (dX8_begin_0) rfl rfl k
theorem dX8_begin_1 : decode cX8_begin 1 = .ok (.iconst 0, 1) := by decide +kernel
theorem sX8_begin_1 (k : X w mX8_begin d Q 2 ls (.int (0 : Int32) :: st) P) : X w mX8_begin d Q 1 ls st P := X_iconst (M := mX8_begin) (dX8_begin_1) (by decide) k
theorem dX8_begin_2 : decode cX8_begin 2 = .ok (.putfield 24, 3) := by decide +kernel
theorem sX8_begin_2 {a : Nat} {fs : List Value} {v : Int32} (hP : P.1 a = some (xO 6 fs)) (hl : 4 < fs.length) (k : X w mX8_begin d Q 5 ls st (xs P a (xO 6 (fs.set 4 (.int v))))) : X w mX8_begin d Q 2 ls (.int v :: .ref a :: st) P := X_put (M := mX8_begin) (j := 4) (T := TX8) (dX8_begin_2) rfl (by decide) x_c8 xw_65 rfl hP rfl rfl hl k
theorem dX8_begin_5 : decode cX8_begin 5 = .ok (.aload_n 0, 1) := by decide +kernel
theorem sX8_begin_5 {x : Nat} (k : X w mX8_begin d Q 6 [some (.ref x)] (.ref x :: st) P) : X w mX8_begin d Q 5 [some (.ref x)] st P := X_aload_n (M := mX8_begin) (dX8_begin_5) rfl rfl k
theorem dX8_begin_6 : decode cX8_begin 6 = .ok (.invokevirtual 28, 3) := by decide +kernel
theorem sX8_begin_6_g {b : Nat} {fs : List Value}  {Qc : Outcome → xH → Prop} (hst : (st.map fun v => v.category).sum ≤ 8) (hP : P.1 b = some (xO 6 fs)) (hC : xC w d mX8_clearLevel [.ref b] P Qc) (kr : ∀ v P1, Qc (.returned v) P1 → X w mX8_begin (d + 1) Q 9 ls (v.toList ++ st) P1) (kt : ∀ q P1, Qc (.threw q) P1 → Xt w mX8_begin (d + 1) Q 6 ls st P1 q) : X w mX8_begin (d + 1) Q 6 ls (.ref b :: st) P := X_callV (M := mX8_begin) (MC := mX8_clearLevel) (As := []) (T := TX8) (dX8_begin_6) calX8_clearLevel xw_66 xw_67 xw_68 rfl rfl hP hC hst kr kt
theorem sX8_begin_6 {b : Nat} {fs : List Value}  {P1 : xH} (hst : (st.map fun v => v.category).sum ≤ 8) (hP : P.1 b = some (xO 6 fs)) (hC : xC w d mX8_clearLevel [.ref b] P (xRet none P1)) (k : X w mX8_begin (d + 1) Q 9 ls st P1) : X w mX8_begin (d + 1) Q 6 ls (.ref b :: st) P := X_callV (M := mX8_begin) (MC := mX8_clearLevel) (As := []) (T := TX8) (dX8_begin_6) calX8_clearLevel xw_66 xw_67 xw_68 rfl rfl hP hC hst (fun v P2 h => by obtain ⟨h1, rfl⟩ := h; cases h1; exact k) (fun q P2 h => by cases h.1)
theorem sX8_begin_6_r {b : Nat} {fs : List Value}  {Rp : xH → Prop} (hst : (st.map fun v => v.category).sum ≤ 8) (hP : P.1 b = some (xO 6 fs)) (hC : xC w d mX8_clearLevel [.ref b] P (xRl none Rp)) (k : ∀ P1, Rp P1 → X w mX8_begin (d + 1) Q 9 ls st P1) : X w mX8_begin (d + 1) Q 6 ls (.ref b :: st) P := X_callV (M := mX8_begin) (MC := mX8_clearLevel) (As := []) (T := TX8) (dX8_begin_6) calX8_clearLevel xw_66 xw_67 xw_68 rfl rfl hP hC hst (fun v P2 h => by obtain ⟨h1, hR⟩ := h; cases h1; exact k P2 hR) (fun q P2 h => by cases h.1)
theorem sX8_begin_6_t {b : Nat} {fs : List Value}  {q : Nat} {P1 : xH} (hst : (st.map fun v => v.category).sum ≤ 8) (hP : P.1 b = some (xO 6 fs)) (hC : xC w d mX8_clearLevel [.ref b] P (xThr q P1)) (hq : Q (.threw q) P1) : X w mX8_begin (d + 1) Q 6 ls (.ref b :: st) P := X_callV (M := mX8_begin) (MC := mX8_clearLevel) (As := []) (T := TX8) (dX8_begin_6) calX8_clearLevel xw_66 xw_67 xw_68 rfl rfl hP hC hst (fun v P2 h => by cases h.1) (fun q2 P2 h => by obtain ⟨h1, rfl⟩ := h; cases h1; exact Xt_out rfl hq)
theorem dX8_begin_9 : decode cX8_begin 9 = .ok (.return_, 1) := by decide +kernel
theorem sX8_begin_9 (hq : Q (.returned none) P) : X w mX8_begin d Q 9 ls [] P := X_vret (M := mX8_begin) (dX8_begin_9) rfl hq
theorem dX8_openBracket_0 : decode cX8_openBracket 0 = .ok (.aload_n 0, 1) := by decide +kernel
theorem sX8_openBracket_0 {x : Nat} (k : X w mX8_openBracket d Q 1 [some (.ref x)] (.ref x :: st) P) : X w mX8_openBracket d Q 0 [some (.ref x)] st P := X_aload_n (M := mX8_openBracket) (dX8_openBracket_0) rfl rfl k
theorem dX8_openBracket_1 : decode cX8_openBracket 1 = .ok (.dup, 1) := by decide +kernel
theorem sX8_openBracket_1 {v : Value} (hv : v.category = 1) (k : X w mX8_openBracket d Q 2 ls (v :: v :: st) P) : X w mX8_openBracket d Q 1 ls (v :: st) P := X_dup (M := mX8_openBracket) (dX8_openBracket_1) hv k
theorem dX8_openBracket_2 : decode cX8_openBracket 2 = .ok (.getfield 24, 3) := by decide +kernel
theorem sX8_openBracket_2 {a : Nat} {fs : List Value} {v : Int32} (hP : P.1 a = some (xO 6 fs)) (hv : fs[4]? = some (.int v)) (k : X w mX8_openBracket d Q 5 ls (.int v :: st) P) : X w mX8_openBracket d Q 2 ls (.ref a :: st) P := X_get (M := mX8_openBracket) (j := 4) (T := TX8) (dX8_openBracket_2) rfl (by decide) x_in8 xw_65 hP hv k
theorem dX8_openBracket_5 : decode cX8_openBracket 5 = .ok (.iconst 1, 1) := by decide +kernel
theorem sX8_openBracket_5 (k : X w mX8_openBracket d Q 6 ls (.int (1 : Int32) :: st) P) : X w mX8_openBracket d Q 5 ls st P := X_iconst (M := mX8_openBracket) (dX8_openBracket_5) (by decide) k
theorem dX8_openBracket_6 : decode cX8_openBracket 6 = .ok (.iadd, 1) := by decide +kernel
theorem sX8_openBracket_6 {x y : Int32} (k : X w mX8_openBracket d Q 7 ls (.int (x + y) :: st) P) : X w mX8_openBracket d Q 6 ls (.int y :: .int x :: st) P := X_iadd (M := mX8_openBracket) (dX8_openBracket_6) k
theorem dX8_openBracket_7 : decode cX8_openBracket 7 = .ok (.putfield 24, 3) := by decide +kernel
theorem sX8_openBracket_7 {a : Nat} {fs : List Value} {v : Int32} (hP : P.1 a = some (xO 6 fs)) (hl : 4 < fs.length) (k : X w mX8_openBracket d Q 10 ls st (xs P a (xO 6 (fs.set 4 (.int v))))) : X w mX8_openBracket d Q 7 ls (.int v :: .ref a :: st) P := X_put (M := mX8_openBracket) (j := 4) (T := TX8) (dX8_openBracket_7) rfl (by decide) x_c8 xw_65 rfl hP rfl rfl hl k
theorem dX8_openBracket_10 : decode cX8_openBracket 10 = .ok (.aload_n 0, 1) := by decide +kernel
theorem sX8_openBracket_10 {x : Nat} (k : X w mX8_openBracket d Q 11 [some (.ref x)] (.ref x :: st) P) : X w mX8_openBracket d Q 10 [some (.ref x)] st P := X_aload_n (M := mX8_openBracket) (dX8_openBracket_10) rfl rfl k
theorem dX8_openBracket_11 : decode cX8_openBracket 11 = .ok (.invokevirtual 28, 3) := by decide +kernel
theorem sX8_openBracket_11_g {b : Nat} {fs : List Value}  {Qc : Outcome → xH → Prop} (hst : (st.map fun v => v.category).sum ≤ 8) (hP : P.1 b = some (xO 6 fs)) (hC : xC w d mX8_clearLevel [.ref b] P Qc) (kr : ∀ v P1, Qc (.returned v) P1 → X w mX8_openBracket (d + 1) Q 14 ls (v.toList ++ st) P1) (kt : ∀ q P1, Qc (.threw q) P1 → Xt w mX8_openBracket (d + 1) Q 11 ls st P1 q) : X w mX8_openBracket (d + 1) Q 11 ls (.ref b :: st) P := X_callV (M := mX8_openBracket) (MC := mX8_clearLevel) (As := []) (T := TX8) (dX8_openBracket_11) calX8_clearLevel xw_66 xw_67 xw_68 rfl rfl hP hC hst kr kt
theorem sX8_openBracket_11 {b : Nat} {fs : List Value}  {P1 : xH} (hst : (st.map fun v => v.category).sum ≤ 8) (hP : P.1 b = some (xO 6 fs)) (hC : xC w d mX8_clearLevel [.ref b] P (xRet none P1)) (k : X w mX8_openBracket (d + 1) Q 14 ls st P1) : X w mX8_openBracket (d + 1) Q 11 ls (.ref b :: st) P := X_callV (M := mX8_openBracket) (MC := mX8_clearLevel) (As := []) (T := TX8) (dX8_openBracket_11) calX8_clearLevel xw_66 xw_67 xw_68 rfl rfl hP hC hst (fun v P2 h => by obtain ⟨h1, rfl⟩ := h; cases h1; exact k) (fun q P2 h => by cases h.1)
theorem sX8_openBracket_11_r {b : Nat} {fs : List Value}  {Rp : xH → Prop} (hst : (st.map fun v => v.category).sum ≤ 8) (hP : P.1 b = some (xO 6 fs)) (hC : xC w d mX8_clearLevel [.ref b] P (xRl none Rp)) (k : ∀ P1, Rp P1 → X w mX8_openBracket (d + 1) Q 14 ls st P1) : X w mX8_openBracket (d + 1) Q 11 ls (.ref b :: st) P := X_callV (M := mX8_openBracket) (MC := mX8_clearLevel) (As := []) (T := TX8) (dX8_openBracket_11) calX8_clearLevel xw_66 xw_67 xw_68 rfl rfl hP hC hst (fun v P2 h => by obtain ⟨h1, hR⟩ := h; cases h1; exact k P2 hR) (fun q P2 h => by cases h.1)
theorem sX8_openBracket_11_t {b : Nat} {fs : List Value}  {q : Nat} {P1 : xH} (hst : (st.map fun v => v.category).sum ≤ 8) (hP : P.1 b = some (xO 6 fs)) (hC : xC w d mX8_clearLevel [.ref b] P (xThr q P1)) (hq : Q (.threw q) P1) : X w mX8_openBracket (d + 1) Q 11 ls (.ref b :: st) P := X_callV (M := mX8_openBracket) (MC := mX8_clearLevel) (As := []) (T := TX8) (dX8_openBracket_11) calX8_clearLevel xw_66 xw_67 xw_68 rfl rfl hP hC hst (fun v P2 h => by cases h.1) (fun q2 P2 h => by obtain ⟨h1, rfl⟩ := h; cases h1; exact Xt_out rfl hq)
theorem dX8_openBracket_14 : decode cX8_openBracket 14 = .ok (.return_, 1) := by decide +kernel
theorem sX8_openBracket_14 (hq : Q (.returned none) P) : X w mX8_openBracket d Q 14 ls [] P := X_vret (M := mX8_openBracket) (dX8_openBracket_14) rfl hq
theorem dX8_closeBracket_0 : decode cX8_closeBracket 0 = .ok (.aload_n 0, 1) := by decide +kernel
theorem sX8_closeBracket_0 {l1 l2 : Option Value} {x : Nat} (k : X w mX8_closeBracket d Q 1 [some (.ref x), l1, l2] (.ref x :: st) P) : X w mX8_closeBracket d Q 0 [some (.ref x), l1, l2] st P := X_aload_n (M := mX8_closeBracket) (dX8_closeBracket_0) rfl rfl k
theorem dX8_closeBracket_1 : decode cX8_closeBracket 1 = .ok (.invokevirtual 31, 3) := by decide +kernel
theorem sX8_closeBracket_1_g {b : Nat} {fs : List Value}  {Qc : Outcome → xH → Prop} (hst : (st.map fun v => v.category).sum ≤ 8) (hP : P.1 b = some (xO 6 fs)) (hC : xC w d mX8_total [.ref b] P Qc) (kr : ∀ v P1, Qc (.returned v) P1 → X w mX8_closeBracket (d + 1) Q 4 ls (v.toList ++ st) P1) (kt : ∀ q P1, Qc (.threw q) P1 → Xt w mX8_closeBracket (d + 1) Q 1 ls st P1 q) : X w mX8_closeBracket (d + 1) Q 1 ls (.ref b :: st) P := X_callV (M := mX8_closeBracket) (MC := mX8_total) (As := []) (T := TX8) (dX8_closeBracket_1) calX8_total xw_69 xw_70 xw_71 rfl rfl hP hC hst kr kt
theorem sX8_closeBracket_1 {b : Nat} {fs : List Value}  {r : Int64} {P1 : xH} (hst : (st.map fun v => v.category).sum ≤ 8) (hP : P.1 b = some (xO 6 fs)) (hC : xC w d mX8_total [.ref b] P (xRet (some (.long r)) P1)) (k : X w mX8_closeBracket (d + 1) Q 4 ls (.long r :: st) P1) : X w mX8_closeBracket (d + 1) Q 1 ls (.ref b :: st) P := X_callV (M := mX8_closeBracket) (MC := mX8_total) (As := []) (T := TX8) (dX8_closeBracket_1) calX8_total xw_69 xw_70 xw_71 rfl rfl hP hC hst (fun v P2 h => by obtain ⟨h1, rfl⟩ := h; cases h1; exact k) (fun q P2 h => by cases h.1)
theorem sX8_closeBracket_1_r {b : Nat} {fs : List Value}  {r : Int64} {Rp : xH → Prop} (hst : (st.map fun v => v.category).sum ≤ 8) (hP : P.1 b = some (xO 6 fs)) (hC : xC w d mX8_total [.ref b] P (xRl (some (.long r)) Rp)) (k : ∀ P1, Rp P1 → X w mX8_closeBracket (d + 1) Q 4 ls (.long r :: st) P1) : X w mX8_closeBracket (d + 1) Q 1 ls (.ref b :: st) P := X_callV (M := mX8_closeBracket) (MC := mX8_total) (As := []) (T := TX8) (dX8_closeBracket_1) calX8_total xw_69 xw_70 xw_71 rfl rfl hP hC hst (fun v P2 h => by obtain ⟨h1, hR⟩ := h; cases h1; exact k P2 hR) (fun q P2 h => by cases h.1)
theorem sX8_closeBracket_1_t {b : Nat} {fs : List Value}  {q : Nat} {P1 : xH} (hst : (st.map fun v => v.category).sum ≤ 8) (hP : P.1 b = some (xO 6 fs)) (hC : xC w d mX8_total [.ref b] P (xThr q P1)) (hq : Q (.threw q) P1) : X w mX8_closeBracket (d + 1) Q 1 ls (.ref b :: st) P := X_callV (M := mX8_closeBracket) (MC := mX8_total) (As := []) (T := TX8) (dX8_closeBracket_1) calX8_total xw_69 xw_70 xw_71 rfl rfl hP hC hst (fun v P2 h => by cases h.1) (fun q2 P2 h => by obtain ⟨h1, rfl⟩ := h; cases h1; exact Xt_out rfl hq)
theorem dX8_closeBracket_4 : decode cX8_closeBracket 4 = .ok (.lstore_n 1, 1) := by decide +kernel
theorem sX8_closeBracket_4 {l0 l1 l2 : Option Value} {x : Int64} (hn : xnl l0 = true) (k : X w mX8_closeBracket d Q 5 [l0, some (.long x), none] st P) : X w mX8_closeBracket d Q 4 [l0, l1, l2] (.long x :: st) P := X_lstore_n (M := mX8_closeBracket) (dX8_closeBracket_4) rfl (by decide) rfl (xnl_p (ls := [l0, l1, l2]) (j := 0) rfl hn) k
theorem dX8_closeBracket_5 : decode cX8_closeBracket 5 = .ok (.aload_n 0, 1) := by decide +kernel
theorem sX8_closeBracket_5 {l1 l2 : Option Value} {x : Nat} (k : X w mX8_closeBracket d Q 6 [some (.ref x), l1, l2] (.ref x :: st) P) : X w mX8_closeBracket d Q 5 [some (.ref x), l1, l2] st P := X_aload_n (M := mX8_closeBracket) (dX8_closeBracket_5) rfl rfl k
theorem dX8_closeBracket_6 : decode cX8_closeBracket 6 = .ok (.dup, 1) := by decide +kernel
theorem sX8_closeBracket_6 {v : Value} (hv : v.category = 1) (k : X w mX8_closeBracket d Q 7 ls (v :: v :: st) P) : X w mX8_closeBracket d Q 6 ls (v :: st) P := X_dup (M := mX8_closeBracket) (dX8_closeBracket_6) hv k
theorem dX8_closeBracket_7 : decode cX8_closeBracket 7 = .ok (.getfield 24, 3) := by decide +kernel
theorem sX8_closeBracket_7 {a : Nat} {fs : List Value} {v : Int32} (hP : P.1 a = some (xO 6 fs)) (hv : fs[4]? = some (.int v)) (k : X w mX8_closeBracket d Q 10 ls (.int v :: st) P) : X w mX8_closeBracket d Q 7 ls (.ref a :: st) P := X_get (M := mX8_closeBracket) (j := 4) (T := TX8) (dX8_closeBracket_7) rfl (by decide) x_in8 xw_65 hP hv k
theorem dX8_closeBracket_10 : decode cX8_closeBracket 10 = .ok (.iconst 1, 1) := by decide +kernel
theorem sX8_closeBracket_10 (k : X w mX8_closeBracket d Q 11 ls (.int (1 : Int32) :: st) P) : X w mX8_closeBracket d Q 10 ls st P := X_iconst (M := mX8_closeBracket) (dX8_closeBracket_10) (by decide) k
theorem dX8_closeBracket_11 : decode cX8_closeBracket 11 = .ok (.isub, 1) := by decide +kernel
theorem sX8_closeBracket_11 {x y : Int32} (k : X w mX8_closeBracket d Q 12 ls (.int (x - y) :: st) P) : X w mX8_closeBracket d Q 11 ls (.int y :: .int x :: st) P := X_isub (M := mX8_closeBracket) (dX8_closeBracket_11) k
theorem dX8_closeBracket_12 : decode cX8_closeBracket 12 = .ok (.putfield 24, 3) := by decide +kernel
theorem sX8_closeBracket_12 {a : Nat} {fs : List Value} {v : Int32} (hP : P.1 a = some (xO 6 fs)) (hl : 4 < fs.length) (k : X w mX8_closeBracket d Q 15 ls st (xs P a (xO 6 (fs.set 4 (.int v))))) : X w mX8_closeBracket d Q 12 ls (.int v :: .ref a :: st) P := X_put (M := mX8_closeBracket) (j := 4) (T := TX8) (dX8_closeBracket_12) rfl (by decide) x_c8 xw_65 rfl hP rfl rfl hl k
theorem dX8_closeBracket_15 : decode cX8_closeBracket 15 = .ok (.aload_n 0, 1) := by decide +kernel
theorem sX8_closeBracket_15 {l1 l2 : Option Value} {x : Nat} (k : X w mX8_closeBracket d Q 16 [some (.ref x), l1, l2] (.ref x :: st) P) : X w mX8_closeBracket d Q 15 [some (.ref x), l1, l2] st P := X_aload_n (M := mX8_closeBracket) (dX8_closeBracket_15) rfl rfl k
theorem dX8_closeBracket_16 : decode cX8_closeBracket 16 = .ok (.lload_n 1, 1) := by decide +kernel
theorem sX8_closeBracket_16 {l0 l2 : Option Value} {x : Int64} (k : X w mX8_closeBracket d Q 17 [l0, some (.long x), l2] (.long x :: st) P) : X w mX8_closeBracket d Q 16 [l0, some (.long x), l2] st P := X_lload_n (M := mX8_closeBracket) (dX8_closeBracket_16) rfl rfl k
theorem dX8_closeBracket_17 : decode cX8_closeBracket 17 = .ok (.invokevirtual 35, 3) := by decide +kernel
theorem sX8_closeBracket_17_g {b : Nat} {fs : List Value} {a0 : Int64} {Qc : Outcome → xH → Prop} (hst : (st.map fun v => v.category).sum ≤ 8) (hP : P.1 b = some (xO 6 fs)) (hC : xC w d mX8_put [.ref b, .long a0] P Qc) (kr : ∀ v P1, Qc (.returned v) P1 → X w mX8_closeBracket (d + 1) Q 20 ls (v.toList ++ st) P1) (kt : ∀ q P1, Qc (.threw q) P1 → Xt w mX8_closeBracket (d + 1) Q 17 ls st P1 q) : X w mX8_closeBracket (d + 1) Q 17 ls (.long a0 :: .ref b :: st) P := X_callV (M := mX8_closeBracket) (MC := mX8_put) (As := [.long a0]) (T := TX8) (dX8_closeBracket_17) calX8_put xw_72 xw_73 xw_74 rfl rfl hP hC hst kr kt
theorem sX8_closeBracket_17 {b : Nat} {fs : List Value} {a0 : Int64} {P1 : xH} (hst : (st.map fun v => v.category).sum ≤ 8) (hP : P.1 b = some (xO 6 fs)) (hC : xC w d mX8_put [.ref b, .long a0] P (xRet none P1)) (k : X w mX8_closeBracket (d + 1) Q 20 ls st P1) : X w mX8_closeBracket (d + 1) Q 17 ls (.long a0 :: .ref b :: st) P := X_callV (M := mX8_closeBracket) (MC := mX8_put) (As := [.long a0]) (T := TX8) (dX8_closeBracket_17) calX8_put xw_72 xw_73 xw_74 rfl rfl hP hC hst (fun v P2 h => by obtain ⟨h1, rfl⟩ := h; cases h1; exact k) (fun q P2 h => by cases h.1)
theorem sX8_closeBracket_17_r {b : Nat} {fs : List Value} {a0 : Int64} {Rp : xH → Prop} (hst : (st.map fun v => v.category).sum ≤ 8) (hP : P.1 b = some (xO 6 fs)) (hC : xC w d mX8_put [.ref b, .long a0] P (xRl none Rp)) (k : ∀ P1, Rp P1 → X w mX8_closeBracket (d + 1) Q 20 ls st P1) : X w mX8_closeBracket (d + 1) Q 17 ls (.long a0 :: .ref b :: st) P := X_callV (M := mX8_closeBracket) (MC := mX8_put) (As := [.long a0]) (T := TX8) (dX8_closeBracket_17) calX8_put xw_72 xw_73 xw_74 rfl rfl hP hC hst (fun v P2 h => by obtain ⟨h1, hR⟩ := h; cases h1; exact k P2 hR) (fun q P2 h => by cases h.1)
theorem sX8_closeBracket_17_t {b : Nat} {fs : List Value} {a0 : Int64} {q : Nat} {P1 : xH} (hst : (st.map fun v => v.category).sum ≤ 8) (hP : P.1 b = some (xO 6 fs)) (hC : xC w d mX8_put [.ref b, .long a0] P (xThr q P1)) (hq : Q (.threw q) P1) : X w mX8_closeBracket (d + 1) Q 17 ls (.long a0 :: .ref b :: st) P := X_callV (M := mX8_closeBracket) (MC := mX8_put) (As := [.long a0]) (T := TX8) (dX8_closeBracket_17) calX8_put xw_72 xw_73 xw_74 rfl rfl hP hC hst (fun v P2 h => by cases h.1) (fun q2 P2 h => by obtain ⟨h1, rfl⟩ := h; cases h1; exact Xt_out rfl hq)
theorem dX8_closeBracket_20 : decode cX8_closeBracket 20 = .ok (.return_, 1) := by decide +kernel
theorem sX8_closeBracket_20 (hq : Q (.returned none) P) : X w mX8_closeBracket d Q 20 ls [] P := X_vret (M := mX8_closeBracket) (dX8_closeBracket_20) rfl hq
theorem dX8_turn_0 : decode cX8_turn 0 = .ok (.aload_n 0, 1) := by decide +kernel
theorem sX8_turn_0 {x : Nat} (k : X w mX8_turn d Q 1 [some (.ref x)] (.ref x :: st) P) : X w mX8_turn d Q 0 [some (.ref x)] st P := X_aload_n (M := mX8_turn) (dX8_turn_0) rfl rfl k
theorem dX8_turn_1 : decode cX8_turn 1 = .ok (.getfield 21, 3) := by decide +kernel
theorem sX8_turn_1 {a : Nat} {fs : List Value} {v : Nat} (hP : P.1 a = some (xO 6 fs)) (hv : fs[3]? = some (.ref v)) (k : X w mX8_turn d Q 4 ls (.ref v :: st) P) : X w mX8_turn d Q 1 ls (.ref a :: st) P := X_get (M := mX8_turn) (j := 3) (T := TX8) (dX8_turn_1) rfl (by decide) x_in8 xw_64 hP hv k
theorem dX8_turn_4 : decode cX8_turn 4 = .ok (.aload_n 0, 1) := by decide +kernel
theorem sX8_turn_4 {x : Nat} (k : X w mX8_turn d Q 5 [some (.ref x)] (.ref x :: st) P) : X w mX8_turn d Q 4 [some (.ref x)] st P := X_aload_n (M := mX8_turn) (dX8_turn_4) rfl rfl k
theorem dX8_turn_5 : decode cX8_turn 5 = .ok (.getfield 24, 3) := by decide +kernel
theorem sX8_turn_5 {a : Nat} {fs : List Value} {v : Int32} (hP : P.1 a = some (xO 6 fs)) (hv : fs[4]? = some (.int v)) (k : X w mX8_turn d Q 8 ls (.int v :: st) P) : X w mX8_turn d Q 5 ls (.ref a :: st) P := X_get (M := mX8_turn) (j := 4) (T := TX8) (dX8_turn_5) rfl (by decide) x_in8 xw_65 hP hv k
theorem dX8_turn_8 : decode cX8_turn 8 = .ok (.aload_n 0, 1) := by decide +kernel
theorem sX8_turn_8 {x : Nat} (k : X w mX8_turn d Q 9 [some (.ref x)] (.ref x :: st) P) : X w mX8_turn d Q 8 [some (.ref x)] st P := X_aload_n (M := mX8_turn) (dX8_turn_8) rfl rfl k
theorem dX8_turn_9 : decode cX8_turn 9 = .ok (.getfield 21, 3) := by decide +kernel
theorem sX8_turn_9 {a : Nat} {fs : List Value} {v : Nat} (hP : P.1 a = some (xO 6 fs)) (hv : fs[3]? = some (.ref v)) (k : X w mX8_turn d Q 12 ls (.ref v :: st) P) : X w mX8_turn d Q 9 ls (.ref a :: st) P := X_get (M := mX8_turn) (j := 3) (T := TX8) (dX8_turn_9) rfl (by decide) x_in8 xw_64 hP hv k
theorem dX8_turn_12 : decode cX8_turn 12 = .ok (.aload_n 0, 1) := by decide +kernel
theorem sX8_turn_12 {x : Nat} (k : X w mX8_turn d Q 13 [some (.ref x)] (.ref x :: st) P) : X w mX8_turn d Q 12 [some (.ref x)] st P := X_aload_n (M := mX8_turn) (dX8_turn_12) rfl rfl k
theorem dX8_turn_13 : decode cX8_turn 13 = .ok (.getfield 24, 3) := by decide +kernel
theorem sX8_turn_13 {a : Nat} {fs : List Value} {v : Int32} (hP : P.1 a = some (xO 6 fs)) (hv : fs[4]? = some (.int v)) (k : X w mX8_turn d Q 16 ls (.int v :: st) P) : X w mX8_turn d Q 13 ls (.ref a :: st) P := X_get (M := mX8_turn) (j := 4) (T := TX8) (dX8_turn_13) rfl (by decide) x_in8 xw_65 hP hv k
theorem dX8_turn_16 : decode cX8_turn 16 = .ok (.laload, 1) := by decide +kernel
theorem sX8_turn_16 {a n : Nat} {f : Nat → Int64} {i : Int32} (hP : P.1 a = some (xJ n f)) (hi : vp_in i n) (k : X w mX8_turn d Q 17 ls (.long (f i.toNatClampNeg) :: st) P) : X w mX8_turn d Q 16 ls (.int i :: .ref a :: st) P := X_lald (M := mX8_turn) (dX8_turn_16) hP hi k
theorem dX8_turn_17 : decode cX8_turn 17 = .ok (.ldc2_w 39, 3) := by decide +kernel
theorem sX8_turn_17 (k : X w mX8_turn d Q 20 ls (.long (-1 : Int64) :: st) P) : X w mX8_turn d Q 17 ls st P := X_ldc2 (M := mX8_turn) (dX8_turn_17) xw_75 k
theorem dX8_turn_20 : decode cX8_turn 20 = .ok (.lxor, 1) := by decide +kernel
theorem sX8_turn_20 {x y : Int64} (k : X w mX8_turn d Q 21 ls (.long (x ^^^ y) :: st) P) : X w mX8_turn d Q 20 ls (.long y :: .long x :: st) P := X_lxor (M := mX8_turn) (dX8_turn_20) k
theorem dX8_turn_21 : decode cX8_turn 21 = .ok (.lastore, 1) := by decide +kernel
theorem sX8_turn_21 {a n : Nat} {f : Nat → Int64} {i : Int32} {x : Int64} (hP : P.1 a = some (xJ n f)) (hi : vp_in i n) (k : X w mX8_turn d Q 22 ls st (xs P a (xJ n (vp_updL f i.toNatClampNeg x)))) : X w mX8_turn d Q 21 ls (.long x :: .int i :: .ref a :: st) P := X_last (M := mX8_turn) (dX8_turn_21) hP hi k
theorem dX8_turn_22 : decode cX8_turn 22 = .ok (.return_, 1) := by decide +kernel
theorem sX8_turn_22 (hq : Q (.returned none) P) : X w mX8_turn d Q 22 ls [] P := X_vret (M := mX8_turn) (dX8_turn_22) rfl hq
theorem dX8_put_0 : decode cX8_put 0 = .ok (.aload_n 0, 1) := by decide +kernel
theorem sX8_put_0 {l1 l2 : Option Value} {x : Nat} (k : X w mX8_put d Q 1 [some (.ref x), l1, l2] (.ref x :: st) P) : X w mX8_put d Q 0 [some (.ref x), l1, l2] st P := X_aload_n (M := mX8_put) (dX8_put_0) rfl rfl k
theorem dX8_put_1 : decode cX8_put 1 = .ok (.getfield 18, 3) := by decide +kernel
theorem sX8_put_1 {a : Nat} {fs : List Value} {v : Nat} (hP : P.1 a = some (xO 6 fs)) (hv : fs[2]? = some (.ref v)) (k : X w mX8_put d Q 4 ls (.ref v :: st) P) : X w mX8_put d Q 1 ls (.ref a :: st) P := X_get (M := mX8_put) (j := 2) (T := TX8) (dX8_put_1) rfl (by decide) x_in8 xw_63 hP hv k
theorem dX8_put_4 : decode cX8_put 4 = .ok (.aload_n 0, 1) := by decide +kernel
theorem sX8_put_4 {l1 l2 : Option Value} {x : Nat} (k : X w mX8_put d Q 5 [some (.ref x), l1, l2] (.ref x :: st) P) : X w mX8_put d Q 4 [some (.ref x), l1, l2] st P := X_aload_n (M := mX8_put) (dX8_put_4) rfl rfl k
theorem dX8_put_5 : decode cX8_put 5 = .ok (.getfield 24, 3) := by decide +kernel
theorem sX8_put_5 {a : Nat} {fs : List Value} {v : Int32} (hP : P.1 a = some (xO 6 fs)) (hv : fs[4]? = some (.int v)) (k : X w mX8_put d Q 8 ls (.int v :: st) P) : X w mX8_put d Q 5 ls (.ref a :: st) P := X_get (M := mX8_put) (j := 4) (T := TX8) (dX8_put_5) rfl (by decide) x_in8 xw_65 hP hv k
theorem dX8_put_8 : decode cX8_put 8 = .ok (.dup2, 1) := by decide +kernel
theorem sX8_put_8 {i : Int32} {a : Nat} (k : X w mX8_put d Q 9 ls (.int i :: .ref a :: .int i :: .ref a :: st) P) : X w mX8_put d Q 8 ls (.int i :: .ref a :: st) P := X_dup2 (M := mX8_put) (dX8_put_8) rfl rfl k
theorem dX8_put_9 : decode cX8_put 9 = .ok (.laload, 1) := by decide +kernel
theorem sX8_put_9 {a n : Nat} {f : Nat → Int64} {i : Int32} (hP : P.1 a = some (xJ n f)) (hi : vp_in i n) (k : X w mX8_put d Q 10 ls (.long (f i.toNatClampNeg) :: st) P) : X w mX8_put d Q 9 ls (.int i :: .ref a :: st) P := X_lald (M := mX8_put) (dX8_put_9) hP hi k
theorem dX8_put_10 : decode cX8_put 10 = .ok (.lload_n 1, 1) := by decide +kernel
theorem sX8_put_10 {l0 l2 : Option Value} {x : Int64} (k : X w mX8_put d Q 11 [l0, some (.long x), l2] (.long x :: st) P) : X w mX8_put d Q 10 [l0, some (.long x), l2] st P := X_lload_n (M := mX8_put) (dX8_put_10) rfl rfl k
theorem dX8_put_11 : decode cX8_put 11 = .ok (.aload_n 0, 1) := by decide +kernel
theorem sX8_put_11 {l1 l2 : Option Value} {x : Nat} (k : X w mX8_put d Q 12 [some (.ref x), l1, l2] (.ref x :: st) P) : X w mX8_put d Q 11 [some (.ref x), l1, l2] st P := X_aload_n (M := mX8_put) (dX8_put_11) rfl rfl k
theorem dX8_put_12 : decode cX8_put 12 = .ok (.getfield 21, 3) := by decide +kernel
theorem sX8_put_12 {a : Nat} {fs : List Value} {v : Nat} (hP : P.1 a = some (xO 6 fs)) (hv : fs[3]? = some (.ref v)) (k : X w mX8_put d Q 15 ls (.ref v :: st) P) : X w mX8_put d Q 12 ls (.ref a :: st) P := X_get (M := mX8_put) (j := 3) (T := TX8) (dX8_put_12) rfl (by decide) x_in8 xw_64 hP hv k
theorem dX8_put_15 : decode cX8_put 15 = .ok (.aload_n 0, 1) := by decide +kernel
theorem sX8_put_15 {l1 l2 : Option Value} {x : Nat} (k : X w mX8_put d Q 16 [some (.ref x), l1, l2] (.ref x :: st) P) : X w mX8_put d Q 15 [some (.ref x), l1, l2] st P := X_aload_n (M := mX8_put) (dX8_put_15) rfl rfl k
theorem dX8_put_16 : decode cX8_put 16 = .ok (.getfield 24, 3) := by decide +kernel
theorem sX8_put_16 {a : Nat} {fs : List Value} {v : Int32} (hP : P.1 a = some (xO 6 fs)) (hv : fs[4]? = some (.int v)) (k : X w mX8_put d Q 19 ls (.int v :: st) P) : X w mX8_put d Q 16 ls (.ref a :: st) P := X_get (M := mX8_put) (j := 4) (T := TX8) (dX8_put_16) rfl (by decide) x_in8 xw_65 hP hv k
theorem dX8_put_19 : decode cX8_put 19 = .ok (.laload, 1) := by decide +kernel
theorem sX8_put_19 {a n : Nat} {f : Nat → Int64} {i : Int32} (hP : P.1 a = some (xJ n f)) (hi : vp_in i n) (k : X w mX8_put d Q 20 ls (.long (f i.toNatClampNeg) :: st) P) : X w mX8_put d Q 19 ls (.int i :: .ref a :: st) P := X_lald (M := mX8_put) (dX8_put_19) hP hi k
theorem dX8_put_20 : decode cX8_put 20 = .ok (.lxor, 1) := by decide +kernel
theorem sX8_put_20 {x y : Int64} (k : X w mX8_put d Q 21 ls (.long (x ^^^ y) :: st) P) : X w mX8_put d Q 20 ls (.long y :: .long x :: st) P := X_lxor (M := mX8_put) (dX8_put_20) k
theorem dX8_put_21 : decode cX8_put 21 = .ok (.land, 1) := by decide +kernel
theorem sX8_put_21 {x y : Int64} (k : X w mX8_put d Q 22 ls (.long (x &&& y) :: st) P) : X w mX8_put d Q 21 ls (.long y :: .long x :: st) P := X_land (M := mX8_put) (dX8_put_21) k
theorem dX8_put_22 : decode cX8_put 22 = .ok (.lastore, 1) := by decide +kernel
theorem sX8_put_22 {a n : Nat} {f : Nat → Int64} {i : Int32} {x : Int64} (hP : P.1 a = some (xJ n f)) (hi : vp_in i n) (k : X w mX8_put d Q 23 ls st (xs P a (xJ n (vp_updL f i.toNatClampNeg x)))) : X w mX8_put d Q 22 ls (.long x :: .int i :: .ref a :: st) P := X_last (M := mX8_put) (dX8_put_22) hP hi k
theorem dX8_put_23 : decode cX8_put 23 = .ok (.aload_n 0, 1) := by decide +kernel
theorem sX8_put_23 {l1 l2 : Option Value} {x : Nat} (k : X w mX8_put d Q 24 [some (.ref x), l1, l2] (.ref x :: st) P) : X w mX8_put d Q 23 [some (.ref x), l1, l2] st P := X_aload_n (M := mX8_put) (dX8_put_23) rfl rfl k
theorem dX8_put_24 : decode cX8_put 24 = .ok (.getfield 21, 3) := by decide +kernel
theorem sX8_put_24 {a : Nat} {fs : List Value} {v : Nat} (hP : P.1 a = some (xO 6 fs)) (hv : fs[3]? = some (.ref v)) (k : X w mX8_put d Q 27 ls (.ref v :: st) P) : X w mX8_put d Q 24 ls (.ref a :: st) P := X_get (M := mX8_put) (j := 3) (T := TX8) (dX8_put_24) rfl (by decide) x_in8 xw_64 hP hv k
theorem dX8_put_27 : decode cX8_put 27 = .ok (.aload_n 0, 1) := by decide +kernel
theorem sX8_put_27 {l1 l2 : Option Value} {x : Nat} (k : X w mX8_put d Q 28 [some (.ref x), l1, l2] (.ref x :: st) P) : X w mX8_put d Q 27 [some (.ref x), l1, l2] st P := X_aload_n (M := mX8_put) (dX8_put_27) rfl rfl k
theorem dX8_put_28 : decode cX8_put 28 = .ok (.getfield 24, 3) := by decide +kernel
theorem sX8_put_28 {a : Nat} {fs : List Value} {v : Int32} (hP : P.1 a = some (xO 6 fs)) (hv : fs[4]? = some (.int v)) (k : X w mX8_put d Q 31 ls (.int v :: st) P) : X w mX8_put d Q 28 ls (.ref a :: st) P := X_get (M := mX8_put) (j := 4) (T := TX8) (dX8_put_28) rfl (by decide) x_in8 xw_65 hP hv k
theorem dX8_put_31 : decode cX8_put 31 = .ok (.lconst 0, 1) := by decide +kernel
theorem sX8_put_31 (k : X w mX8_put d Q 32 ls (.long (0 : Int64) :: st) P) : X w mX8_put d Q 31 ls st P := X_lconst (M := mX8_put) (dX8_put_31) (by decide) k
theorem dX8_put_32 : decode cX8_put 32 = .ok (.lastore, 1) := by decide +kernel
theorem sX8_put_32 {a n : Nat} {f : Nat → Int64} {i : Int32} {x : Int64} (hP : P.1 a = some (xJ n f)) (hi : vp_in i n) (k : X w mX8_put d Q 33 ls st (xs P a (xJ n (vp_updL f i.toNatClampNeg x)))) : X w mX8_put d Q 32 ls (.long x :: .int i :: .ref a :: st) P := X_last (M := mX8_put) (dX8_put_32) hP hi k
theorem dX8_put_33 : decode cX8_put 33 = .ok (.return_, 1) := by decide +kernel
theorem sX8_put_33 (hq : Q (.returned none) P) : X w mX8_put d Q 33 ls [] P := X_vret (M := mX8_put) (dX8_put_33) rfl hq
theorem dX8_endAnd_0 : decode cX8_endAnd 0 = .ok (.aload_n 0, 1) := by decide +kernel
theorem sX8_endAnd_0 {x : Nat} (k : X w mX8_endAnd d Q 1 [some (.ref x)] (.ref x :: st) P) : X w mX8_endAnd d Q 0 [some (.ref x)] st P := X_aload_n (M := mX8_endAnd) (dX8_endAnd_0) rfl rfl k
theorem dX8_endAnd_1 : decode cX8_endAnd 1 = .ok (.getfield 15, 3) := by decide +kernel
theorem sX8_endAnd_1 {a : Nat} {fs : List Value} {v : Nat} (hP : P.1 a = some (xO 6 fs)) (hv : fs[1]? = some (.ref v)) (k : X w mX8_endAnd d Q 4 ls (.ref v :: st) P) : X w mX8_endAnd d Q 1 ls (.ref a :: st) P := X_get (M := mX8_endAnd) (j := 1) (T := TX8) (dX8_endAnd_1) rfl (by decide) x_in8 xw_62 hP hv k
theorem dX8_endAnd_4 : decode cX8_endAnd 4 = .ok (.aload_n 0, 1) := by decide +kernel
theorem sX8_endAnd_4 {x : Nat} (k : X w mX8_endAnd d Q 5 [some (.ref x)] (.ref x :: st) P) : X w mX8_endAnd d Q 4 [some (.ref x)] st P := X_aload_n (M := mX8_endAnd) (dX8_endAnd_4) rfl rfl k
theorem dX8_endAnd_5 : decode cX8_endAnd 5 = .ok (.getfield 24, 3) := by decide +kernel
theorem sX8_endAnd_5 {a : Nat} {fs : List Value} {v : Int32} (hP : P.1 a = some (xO 6 fs)) (hv : fs[4]? = some (.int v)) (k : X w mX8_endAnd d Q 8 ls (.int v :: st) P) : X w mX8_endAnd d Q 5 ls (.ref a :: st) P := X_get (M := mX8_endAnd) (j := 4) (T := TX8) (dX8_endAnd_5) rfl (by decide) x_in8 xw_65 hP hv k
theorem dX8_endAnd_8 : decode cX8_endAnd 8 = .ok (.dup2, 1) := by decide +kernel
theorem sX8_endAnd_8 {i : Int32} {a : Nat} (k : X w mX8_endAnd d Q 9 ls (.int i :: .ref a :: .int i :: .ref a :: st) P) : X w mX8_endAnd d Q 8 ls (.int i :: .ref a :: st) P := X_dup2 (M := mX8_endAnd) (dX8_endAnd_8) rfl rfl k
theorem dX8_endAnd_9 : decode cX8_endAnd 9 = .ok (.laload, 1) := by decide +kernel
theorem sX8_endAnd_9 {a n : Nat} {f : Nat → Int64} {i : Int32} (hP : P.1 a = some (xJ n f)) (hi : vp_in i n) (k : X w mX8_endAnd d Q 10 ls (.long (f i.toNatClampNeg) :: st) P) : X w mX8_endAnd d Q 9 ls (.int i :: .ref a :: st) P := X_lald (M := mX8_endAnd) (dX8_endAnd_9) hP hi k
theorem dX8_endAnd_10 : decode cX8_endAnd 10 = .ok (.aload_n 0, 1) := by decide +kernel
theorem sX8_endAnd_10 {x : Nat} (k : X w mX8_endAnd d Q 11 [some (.ref x)] (.ref x :: st) P) : X w mX8_endAnd d Q 10 [some (.ref x)] st P := X_aload_n (M := mX8_endAnd) (dX8_endAnd_10) rfl rfl k
theorem dX8_endAnd_11 : decode cX8_endAnd 11 = .ok (.getfield 18, 3) := by decide +kernel
theorem sX8_endAnd_11 {a : Nat} {fs : List Value} {v : Nat} (hP : P.1 a = some (xO 6 fs)) (hv : fs[2]? = some (.ref v)) (k : X w mX8_endAnd d Q 14 ls (.ref v :: st) P) : X w mX8_endAnd d Q 11 ls (.ref a :: st) P := X_get (M := mX8_endAnd) (j := 2) (T := TX8) (dX8_endAnd_11) rfl (by decide) x_in8 xw_63 hP hv k
theorem dX8_endAnd_14 : decode cX8_endAnd 14 = .ok (.aload_n 0, 1) := by decide +kernel
theorem sX8_endAnd_14 {x : Nat} (k : X w mX8_endAnd d Q 15 [some (.ref x)] (.ref x :: st) P) : X w mX8_endAnd d Q 14 [some (.ref x)] st P := X_aload_n (M := mX8_endAnd) (dX8_endAnd_14) rfl rfl k
theorem dX8_endAnd_15 : decode cX8_endAnd 15 = .ok (.getfield 24, 3) := by decide +kernel
theorem sX8_endAnd_15 {a : Nat} {fs : List Value} {v : Int32} (hP : P.1 a = some (xO 6 fs)) (hv : fs[4]? = some (.int v)) (k : X w mX8_endAnd d Q 18 ls (.int v :: st) P) : X w mX8_endAnd d Q 15 ls (.ref a :: st) P := X_get (M := mX8_endAnd) (j := 4) (T := TX8) (dX8_endAnd_15) rfl (by decide) x_in8 xw_65 hP hv k
theorem dX8_endAnd_18 : decode cX8_endAnd 18 = .ok (.laload, 1) := by decide +kernel
theorem sX8_endAnd_18 {a n : Nat} {f : Nat → Int64} {i : Int32} (hP : P.1 a = some (xJ n f)) (hi : vp_in i n) (k : X w mX8_endAnd d Q 19 ls (.long (f i.toNatClampNeg) :: st) P) : X w mX8_endAnd d Q 18 ls (.int i :: .ref a :: st) P := X_lald (M := mX8_endAnd) (dX8_endAnd_18) hP hi k
theorem dX8_endAnd_19 : decode cX8_endAnd 19 = .ok (.lxor, 1) := by decide +kernel
theorem sX8_endAnd_19 {x y : Int64} (k : X w mX8_endAnd d Q 20 ls (.long (x ^^^ y) :: st) P) : X w mX8_endAnd d Q 19 ls (.long y :: .long x :: st) P := X_lxor (M := mX8_endAnd) (dX8_endAnd_19) k
theorem dX8_endAnd_20 : decode cX8_endAnd 20 = .ok (.lastore, 1) := by decide +kernel
theorem sX8_endAnd_20 {a n : Nat} {f : Nat → Int64} {i : Int32} {x : Int64} (hP : P.1 a = some (xJ n f)) (hi : vp_in i n) (k : X w mX8_endAnd d Q 21 ls st (xs P a (xJ n (vp_updL f i.toNatClampNeg x)))) : X w mX8_endAnd d Q 20 ls (.long x :: .int i :: .ref a :: st) P := X_last (M := mX8_endAnd) (dX8_endAnd_20) hP hi k
theorem dX8_endAnd_21 : decode cX8_endAnd 21 = .ok (.aload_n 0, 1) := by decide +kernel
theorem sX8_endAnd_21 {x : Nat} (k : X w mX8_endAnd d Q 22 [some (.ref x)] (.ref x :: st) P) : X w mX8_endAnd d Q 21 [some (.ref x)] st P := X_aload_n (M := mX8_endAnd) (dX8_endAnd_21) rfl rfl k
theorem dX8_endAnd_22 : decode cX8_endAnd 22 = .ok (.getfield 18, 3) := by decide +kernel
theorem sX8_endAnd_22 {a : Nat} {fs : List Value} {v : Nat} (hP : P.1 a = some (xO 6 fs)) (hv : fs[2]? = some (.ref v)) (k : X w mX8_endAnd d Q 25 ls (.ref v :: st) P) : X w mX8_endAnd d Q 22 ls (.ref a :: st) P := X_get (M := mX8_endAnd) (j := 2) (T := TX8) (dX8_endAnd_22) rfl (by decide) x_in8 xw_63 hP hv k
theorem dX8_endAnd_25 : decode cX8_endAnd 25 = .ok (.aload_n 0, 1) := by decide +kernel
theorem sX8_endAnd_25 {x : Nat} (k : X w mX8_endAnd d Q 26 [some (.ref x)] (.ref x :: st) P) : X w mX8_endAnd d Q 25 [some (.ref x)] st P := X_aload_n (M := mX8_endAnd) (dX8_endAnd_25) rfl rfl k
theorem dX8_endAnd_26 : decode cX8_endAnd 26 = .ok (.getfield 24, 3) := by decide +kernel
theorem sX8_endAnd_26 {a : Nat} {fs : List Value} {v : Int32} (hP : P.1 a = some (xO 6 fs)) (hv : fs[4]? = some (.int v)) (k : X w mX8_endAnd d Q 29 ls (.int v :: st) P) : X w mX8_endAnd d Q 26 ls (.ref a :: st) P := X_get (M := mX8_endAnd) (j := 4) (T := TX8) (dX8_endAnd_26) rfl (by decide) x_in8 xw_65 hP hv k
theorem dX8_endAnd_29 : decode cX8_endAnd 29 = .ok (.ldc2_w 39, 3) := by decide +kernel
theorem sX8_endAnd_29 (k : X w mX8_endAnd d Q 32 ls (.long (-1 : Int64) :: st) P) : X w mX8_endAnd d Q 29 ls st P := X_ldc2 (M := mX8_endAnd) (dX8_endAnd_29) xw_75 k
theorem dX8_endAnd_32 : decode cX8_endAnd 32 = .ok (.lastore, 1) := by decide +kernel
theorem sX8_endAnd_32 {a n : Nat} {f : Nat → Int64} {i : Int32} {x : Int64} (hP : P.1 a = some (xJ n f)) (hi : vp_in i n) (k : X w mX8_endAnd d Q 33 ls st (xs P a (xJ n (vp_updL f i.toNatClampNeg x)))) : X w mX8_endAnd d Q 32 ls (.long x :: .int i :: .ref a :: st) P := X_last (M := mX8_endAnd) (dX8_endAnd_32) hP hi k
theorem dX8_endAnd_33 : decode cX8_endAnd 33 = .ok (.return_, 1) := by decide +kernel
theorem sX8_endAnd_33 (hq : Q (.returned none) P) : X w mX8_endAnd d Q 33 ls [] P := X_vret (M := mX8_endAnd) (dX8_endAnd_33) rfl hq
theorem dX8_endXor_0 : decode cX8_endXor 0 = .ok (.aload_n 0, 1) := by decide +kernel
theorem sX8_endXor_0 {x : Nat} (k : X w mX8_endXor d Q 1 [some (.ref x)] (.ref x :: st) P) : X w mX8_endXor d Q 0 [some (.ref x)] st P := X_aload_n (M := mX8_endXor) (dX8_endXor_0) rfl rfl k
theorem dX8_endXor_1 : decode cX8_endXor 1 = .ok (.getfield 9, 3) := by decide +kernel
theorem sX8_endXor_1 {a : Nat} {fs : List Value} {v : Nat} (hP : P.1 a = some (xO 6 fs)) (hv : fs[0]? = some (.ref v)) (k : X w mX8_endXor d Q 4 ls (.ref v :: st) P) : X w mX8_endXor d Q 1 ls (.ref a :: st) P := X_get (M := mX8_endXor) (j := 0) (T := TX8) (dX8_endXor_1) rfl (by decide) x_in8 xw_61 hP hv k
theorem dX8_endXor_4 : decode cX8_endXor 4 = .ok (.aload_n 0, 1) := by decide +kernel
theorem sX8_endXor_4 {x : Nat} (k : X w mX8_endXor d Q 5 [some (.ref x)] (.ref x :: st) P) : X w mX8_endXor d Q 4 [some (.ref x)] st P := X_aload_n (M := mX8_endXor) (dX8_endXor_4) rfl rfl k
theorem dX8_endXor_5 : decode cX8_endXor 5 = .ok (.getfield 24, 3) := by decide +kernel
theorem sX8_endXor_5 {a : Nat} {fs : List Value} {v : Int32} (hP : P.1 a = some (xO 6 fs)) (hv : fs[4]? = some (.int v)) (k : X w mX8_endXor d Q 8 ls (.int v :: st) P) : X w mX8_endXor d Q 5 ls (.ref a :: st) P := X_get (M := mX8_endXor) (j := 4) (T := TX8) (dX8_endXor_5) rfl (by decide) x_in8 xw_65 hP hv k
theorem dX8_endXor_8 : decode cX8_endXor 8 = .ok (.dup2, 1) := by decide +kernel
theorem sX8_endXor_8 {i : Int32} {a : Nat} (k : X w mX8_endXor d Q 9 ls (.int i :: .ref a :: .int i :: .ref a :: st) P) : X w mX8_endXor d Q 8 ls (.int i :: .ref a :: st) P := X_dup2 (M := mX8_endXor) (dX8_endXor_8) rfl rfl k
theorem dX8_endXor_9 : decode cX8_endXor 9 = .ok (.laload, 1) := by decide +kernel
theorem sX8_endXor_9 {a n : Nat} {f : Nat → Int64} {i : Int32} (hP : P.1 a = some (xJ n f)) (hi : vp_in i n) (k : X w mX8_endXor d Q 10 ls (.long (f i.toNatClampNeg) :: st) P) : X w mX8_endXor d Q 9 ls (.int i :: .ref a :: st) P := X_lald (M := mX8_endXor) (dX8_endXor_9) hP hi k
theorem dX8_endXor_10 : decode cX8_endXor 10 = .ok (.aload_n 0, 1) := by decide +kernel
theorem sX8_endXor_10 {x : Nat} (k : X w mX8_endXor d Q 11 [some (.ref x)] (.ref x :: st) P) : X w mX8_endXor d Q 10 [some (.ref x)] st P := X_aload_n (M := mX8_endXor) (dX8_endXor_10) rfl rfl k
theorem dX8_endXor_11 : decode cX8_endXor 11 = .ok (.getfield 15, 3) := by decide +kernel
theorem sX8_endXor_11 {a : Nat} {fs : List Value} {v : Nat} (hP : P.1 a = some (xO 6 fs)) (hv : fs[1]? = some (.ref v)) (k : X w mX8_endXor d Q 14 ls (.ref v :: st) P) : X w mX8_endXor d Q 11 ls (.ref a :: st) P := X_get (M := mX8_endXor) (j := 1) (T := TX8) (dX8_endXor_11) rfl (by decide) x_in8 xw_62 hP hv k
theorem dX8_endXor_14 : decode cX8_endXor 14 = .ok (.aload_n 0, 1) := by decide +kernel
theorem sX8_endXor_14 {x : Nat} (k : X w mX8_endXor d Q 15 [some (.ref x)] (.ref x :: st) P) : X w mX8_endXor d Q 14 [some (.ref x)] st P := X_aload_n (M := mX8_endXor) (dX8_endXor_14) rfl rfl k
theorem dX8_endXor_15 : decode cX8_endXor 15 = .ok (.getfield 24, 3) := by decide +kernel
theorem sX8_endXor_15 {a : Nat} {fs : List Value} {v : Int32} (hP : P.1 a = some (xO 6 fs)) (hv : fs[4]? = some (.int v)) (k : X w mX8_endXor d Q 18 ls (.int v :: st) P) : X w mX8_endXor d Q 15 ls (.ref a :: st) P := X_get (M := mX8_endXor) (j := 4) (T := TX8) (dX8_endXor_15) rfl (by decide) x_in8 xw_65 hP hv k
theorem dX8_endXor_18 : decode cX8_endXor 18 = .ok (.laload, 1) := by decide +kernel
theorem sX8_endXor_18 {a n : Nat} {f : Nat → Int64} {i : Int32} (hP : P.1 a = some (xJ n f)) (hi : vp_in i n) (k : X w mX8_endXor d Q 19 ls (.long (f i.toNatClampNeg) :: st) P) : X w mX8_endXor d Q 18 ls (.int i :: .ref a :: st) P := X_lald (M := mX8_endXor) (dX8_endXor_18) hP hi k
theorem dX8_endXor_19 : decode cX8_endXor 19 = .ok (.aload_n 0, 1) := by decide +kernel
theorem sX8_endXor_19 {x : Nat} (k : X w mX8_endXor d Q 20 [some (.ref x)] (.ref x :: st) P) : X w mX8_endXor d Q 19 [some (.ref x)] st P := X_aload_n (M := mX8_endXor) (dX8_endXor_19) rfl rfl k
theorem dX8_endXor_20 : decode cX8_endXor 20 = .ok (.getfield 18, 3) := by decide +kernel
theorem sX8_endXor_20 {a : Nat} {fs : List Value} {v : Nat} (hP : P.1 a = some (xO 6 fs)) (hv : fs[2]? = some (.ref v)) (k : X w mX8_endXor d Q 23 ls (.ref v :: st) P) : X w mX8_endXor d Q 20 ls (.ref a :: st) P := X_get (M := mX8_endXor) (j := 2) (T := TX8) (dX8_endXor_20) rfl (by decide) x_in8 xw_63 hP hv k
theorem dX8_endXor_23 : decode cX8_endXor 23 = .ok (.aload_n 0, 1) := by decide +kernel
theorem sX8_endXor_23 {x : Nat} (k : X w mX8_endXor d Q 24 [some (.ref x)] (.ref x :: st) P) : X w mX8_endXor d Q 23 [some (.ref x)] st P := X_aload_n (M := mX8_endXor) (dX8_endXor_23) rfl rfl k
theorem dX8_endXor_24 : decode cX8_endXor 24 = .ok (.getfield 24, 3) := by decide +kernel
theorem sX8_endXor_24 {a : Nat} {fs : List Value} {v : Int32} (hP : P.1 a = some (xO 6 fs)) (hv : fs[4]? = some (.int v)) (k : X w mX8_endXor d Q 27 ls (.int v :: st) P) : X w mX8_endXor d Q 24 ls (.ref a :: st) P := X_get (M := mX8_endXor) (j := 4) (T := TX8) (dX8_endXor_24) rfl (by decide) x_in8 xw_65 hP hv k
theorem dX8_endXor_27 : decode cX8_endXor 27 = .ok (.laload, 1) := by decide +kernel
theorem sX8_endXor_27 {a n : Nat} {f : Nat → Int64} {i : Int32} (hP : P.1 a = some (xJ n f)) (hi : vp_in i n) (k : X w mX8_endXor d Q 28 ls (.long (f i.toNatClampNeg) :: st) P) : X w mX8_endXor d Q 27 ls (.int i :: .ref a :: st) P := X_lald (M := mX8_endXor) (dX8_endXor_27) hP hi k
theorem dX8_endXor_28 : decode cX8_endXor 28 = .ok (.lxor, 1) := by decide +kernel
theorem sX8_endXor_28 {x y : Int64} (k : X w mX8_endXor d Q 29 ls (.long (x ^^^ y) :: st) P) : X w mX8_endXor d Q 28 ls (.long y :: .long x :: st) P := X_lxor (M := mX8_endXor) (dX8_endXor_28) k
theorem dX8_endXor_29 : decode cX8_endXor 29 = .ok (.lor, 1) := by decide +kernel
theorem sX8_endXor_29 {x y : Int64} (k : X w mX8_endXor d Q 30 ls (.long (x ||| y) :: st) P) : X w mX8_endXor d Q 29 ls (.long y :: .long x :: st) P := X_lor (M := mX8_endXor) (dX8_endXor_29) k
theorem dX8_endXor_30 : decode cX8_endXor 30 = .ok (.lastore, 1) := by decide +kernel
theorem sX8_endXor_30 {a n : Nat} {f : Nat → Int64} {i : Int32} {x : Int64} (hP : P.1 a = some (xJ n f)) (hi : vp_in i n) (k : X w mX8_endXor d Q 31 ls st (xs P a (xJ n (vp_updL f i.toNatClampNeg x)))) : X w mX8_endXor d Q 30 ls (.long x :: .int i :: .ref a :: st) P := X_last (M := mX8_endXor) (dX8_endXor_30) hP hi k
theorem dX8_endXor_31 : decode cX8_endXor 31 = .ok (.aload_n 0, 1) := by decide +kernel
theorem sX8_endXor_31 {x : Nat} (k : X w mX8_endXor d Q 32 [some (.ref x)] (.ref x :: st) P) : X w mX8_endXor d Q 31 [some (.ref x)] st P := X_aload_n (M := mX8_endXor) (dX8_endXor_31) rfl rfl k
theorem dX8_endXor_32 : decode cX8_endXor 32 = .ok (.getfield 15, 3) := by decide +kernel
theorem sX8_endXor_32 {a : Nat} {fs : List Value} {v : Nat} (hP : P.1 a = some (xO 6 fs)) (hv : fs[1]? = some (.ref v)) (k : X w mX8_endXor d Q 35 ls (.ref v :: st) P) : X w mX8_endXor d Q 32 ls (.ref a :: st) P := X_get (M := mX8_endXor) (j := 1) (T := TX8) (dX8_endXor_32) rfl (by decide) x_in8 xw_62 hP hv k
theorem dX8_endXor_35 : decode cX8_endXor 35 = .ok (.aload_n 0, 1) := by decide +kernel
theorem sX8_endXor_35 {x : Nat} (k : X w mX8_endXor d Q 36 [some (.ref x)] (.ref x :: st) P) : X w mX8_endXor d Q 35 [some (.ref x)] st P := X_aload_n (M := mX8_endXor) (dX8_endXor_35) rfl rfl k
theorem dX8_endXor_36 : decode cX8_endXor 36 = .ok (.getfield 24, 3) := by decide +kernel
theorem sX8_endXor_36 {a : Nat} {fs : List Value} {v : Int32} (hP : P.1 a = some (xO 6 fs)) (hv : fs[4]? = some (.int v)) (k : X w mX8_endXor d Q 39 ls (.int v :: st) P) : X w mX8_endXor d Q 36 ls (.ref a :: st) P := X_get (M := mX8_endXor) (j := 4) (T := TX8) (dX8_endXor_36) rfl (by decide) x_in8 xw_65 hP hv k
theorem dX8_endXor_39 : decode cX8_endXor 39 = .ok (.lconst 0, 1) := by decide +kernel
theorem sX8_endXor_39 (k : X w mX8_endXor d Q 40 ls (.long (0 : Int64) :: st) P) : X w mX8_endXor d Q 39 ls st P := X_lconst (M := mX8_endXor) (dX8_endXor_39) (by decide) k
theorem dX8_endXor_40 : decode cX8_endXor 40 = .ok (.lastore, 1) := by decide +kernel
theorem sX8_endXor_40 {a n : Nat} {f : Nat → Int64} {i : Int32} {x : Int64} (hP : P.1 a = some (xJ n f)) (hi : vp_in i n) (k : X w mX8_endXor d Q 41 ls st (xs P a (xJ n (vp_updL f i.toNatClampNeg x)))) : X w mX8_endXor d Q 40 ls (.long x :: .int i :: .ref a :: st) P := X_last (M := mX8_endXor) (dX8_endXor_40) hP hi k
theorem dX8_endXor_41 : decode cX8_endXor 41 = .ok (.aload_n 0, 1) := by decide +kernel
theorem sX8_endXor_41 {x : Nat} (k : X w mX8_endXor d Q 42 [some (.ref x)] (.ref x :: st) P) : X w mX8_endXor d Q 41 [some (.ref x)] st P := X_aload_n (M := mX8_endXor) (dX8_endXor_41) rfl rfl k
theorem dX8_endXor_42 : decode cX8_endXor 42 = .ok (.getfield 18, 3) := by decide +kernel
theorem sX8_endXor_42 {a : Nat} {fs : List Value} {v : Nat} (hP : P.1 a = some (xO 6 fs)) (hv : fs[2]? = some (.ref v)) (k : X w mX8_endXor d Q 45 ls (.ref v :: st) P) : X w mX8_endXor d Q 42 ls (.ref a :: st) P := X_get (M := mX8_endXor) (j := 2) (T := TX8) (dX8_endXor_42) rfl (by decide) x_in8 xw_63 hP hv k
theorem dX8_endXor_45 : decode cX8_endXor 45 = .ok (.aload_n 0, 1) := by decide +kernel
theorem sX8_endXor_45 {x : Nat} (k : X w mX8_endXor d Q 46 [some (.ref x)] (.ref x :: st) P) : X w mX8_endXor d Q 45 [some (.ref x)] st P := X_aload_n (M := mX8_endXor) (dX8_endXor_45) rfl rfl k
theorem dX8_endXor_46 : decode cX8_endXor 46 = .ok (.getfield 24, 3) := by decide +kernel
theorem sX8_endXor_46 {a : Nat} {fs : List Value} {v : Int32} (hP : P.1 a = some (xO 6 fs)) (hv : fs[4]? = some (.int v)) (k : X w mX8_endXor d Q 49 ls (.int v :: st) P) : X w mX8_endXor d Q 46 ls (.ref a :: st) P := X_get (M := mX8_endXor) (j := 4) (T := TX8) (dX8_endXor_46) rfl (by decide) x_in8 xw_65 hP hv k
theorem dX8_endXor_49 : decode cX8_endXor 49 = .ok (.ldc2_w 39, 3) := by decide +kernel
theorem sX8_endXor_49 (k : X w mX8_endXor d Q 52 ls (.long (-1 : Int64) :: st) P) : X w mX8_endXor d Q 49 ls st P := X_ldc2 (M := mX8_endXor) (dX8_endXor_49) xw_75 k
theorem dX8_endXor_52 : decode cX8_endXor 52 = .ok (.lastore, 1) := by decide +kernel
theorem sX8_endXor_52 {a n : Nat} {f : Nat → Int64} {i : Int32} {x : Int64} (hP : P.1 a = some (xJ n f)) (hi : vp_in i n) (k : X w mX8_endXor d Q 53 ls st (xs P a (xJ n (vp_updL f i.toNatClampNeg x)))) : X w mX8_endXor d Q 52 ls (.long x :: .int i :: .ref a :: st) P := X_last (M := mX8_endXor) (dX8_endXor_52) hP hi k
theorem dX8_endXor_53 : decode cX8_endXor 53 = .ok (.return_, 1) := by decide +kernel
theorem sX8_endXor_53 (hq : Q (.returned none) P) : X w mX8_endXor d Q 53 ls [] P := X_vret (M := mX8_endXor) (dX8_endXor_53) rfl hq
theorem dX8_total_0 : decode cX8_total 0 = .ok (.aload_n 0, 1) := by decide +kernel
theorem sX8_total_0 {x : Nat} (k : X w mX8_total d Q 1 [some (.ref x)] (.ref x :: st) P) : X w mX8_total d Q 0 [some (.ref x)] st P := X_aload_n (M := mX8_total) (dX8_total_0) rfl rfl k
theorem dX8_total_1 : decode cX8_total 1 = .ok (.getfield 9, 3) := by decide +kernel
theorem sX8_total_1 {a : Nat} {fs : List Value} {v : Nat} (hP : P.1 a = some (xO 6 fs)) (hv : fs[0]? = some (.ref v)) (k : X w mX8_total d Q 4 ls (.ref v :: st) P) : X w mX8_total d Q 1 ls (.ref a :: st) P := X_get (M := mX8_total) (j := 0) (T := TX8) (dX8_total_1) rfl (by decide) x_in8 xw_61 hP hv k
theorem dX8_total_4 : decode cX8_total 4 = .ok (.aload_n 0, 1) := by decide +kernel
theorem sX8_total_4 {x : Nat} (k : X w mX8_total d Q 5 [some (.ref x)] (.ref x :: st) P) : X w mX8_total d Q 4 [some (.ref x)] st P := X_aload_n (M := mX8_total) (dX8_total_4) rfl rfl k
theorem dX8_total_5 : decode cX8_total 5 = .ok (.getfield 24, 3) := by decide +kernel
theorem sX8_total_5 {a : Nat} {fs : List Value} {v : Int32} (hP : P.1 a = some (xO 6 fs)) (hv : fs[4]? = some (.int v)) (k : X w mX8_total d Q 8 ls (.int v :: st) P) : X w mX8_total d Q 5 ls (.ref a :: st) P := X_get (M := mX8_total) (j := 4) (T := TX8) (dX8_total_5) rfl (by decide) x_in8 xw_65 hP hv k
theorem dX8_total_8 : decode cX8_total 8 = .ok (.laload, 1) := by decide +kernel
theorem sX8_total_8 {a n : Nat} {f : Nat → Int64} {i : Int32} (hP : P.1 a = some (xJ n f)) (hi : vp_in i n) (k : X w mX8_total d Q 9 ls (.long (f i.toNatClampNeg) :: st) P) : X w mX8_total d Q 8 ls (.int i :: .ref a :: st) P := X_lald (M := mX8_total) (dX8_total_8) hP hi k
theorem dX8_total_9 : decode cX8_total 9 = .ok (.aload_n 0, 1) := by decide +kernel
theorem sX8_total_9 {x : Nat} (k : X w mX8_total d Q 10 [some (.ref x)] (.ref x :: st) P) : X w mX8_total d Q 9 [some (.ref x)] st P := X_aload_n (M := mX8_total) (dX8_total_9) rfl rfl k
theorem dX8_total_10 : decode cX8_total 10 = .ok (.getfield 15, 3) := by decide +kernel
theorem sX8_total_10 {a : Nat} {fs : List Value} {v : Nat} (hP : P.1 a = some (xO 6 fs)) (hv : fs[1]? = some (.ref v)) (k : X w mX8_total d Q 13 ls (.ref v :: st) P) : X w mX8_total d Q 10 ls (.ref a :: st) P := X_get (M := mX8_total) (j := 1) (T := TX8) (dX8_total_10) rfl (by decide) x_in8 xw_62 hP hv k
theorem dX8_total_13 : decode cX8_total 13 = .ok (.aload_n 0, 1) := by decide +kernel
theorem sX8_total_13 {x : Nat} (k : X w mX8_total d Q 14 [some (.ref x)] (.ref x :: st) P) : X w mX8_total d Q 13 [some (.ref x)] st P := X_aload_n (M := mX8_total) (dX8_total_13) rfl rfl k
theorem dX8_total_14 : decode cX8_total 14 = .ok (.getfield 24, 3) := by decide +kernel
theorem sX8_total_14 {a : Nat} {fs : List Value} {v : Int32} (hP : P.1 a = some (xO 6 fs)) (hv : fs[4]? = some (.int v)) (k : X w mX8_total d Q 17 ls (.int v :: st) P) : X w mX8_total d Q 14 ls (.ref a :: st) P := X_get (M := mX8_total) (j := 4) (T := TX8) (dX8_total_14) rfl (by decide) x_in8 xw_65 hP hv k
theorem dX8_total_17 : decode cX8_total 17 = .ok (.laload, 1) := by decide +kernel
theorem sX8_total_17 {a n : Nat} {f : Nat → Int64} {i : Int32} (hP : P.1 a = some (xJ n f)) (hi : vp_in i n) (k : X w mX8_total d Q 18 ls (.long (f i.toNatClampNeg) :: st) P) : X w mX8_total d Q 17 ls (.int i :: .ref a :: st) P := X_lald (M := mX8_total) (dX8_total_17) hP hi k
theorem dX8_total_18 : decode cX8_total 18 = .ok (.aload_n 0, 1) := by decide +kernel
theorem sX8_total_18 {x : Nat} (k : X w mX8_total d Q 19 [some (.ref x)] (.ref x :: st) P) : X w mX8_total d Q 18 [some (.ref x)] st P := X_aload_n (M := mX8_total) (dX8_total_18) rfl rfl k
theorem dX8_total_19 : decode cX8_total 19 = .ok (.getfield 18, 3) := by decide +kernel
theorem sX8_total_19 {a : Nat} {fs : List Value} {v : Nat} (hP : P.1 a = some (xO 6 fs)) (hv : fs[2]? = some (.ref v)) (k : X w mX8_total d Q 22 ls (.ref v :: st) P) : X w mX8_total d Q 19 ls (.ref a :: st) P := X_get (M := mX8_total) (j := 2) (T := TX8) (dX8_total_19) rfl (by decide) x_in8 xw_63 hP hv k
theorem dX8_total_22 : decode cX8_total 22 = .ok (.aload_n 0, 1) := by decide +kernel
theorem sX8_total_22 {x : Nat} (k : X w mX8_total d Q 23 [some (.ref x)] (.ref x :: st) P) : X w mX8_total d Q 22 [some (.ref x)] st P := X_aload_n (M := mX8_total) (dX8_total_22) rfl rfl k
theorem dX8_total_23 : decode cX8_total 23 = .ok (.getfield 24, 3) := by decide +kernel
theorem sX8_total_23 {a : Nat} {fs : List Value} {v : Int32} (hP : P.1 a = some (xO 6 fs)) (hv : fs[4]? = some (.int v)) (k : X w mX8_total d Q 26 ls (.int v :: st) P) : X w mX8_total d Q 23 ls (.ref a :: st) P := X_get (M := mX8_total) (j := 4) (T := TX8) (dX8_total_23) rfl (by decide) x_in8 xw_65 hP hv k
theorem dX8_total_26 : decode cX8_total 26 = .ok (.laload, 1) := by decide +kernel
theorem sX8_total_26 {a n : Nat} {f : Nat → Int64} {i : Int32} (hP : P.1 a = some (xJ n f)) (hi : vp_in i n) (k : X w mX8_total d Q 27 ls (.long (f i.toNatClampNeg) :: st) P) : X w mX8_total d Q 26 ls (.int i :: .ref a :: st) P := X_lald (M := mX8_total) (dX8_total_26) hP hi k
theorem dX8_total_27 : decode cX8_total 27 = .ok (.lxor, 1) := by decide +kernel
theorem sX8_total_27 {x y : Int64} (k : X w mX8_total d Q 28 ls (.long (x ^^^ y) :: st) P) : X w mX8_total d Q 27 ls (.long y :: .long x :: st) P := X_lxor (M := mX8_total) (dX8_total_27) k
theorem dX8_total_28 : decode cX8_total 28 = .ok (.lor, 1) := by decide +kernel
theorem sX8_total_28 {x y : Int64} (k : X w mX8_total d Q 29 ls (.long (x ||| y) :: st) P) : X w mX8_total d Q 28 ls (.long y :: .long x :: st) P := X_lor (M := mX8_total) (dX8_total_28) k
theorem dX8_total_29 : decode cX8_total 29 = .ok (.lreturn, 1) := by decide +kernel
theorem sX8_total_29 {v : Int64} (hq : Q (.returned (some (.long v))) P) : X w mX8_total d Q 29 ls [.long v] P := X_lret (M := mX8_total) (dX8_total_29) rfl hq
theorem dX8_clearLevel_0 : decode cX8_clearLevel 0 = .ok (.aload_n 0, 1) := by decide +kernel
theorem sX8_clearLevel_0 {x : Nat} (k : X w mX8_clearLevel d Q 1 [some (.ref x)] (.ref x :: st) P) : X w mX8_clearLevel d Q 0 [some (.ref x)] st P := X_aload_n (M := mX8_clearLevel) (dX8_clearLevel_0) rfl rfl k
theorem dX8_clearLevel_1 : decode cX8_clearLevel 1 = .ok (.getfield 9, 3) := by decide +kernel
theorem sX8_clearLevel_1 {a : Nat} {fs : List Value} {v : Nat} (hP : P.1 a = some (xO 6 fs)) (hv : fs[0]? = some (.ref v)) (k : X w mX8_clearLevel d Q 4 ls (.ref v :: st) P) : X w mX8_clearLevel d Q 1 ls (.ref a :: st) P := X_get (M := mX8_clearLevel) (j := 0) (T := TX8) (dX8_clearLevel_1) rfl (by decide) x_in8 xw_61 hP hv k
theorem dX8_clearLevel_4 : decode cX8_clearLevel 4 = .ok (.aload_n 0, 1) := by decide +kernel
theorem sX8_clearLevel_4 {x : Nat} (k : X w mX8_clearLevel d Q 5 [some (.ref x)] (.ref x :: st) P) : X w mX8_clearLevel d Q 4 [some (.ref x)] st P := X_aload_n (M := mX8_clearLevel) (dX8_clearLevel_4) rfl rfl k
theorem dX8_clearLevel_5 : decode cX8_clearLevel 5 = .ok (.getfield 24, 3) := by decide +kernel
theorem sX8_clearLevel_5 {a : Nat} {fs : List Value} {v : Int32} (hP : P.1 a = some (xO 6 fs)) (hv : fs[4]? = some (.int v)) (k : X w mX8_clearLevel d Q 8 ls (.int v :: st) P) : X w mX8_clearLevel d Q 5 ls (.ref a :: st) P := X_get (M := mX8_clearLevel) (j := 4) (T := TX8) (dX8_clearLevel_5) rfl (by decide) x_in8 xw_65 hP hv k
theorem dX8_clearLevel_8 : decode cX8_clearLevel 8 = .ok (.lconst 0, 1) := by decide +kernel
theorem sX8_clearLevel_8 (k : X w mX8_clearLevel d Q 9 ls (.long (0 : Int64) :: st) P) : X w mX8_clearLevel d Q 8 ls st P := X_lconst (M := mX8_clearLevel) (dX8_clearLevel_8) (by decide) k
theorem dX8_clearLevel_9 : decode cX8_clearLevel 9 = .ok (.lastore, 1) := by decide +kernel
theorem sX8_clearLevel_9 {a n : Nat} {f : Nat → Int64} {i : Int32} {x : Int64} (hP : P.1 a = some (xJ n f)) (hi : vp_in i n) (k : X w mX8_clearLevel d Q 10 ls st (xs P a (xJ n (vp_updL f i.toNatClampNeg x)))) : X w mX8_clearLevel d Q 9 ls (.long x :: .int i :: .ref a :: st) P := X_last (M := mX8_clearLevel) (dX8_clearLevel_9) hP hi k
theorem dX8_clearLevel_10 : decode cX8_clearLevel 10 = .ok (.aload_n 0, 1) := by decide +kernel
theorem sX8_clearLevel_10 {x : Nat} (k : X w mX8_clearLevel d Q 11 [some (.ref x)] (.ref x :: st) P) : X w mX8_clearLevel d Q 10 [some (.ref x)] st P := X_aload_n (M := mX8_clearLevel) (dX8_clearLevel_10) rfl rfl k
theorem dX8_clearLevel_11 : decode cX8_clearLevel 11 = .ok (.getfield 15, 3) := by decide +kernel
theorem sX8_clearLevel_11 {a : Nat} {fs : List Value} {v : Nat} (hP : P.1 a = some (xO 6 fs)) (hv : fs[1]? = some (.ref v)) (k : X w mX8_clearLevel d Q 14 ls (.ref v :: st) P) : X w mX8_clearLevel d Q 11 ls (.ref a :: st) P := X_get (M := mX8_clearLevel) (j := 1) (T := TX8) (dX8_clearLevel_11) rfl (by decide) x_in8 xw_62 hP hv k
theorem dX8_clearLevel_14 : decode cX8_clearLevel 14 = .ok (.aload_n 0, 1) := by decide +kernel
theorem sX8_clearLevel_14 {x : Nat} (k : X w mX8_clearLevel d Q 15 [some (.ref x)] (.ref x :: st) P) : X w mX8_clearLevel d Q 14 [some (.ref x)] st P := X_aload_n (M := mX8_clearLevel) (dX8_clearLevel_14) rfl rfl k
theorem dX8_clearLevel_15 : decode cX8_clearLevel 15 = .ok (.getfield 24, 3) := by decide +kernel
theorem sX8_clearLevel_15 {a : Nat} {fs : List Value} {v : Int32} (hP : P.1 a = some (xO 6 fs)) (hv : fs[4]? = some (.int v)) (k : X w mX8_clearLevel d Q 18 ls (.int v :: st) P) : X w mX8_clearLevel d Q 15 ls (.ref a :: st) P := X_get (M := mX8_clearLevel) (j := 4) (T := TX8) (dX8_clearLevel_15) rfl (by decide) x_in8 xw_65 hP hv k
theorem dX8_clearLevel_18 : decode cX8_clearLevel 18 = .ok (.lconst 0, 1) := by decide +kernel
theorem sX8_clearLevel_18 (k : X w mX8_clearLevel d Q 19 ls (.long (0 : Int64) :: st) P) : X w mX8_clearLevel d Q 18 ls st P := X_lconst (M := mX8_clearLevel) (dX8_clearLevel_18) (by decide) k
theorem dX8_clearLevel_19 : decode cX8_clearLevel 19 = .ok (.lastore, 1) := by decide +kernel
theorem sX8_clearLevel_19 {a n : Nat} {f : Nat → Int64} {i : Int32} {x : Int64} (hP : P.1 a = some (xJ n f)) (hi : vp_in i n) (k : X w mX8_clearLevel d Q 20 ls st (xs P a (xJ n (vp_updL f i.toNatClampNeg x)))) : X w mX8_clearLevel d Q 19 ls (.long x :: .int i :: .ref a :: st) P := X_last (M := mX8_clearLevel) (dX8_clearLevel_19) hP hi k
theorem dX8_clearLevel_20 : decode cX8_clearLevel 20 = .ok (.aload_n 0, 1) := by decide +kernel
theorem sX8_clearLevel_20 {x : Nat} (k : X w mX8_clearLevel d Q 21 [some (.ref x)] (.ref x :: st) P) : X w mX8_clearLevel d Q 20 [some (.ref x)] st P := X_aload_n (M := mX8_clearLevel) (dX8_clearLevel_20) rfl rfl k
theorem dX8_clearLevel_21 : decode cX8_clearLevel 21 = .ok (.getfield 18, 3) := by decide +kernel
theorem sX8_clearLevel_21 {a : Nat} {fs : List Value} {v : Nat} (hP : P.1 a = some (xO 6 fs)) (hv : fs[2]? = some (.ref v)) (k : X w mX8_clearLevel d Q 24 ls (.ref v :: st) P) : X w mX8_clearLevel d Q 21 ls (.ref a :: st) P := X_get (M := mX8_clearLevel) (j := 2) (T := TX8) (dX8_clearLevel_21) rfl (by decide) x_in8 xw_63 hP hv k
theorem dX8_clearLevel_24 : decode cX8_clearLevel 24 = .ok (.aload_n 0, 1) := by decide +kernel
theorem sX8_clearLevel_24 {x : Nat} (k : X w mX8_clearLevel d Q 25 [some (.ref x)] (.ref x :: st) P) : X w mX8_clearLevel d Q 24 [some (.ref x)] st P := X_aload_n (M := mX8_clearLevel) (dX8_clearLevel_24) rfl rfl k
theorem dX8_clearLevel_25 : decode cX8_clearLevel 25 = .ok (.getfield 24, 3) := by decide +kernel
theorem sX8_clearLevel_25 {a : Nat} {fs : List Value} {v : Int32} (hP : P.1 a = some (xO 6 fs)) (hv : fs[4]? = some (.int v)) (k : X w mX8_clearLevel d Q 28 ls (.int v :: st) P) : X w mX8_clearLevel d Q 25 ls (.ref a :: st) P := X_get (M := mX8_clearLevel) (j := 4) (T := TX8) (dX8_clearLevel_25) rfl (by decide) x_in8 xw_65 hP hv k
theorem dX8_clearLevel_28 : decode cX8_clearLevel 28 = .ok (.ldc2_w 39, 3) := by decide +kernel
theorem sX8_clearLevel_28 (k : X w mX8_clearLevel d Q 31 ls (.long (-1 : Int64) :: st) P) : X w mX8_clearLevel d Q 28 ls st P := X_ldc2 (M := mX8_clearLevel) (dX8_clearLevel_28) xw_75 k
theorem dX8_clearLevel_31 : decode cX8_clearLevel 31 = .ok (.lastore, 1) := by decide +kernel
theorem sX8_clearLevel_31 {a n : Nat} {f : Nat → Int64} {i : Int32} {x : Int64} (hP : P.1 a = some (xJ n f)) (hi : vp_in i n) (k : X w mX8_clearLevel d Q 32 ls st (xs P a (xJ n (vp_updL f i.toNatClampNeg x)))) : X w mX8_clearLevel d Q 31 ls (.long x :: .int i :: .ref a :: st) P := X_last (M := mX8_clearLevel) (dX8_clearLevel_31) hP hi k
theorem dX8_clearLevel_32 : decode cX8_clearLevel 32 = .ok (.aload_n 0, 1) := by decide +kernel
theorem sX8_clearLevel_32 {x : Nat} (k : X w mX8_clearLevel d Q 33 [some (.ref x)] (.ref x :: st) P) : X w mX8_clearLevel d Q 32 [some (.ref x)] st P := X_aload_n (M := mX8_clearLevel) (dX8_clearLevel_32) rfl rfl k
theorem dX8_clearLevel_33 : decode cX8_clearLevel 33 = .ok (.getfield 21, 3) := by decide +kernel
theorem sX8_clearLevel_33 {a : Nat} {fs : List Value} {v : Nat} (hP : P.1 a = some (xO 6 fs)) (hv : fs[3]? = some (.ref v)) (k : X w mX8_clearLevel d Q 36 ls (.ref v :: st) P) : X w mX8_clearLevel d Q 33 ls (.ref a :: st) P := X_get (M := mX8_clearLevel) (j := 3) (T := TX8) (dX8_clearLevel_33) rfl (by decide) x_in8 xw_64 hP hv k
theorem dX8_clearLevel_36 : decode cX8_clearLevel 36 = .ok (.aload_n 0, 1) := by decide +kernel
theorem sX8_clearLevel_36 {x : Nat} (k : X w mX8_clearLevel d Q 37 [some (.ref x)] (.ref x :: st) P) : X w mX8_clearLevel d Q 36 [some (.ref x)] st P := X_aload_n (M := mX8_clearLevel) (dX8_clearLevel_36) rfl rfl k
theorem dX8_clearLevel_37 : decode cX8_clearLevel 37 = .ok (.getfield 24, 3) := by decide +kernel
theorem sX8_clearLevel_37 {a : Nat} {fs : List Value} {v : Int32} (hP : P.1 a = some (xO 6 fs)) (hv : fs[4]? = some (.int v)) (k : X w mX8_clearLevel d Q 40 ls (.int v :: st) P) : X w mX8_clearLevel d Q 37 ls (.ref a :: st) P := X_get (M := mX8_clearLevel) (j := 4) (T := TX8) (dX8_clearLevel_37) rfl (by decide) x_in8 xw_65 hP hv k
theorem dX8_clearLevel_40 : decode cX8_clearLevel 40 = .ok (.lconst 0, 1) := by decide +kernel
theorem sX8_clearLevel_40 (k : X w mX8_clearLevel d Q 41 ls (.long (0 : Int64) :: st) P) : X w mX8_clearLevel d Q 40 ls st P := X_lconst (M := mX8_clearLevel) (dX8_clearLevel_40) (by decide) k
theorem dX8_clearLevel_41 : decode cX8_clearLevel 41 = .ok (.lastore, 1) := by decide +kernel
theorem sX8_clearLevel_41 {a n : Nat} {f : Nat → Int64} {i : Int32} {x : Int64} (hP : P.1 a = some (xJ n f)) (hi : vp_in i n) (k : X w mX8_clearLevel d Q 42 ls st (xs P a (xJ n (vp_updL f i.toNatClampNeg x)))) : X w mX8_clearLevel d Q 41 ls (.long x :: .int i :: .ref a :: st) P := X_last (M := mX8_clearLevel) (dX8_clearLevel_41) hP hi k
theorem dX8_clearLevel_42 : decode cX8_clearLevel 42 = .ok (.return_, 1) := by decide +kernel
theorem sX8_clearLevel_42 (hq : Q (.returned none) P) : X w mX8_clearLevel d Q 42 ls [] P := X_vret (M := mX8_clearLevel) (dX8_clearLevel_42) rfl hq
theorem dX9_init_0 : decode cX9_init 0 = .ok (.aload_n 0, 1) := by decide +kernel
theorem sX9_init_0 {x : Nat} (k : X w mX9_init d Q 1 [some (.ref x)] (.ref x :: st) P) : X w mX9_init d Q 0 [some (.ref x)] st P := X_aload_n (M := mX9_init) (dX9_init_0) rfl rfl k
theorem dX9_init_1 : decode cX9_init 1 = .ok (.invokespecial 1, 3) := by decide +kernel
theorem sX9_init_1 {a : Nat} (hst : (st.map fun v => v.category).sum ≤ 8) (k : X w mX9_init d Q 4 ls st P) : X w mX9_init d Q 1 ls (.ref a :: st) P := X_objInit (M := mX9_init) (dX9_init_1) xw_76 xw_20 xw_21 hst k
theorem dX9_init_4 : decode cX9_init 4 = .ok (.aload_n 0, 1) := by decide +kernel
theorem sX9_init_4 {x : Nat} (k : X w mX9_init d Q 5 [some (.ref x)] (.ref x :: st) P) : X w mX9_init d Q 4 [some (.ref x)] st P := X_aload_n (M := mX9_init) (dX9_init_4) rfl rfl k
theorem dX9_init_5 : decode cX9_init 5 = .ok (.iconst 0, 1) := by decide +kernel
theorem sX9_init_5 (k : X w mX9_init d Q 6 ls (.int (0 : Int32) :: st) P) : X w mX9_init d Q 5 ls st P := X_iconst (M := mX9_init) (dX9_init_5) (by decide) k
theorem dX9_init_6 : decode cX9_init 6 = .ok (.newarray .char, 2) := by decide +kernel
theorem sX9_init_6 {n : Int32} {N : Nat} (hn : ¬ n < 0) (hN : n.toNatClampNeg = N) (hb : N ≤ 10000) (hr1 : P.2.1 + 1 ≤ w.z + 601024) (hr2 : P.2.2 + N ≤ 7293034) (k : X w mX9_init d Q 8 ls (.ref P.2.1 :: st) (xal P (xA 2 N (fun _ => 0)) N)) : X w mX9_init d Q 6 ls (.int n :: st) P := X_newaI (M := mX9_init) (dX9_init_6) (Or.inr (Or.inl ⟨rfl, rfl⟩)) xw_77 hn hN hb hr1 hr2 k
theorem dX9_init_8 : decode cX9_init 8 = .ok (.putfield 7, 3) := by decide +kernel
theorem sX9_init_8 {a : Nat} {fs : List Value} {v : Nat} (hP : P.1 a = some (xO 7 fs)) (hl : 0 < fs.length) (k : X w mX9_init d Q 11 ls st (xs P a (xO 7 (fs.set 0 (.ref v))))) : X w mX9_init d Q 8 ls (.ref v :: .ref a :: st) P := X_put (M := mX9_init) (j := 0) (T := TX9) (dX9_init_8) rfl (by decide) x_c9 xw_78 rfl hP rfl rfl hl k
theorem dX9_init_11 : decode cX9_init 11 = .ok (.return_, 1) := by decide +kernel
theorem sX9_init_11 (hq : Q (.returned none) P) : X w mX9_init d Q 11 ls [] P := X_vret (M := mX9_init) (dX9_init_11) rfl hq
theorem dX9_open_0 : decode cX9_open 0 = .ok (.aload_n 0, 1) := by decide +kernel
theorem sX9_open_0 {l1 l2 : Option Value} {x : Nat} (k : X w mX9_open d Q 1 [some (.ref x), l1, l2] (.ref x :: st) P) : X w mX9_open d Q 0 [some (.ref x), l1, l2] st P := X_aload_n (M := mX9_open) (dX9_open_0) rfl rfl k
theorem dX9_open_1 : decode cX9_open 1 = .ok (.aload_n 1, 1) := by decide +kernel
theorem sX9_open_1 {l0 l2 : Option Value} {x : Nat} (k : X w mX9_open d Q 2 [l0, some (.ref x), l2] (.ref x :: st) P) : X w mX9_open d Q 1 [l0, some (.ref x), l2] st P := X_aload_n (M := mX9_open) (dX9_open_1) rfl rfl k
theorem dX9_open_2 : decode cX9_open 2 = .ok (.putfield 7, 3) := by decide +kernel
theorem sX9_open_2 {a : Nat} {fs : List Value} {v : Nat} (hP : P.1 a = some (xO 7 fs)) (hl : 0 < fs.length) (k : X w mX9_open d Q 5 ls st (xs P a (xO 7 (fs.set 0 (.ref v))))) : X w mX9_open d Q 2 ls (.ref v :: .ref a :: st) P := X_put (M := mX9_open) (j := 0) (T := TX9) (dX9_open_2) rfl (by decide) x_c9 xw_78 rfl hP rfl rfl hl k
theorem dX9_open_5 : decode cX9_open 5 = .ok (.aload_n 0, 1) := by decide +kernel
theorem sX9_open_5 {l1 l2 : Option Value} {x : Nat} (k : X w mX9_open d Q 6 [some (.ref x), l1, l2] (.ref x :: st) P) : X w mX9_open d Q 5 [some (.ref x), l1, l2] st P := X_aload_n (M := mX9_open) (dX9_open_5) rfl rfl k
theorem dX9_open_6 : decode cX9_open 6 = .ok (.iload_n 2, 1) := by decide +kernel
theorem sX9_open_6 {l0 l1 : Option Value} {x : Int32} (k : X w mX9_open d Q 7 [l0, l1, some (.int x)] (.int x :: st) P) : X w mX9_open d Q 6 [l0, l1, some (.int x)] st P := X_iload_n (M := mX9_open) (dX9_open_6) rfl rfl k
theorem dX9_open_7 : decode cX9_open 7 = .ok (.putfield 13, 3) := by decide +kernel
theorem sX9_open_7 {a : Nat} {fs : List Value} {v : Int32} (hP : P.1 a = some (xO 7 fs)) (hl : 1 < fs.length) (k : X w mX9_open d Q 10 ls st (xs P a (xO 7 (fs.set 1 (.int v))))) : X w mX9_open d Q 7 ls (.int v :: .ref a :: st) P := X_put (M := mX9_open) (j := 1) (T := TX9) (dX9_open_7) rfl (by decide) x_c9 xw_79 rfl hP rfl rfl hl k
theorem dX9_open_10 : decode cX9_open 10 = .ok (.aload_n 0, 1) := by decide +kernel
theorem sX9_open_10 {l1 l2 : Option Value} {x : Nat} (k : X w mX9_open d Q 11 [some (.ref x), l1, l2] (.ref x :: st) P) : X w mX9_open d Q 10 [some (.ref x), l1, l2] st P := X_aload_n (M := mX9_open) (dX9_open_10) rfl rfl k
theorem dX9_open_11 : decode cX9_open 11 = .ok (.iconst 0, 1) := by decide +kernel
theorem sX9_open_11 (k : X w mX9_open d Q 12 ls (.int (0 : Int32) :: st) P) : X w mX9_open d Q 11 ls st P := X_iconst (M := mX9_open) (dX9_open_11) (by decide) k
theorem dX9_open_12 : decode cX9_open 12 = .ok (.putfield 17, 3) := by decide +kernel
theorem sX9_open_12 {a : Nat} {fs : List Value} {v : Int32} (hP : P.1 a = some (xO 7 fs)) (hl : 3 < fs.length) (k : X w mX9_open d Q 15 ls st (xs P a (xO 7 (fs.set 3 (.int v))))) : X w mX9_open d Q 12 ls (.int v :: .ref a :: st) P := X_put (M := mX9_open) (j := 3) (T := TX9) (dX9_open_12) rfl (by decide) x_c9 xw_80 rfl hP rfl rfl hl k
theorem dX9_open_15 : decode cX9_open 15 = .ok (.aload_n 0, 1) := by decide +kernel
theorem sX9_open_15 {l1 l2 : Option Value} {x : Nat} (k : X w mX9_open d Q 16 [some (.ref x), l1, l2] (.ref x :: st) P) : X w mX9_open d Q 15 [some (.ref x), l1, l2] st P := X_aload_n (M := mX9_open) (dX9_open_15) rfl rfl k
theorem dX9_open_16 : decode cX9_open 16 = .ok (.invokevirtual 20, 3) := by decide +kernel
theorem sX9_open_16_g {b : Nat} {fs : List Value}  {Qc : Outcome → xH → Prop} (hst : (st.map fun v => v.category).sum ≤ 8) (hP : P.1 b = some (xO 7 fs)) (hC : xC w d mX9_step [.ref b] P Qc) (kr : ∀ v P1, Qc (.returned v) P1 → X w mX9_open (d + 1) Q 19 ls (v.toList ++ st) P1) (kt : ∀ q P1, Qc (.threw q) P1 → Xt w mX9_open (d + 1) Q 16 ls st P1 q) : X w mX9_open (d + 1) Q 16 ls (.ref b :: st) P := X_callV (M := mX9_open) (MC := mX9_step) (As := []) (T := TX9) (dX9_open_16) calX9_step xw_81 xw_82 xw_83 rfl rfl hP hC hst kr kt
theorem sX9_open_16 {b : Nat} {fs : List Value}  {P1 : xH} (hst : (st.map fun v => v.category).sum ≤ 8) (hP : P.1 b = some (xO 7 fs)) (hC : xC w d mX9_step [.ref b] P (xRet none P1)) (k : X w mX9_open (d + 1) Q 19 ls st P1) : X w mX9_open (d + 1) Q 16 ls (.ref b :: st) P := X_callV (M := mX9_open) (MC := mX9_step) (As := []) (T := TX9) (dX9_open_16) calX9_step xw_81 xw_82 xw_83 rfl rfl hP hC hst (fun v P2 h => by obtain ⟨h1, rfl⟩ := h; cases h1; exact k) (fun q P2 h => by cases h.1)
theorem sX9_open_16_r {b : Nat} {fs : List Value}  {Rp : xH → Prop} (hst : (st.map fun v => v.category).sum ≤ 8) (hP : P.1 b = some (xO 7 fs)) (hC : xC w d mX9_step [.ref b] P (xRl none Rp)) (k : ∀ P1, Rp P1 → X w mX9_open (d + 1) Q 19 ls st P1) : X w mX9_open (d + 1) Q 16 ls (.ref b :: st) P := X_callV (M := mX9_open) (MC := mX9_step) (As := []) (T := TX9) (dX9_open_16) calX9_step xw_81 xw_82 xw_83 rfl rfl hP hC hst (fun v P2 h => by obtain ⟨h1, hR⟩ := h; cases h1; exact k P2 hR) (fun q P2 h => by cases h.1)
theorem sX9_open_16_t {b : Nat} {fs : List Value}  {q : Nat} {P1 : xH} (hst : (st.map fun v => v.category).sum ≤ 8) (hP : P.1 b = some (xO 7 fs)) (hC : xC w d mX9_step [.ref b] P (xThr q P1)) (hq : Q (.threw q) P1) : X w mX9_open (d + 1) Q 16 ls (.ref b :: st) P := X_callV (M := mX9_open) (MC := mX9_step) (As := []) (T := TX9) (dX9_open_16) calX9_step xw_81 xw_82 xw_83 rfl rfl hP hC hst (fun v P2 h => by cases h.1) (fun q2 P2 h => by obtain ⟨h1, rfl⟩ := h; cases h1; exact Xt_out rfl hq)
theorem dX9_open_19 : decode cX9_open 19 = .ok (.return_, 1) := by decide +kernel
theorem sX9_open_19 (hq : Q (.returned none) P) : X w mX9_open d Q 19 ls [] P := X_vret (M := mX9_open) (dX9_open_19) rfl hq
theorem dX9_step_0 : decode cX9_step 0 = .ok (.aload_n 0, 1) := by decide +kernel
theorem sX9_step_0 {x : Nat} (k : X w mX9_step d Q 1 [some (.ref x)] (.ref x :: st) P) : X w mX9_step d Q 0 [some (.ref x)] st P := X_aload_n (M := mX9_step) (dX9_step_0) rfl rfl k
theorem dX9_step_1 : decode cX9_step 1 = .ok (.aload_n 0, 1) := by decide +kernel
theorem sX9_step_1 {x : Nat} (k : X w mX9_step d Q 2 [some (.ref x)] (.ref x :: st) P) : X w mX9_step d Q 1 [some (.ref x)] st P := X_aload_n (M := mX9_step) (dX9_step_1) rfl rfl k
theorem dX9_step_2 : decode cX9_step 2 = .ok (.getfield 17, 3) := by decide +kernel
theorem sX9_step_2 {a : Nat} {fs : List Value} {v : Int32} (hP : P.1 a = some (xO 7 fs)) (hv : fs[3]? = some (.int v)) (k : X w mX9_step d Q 5 ls (.int v :: st) P) : X w mX9_step d Q 2 ls (.ref a :: st) P := X_get (M := mX9_step) (j := 3) (T := TX9) (dX9_step_2) rfl (by decide) x_in9 xw_80 hP hv k
theorem dX9_step_5 : decode cX9_step 5 = .ok (.putfield 23, 3) := by decide +kernel
theorem sX9_step_5 {a : Nat} {fs : List Value} {v : Int32} (hP : P.1 a = some (xO 7 fs)) (hl : 2 < fs.length) (k : X w mX9_step d Q 8 ls st (xs P a (xO 7 (fs.set 2 (.int v))))) : X w mX9_step d Q 5 ls (.int v :: .ref a :: st) P := X_put (M := mX9_step) (j := 2) (T := TX9) (dX9_step_5) rfl (by decide) x_c9 xw_84 rfl hP rfl rfl hl k
theorem dX9_step_8 : decode cX9_step 8 = .ok (.aload_n 0, 1) := by decide +kernel
theorem sX9_step_8 {x : Nat} (k : X w mX9_step d Q 9 [some (.ref x)] (.ref x :: st) P) : X w mX9_step d Q 8 [some (.ref x)] st P := X_aload_n (M := mX9_step) (dX9_step_8) rfl rfl k
theorem dX9_step_9 : decode cX9_step 9 = .ok (.getfield 23, 3) := by decide +kernel
theorem sX9_step_9 {a : Nat} {fs : List Value} {v : Int32} (hP : P.1 a = some (xO 7 fs)) (hv : fs[2]? = some (.int v)) (k : X w mX9_step d Q 12 ls (.int v :: st) P) : X w mX9_step d Q 9 ls (.ref a :: st) P := X_get (M := mX9_step) (j := 2) (T := TX9) (dX9_step_9) rfl (by decide) x_in9 xw_84 hP hv k
theorem dX9_step_12 : decode cX9_step 12 = .ok (.aload_n 0, 1) := by decide +kernel
theorem sX9_step_12 {x : Nat} (k : X w mX9_step d Q 13 [some (.ref x)] (.ref x :: st) P) : X w mX9_step d Q 12 [some (.ref x)] st P := X_aload_n (M := mX9_step) (dX9_step_12) rfl rfl k
theorem dX9_step_13 : decode cX9_step 13 = .ok (.getfield 13, 3) := by decide +kernel
theorem sX9_step_13 {a : Nat} {fs : List Value} {v : Int32} (hP : P.1 a = some (xO 7 fs)) (hv : fs[1]? = some (.int v)) (k : X w mX9_step d Q 16 ls (.int v :: st) P) : X w mX9_step d Q 13 ls (.ref a :: st) P := X_get (M := mX9_step) (j := 1) (T := TX9) (dX9_step_13) rfl (by decide) x_in9 xw_79 hP hv k
theorem dX9_step_16 : decode cX9_step 16 = .ok (.if_icmp .ge 44, 3) := by decide +kernel
theorem sX9_step_16 {x y : Int32} (kt : y ≤ x → X w mX9_step d Q 60 ls st P) (kf : ¬ y ≤ x → X w mX9_step d Q 19 ls st P) : X w mX9_step d Q 16 ls (.int y :: .int x :: st) P := X_icmp_ge (M := mX9_step) (dX9_step_16) (by decide) kt kf
theorem dX9_step_19 : decode cX9_step 19 = .ok (.aload_n 0, 1) := by decide +kernel
theorem sX9_step_19 {x : Nat} (k : X w mX9_step d Q 20 [some (.ref x)] (.ref x :: st) P) : X w mX9_step d Q 19 [some (.ref x)] st P := X_aload_n (M := mX9_step) (dX9_step_19) rfl rfl k
theorem dX9_step_20 : decode cX9_step 20 = .ok (.getfield 7, 3) := by decide +kernel
theorem sX9_step_20 {a : Nat} {fs : List Value} {v : Nat} (hP : P.1 a = some (xO 7 fs)) (hv : fs[0]? = some (.ref v)) (k : X w mX9_step d Q 23 ls (.ref v :: st) P) : X w mX9_step d Q 20 ls (.ref a :: st) P := X_get (M := mX9_step) (j := 0) (T := TX9) (dX9_step_20) rfl (by decide) x_in9 xw_78 hP hv k
theorem dX9_step_23 : decode cX9_step 23 = .ok (.aload_n 0, 1) := by decide +kernel
theorem sX9_step_23 {x : Nat} (k : X w mX9_step d Q 24 [some (.ref x)] (.ref x :: st) P) : X w mX9_step d Q 23 [some (.ref x)] st P := X_aload_n (M := mX9_step) (dX9_step_23) rfl rfl k
theorem dX9_step_24 : decode cX9_step 24 = .ok (.getfield 23, 3) := by decide +kernel
theorem sX9_step_24 {a : Nat} {fs : List Value} {v : Int32} (hP : P.1 a = some (xO 7 fs)) (hv : fs[2]? = some (.int v)) (k : X w mX9_step d Q 27 ls (.int v :: st) P) : X w mX9_step d Q 24 ls (.ref a :: st) P := X_get (M := mX9_step) (j := 2) (T := TX9) (dX9_step_24) rfl (by decide) x_in9 xw_84 hP hv k
theorem dX9_step_27 : decode cX9_step 27 = .ok (.caload, 1) := by decide +kernel
theorem sX9_step_27 {a n : Nat} {f : Nat → Int32} {i : Int32} (hP : P.1 a = some (xA 2 n f)) (hi : vp_in i n) (k : X w mX9_step d Q 28 ls (.int (f i.toNatClampNeg) :: st) P) : X w mX9_step d Q 27 ls (.int i :: .ref a :: st) P := X_cald (M := mX9_step) (dX9_step_27) hP hi k
theorem dX9_step_28 : decode cX9_step 28 = .ok (.bipush 32, 2) := by decide +kernel
theorem sX9_step_28 (k : X w mX9_step d Q 30 ls (.int (32 : Int32) :: st) P) : X w mX9_step d Q 28 ls st P := X_bipush (M := mX9_step) (dX9_step_28) (by decide) k
theorem dX9_step_30 : decode cX9_step 30 = .ok (.if_icmp .eq 17, 3) := by decide +kernel
theorem sX9_step_30 {x y : Int32} (kt : x = y → X w mX9_step d Q 47 ls st P) (kf : ¬ x = y → X w mX9_step d Q 33 ls st P) : X w mX9_step d Q 30 ls (.int y :: .int x :: st) P := X_icmp_eq (M := mX9_step) (dX9_step_30) (by decide) kt kf
theorem dX9_step_33 : decode cX9_step 33 = .ok (.aload_n 0, 1) := by decide +kernel
theorem sX9_step_33 {x : Nat} (k : X w mX9_step d Q 34 [some (.ref x)] (.ref x :: st) P) : X w mX9_step d Q 33 [some (.ref x)] st P := X_aload_n (M := mX9_step) (dX9_step_33) rfl rfl k
theorem dX9_step_34 : decode cX9_step 34 = .ok (.getfield 7, 3) := by decide +kernel
theorem sX9_step_34 {a : Nat} {fs : List Value} {v : Nat} (hP : P.1 a = some (xO 7 fs)) (hv : fs[0]? = some (.ref v)) (k : X w mX9_step d Q 37 ls (.ref v :: st) P) : X w mX9_step d Q 34 ls (.ref a :: st) P := X_get (M := mX9_step) (j := 0) (T := TX9) (dX9_step_34) rfl (by decide) x_in9 xw_78 hP hv k
theorem dX9_step_37 : decode cX9_step 37 = .ok (.aload_n 0, 1) := by decide +kernel
theorem sX9_step_37 {x : Nat} (k : X w mX9_step d Q 38 [some (.ref x)] (.ref x :: st) P) : X w mX9_step d Q 37 [some (.ref x)] st P := X_aload_n (M := mX9_step) (dX9_step_37) rfl rfl k
theorem dX9_step_38 : decode cX9_step 38 = .ok (.getfield 23, 3) := by decide +kernel
theorem sX9_step_38 {a : Nat} {fs : List Value} {v : Int32} (hP : P.1 a = some (xO 7 fs)) (hv : fs[2]? = some (.int v)) (k : X w mX9_step d Q 41 ls (.int v :: st) P) : X w mX9_step d Q 38 ls (.ref a :: st) P := X_get (M := mX9_step) (j := 2) (T := TX9) (dX9_step_38) rfl (by decide) x_in9 xw_84 hP hv k
theorem dX9_step_41 : decode cX9_step 41 = .ok (.caload, 1) := by decide +kernel
theorem sX9_step_41 {a n : Nat} {f : Nat → Int32} {i : Int32} (hP : P.1 a = some (xA 2 n f)) (hi : vp_in i n) (k : X w mX9_step d Q 42 ls (.int (f i.toNatClampNeg) :: st) P) : X w mX9_step d Q 41 ls (.int i :: .ref a :: st) P := X_cald (M := mX9_step) (dX9_step_41) hP hi k
theorem dX9_step_42 : decode cX9_step 42 = .ok (.bipush 10, 2) := by decide +kernel
theorem sX9_step_42 (k : X w mX9_step d Q 44 ls (.int (10 : Int32) :: st) P) : X w mX9_step d Q 42 ls st P := X_bipush (M := mX9_step) (dX9_step_42) (by decide) k
theorem dX9_step_44 : decode cX9_step 44 = .ok (.if_icmp .ne 16, 3) := by decide +kernel
theorem sX9_step_44 {x y : Int32} (kt : ¬ x = y → X w mX9_step d Q 60 ls st P) (kf : x = y → X w mX9_step d Q 47 ls st P) : X w mX9_step d Q 44 ls (.int y :: .int x :: st) P := X_icmp_ne (M := mX9_step) (dX9_step_44) (by decide) kt kf
theorem dX9_step_47 : decode cX9_step 47 = .ok (.aload_n 0, 1) := by decide +kernel
theorem sX9_step_47 {x : Nat} (k : X w mX9_step d Q 48 [some (.ref x)] (.ref x :: st) P) : X w mX9_step d Q 47 [some (.ref x)] st P := X_aload_n (M := mX9_step) (dX9_step_47) rfl rfl k
theorem dX9_step_48 : decode cX9_step 48 = .ok (.dup, 1) := by decide +kernel
theorem sX9_step_48 {v : Value} (hv : v.category = 1) (k : X w mX9_step d Q 49 ls (v :: v :: st) P) : X w mX9_step d Q 48 ls (v :: st) P := X_dup (M := mX9_step) (dX9_step_48) hv k
theorem dX9_step_49 : decode cX9_step 49 = .ok (.getfield 23, 3) := by decide +kernel
theorem sX9_step_49 {a : Nat} {fs : List Value} {v : Int32} (hP : P.1 a = some (xO 7 fs)) (hv : fs[2]? = some (.int v)) (k : X w mX9_step d Q 52 ls (.int v :: st) P) : X w mX9_step d Q 49 ls (.ref a :: st) P := X_get (M := mX9_step) (j := 2) (T := TX9) (dX9_step_49) rfl (by decide) x_in9 xw_84 hP hv k
theorem dX9_step_52 : decode cX9_step 52 = .ok (.iconst 1, 1) := by decide +kernel
theorem sX9_step_52 (k : X w mX9_step d Q 53 ls (.int (1 : Int32) :: st) P) : X w mX9_step d Q 52 ls st P := X_iconst (M := mX9_step) (dX9_step_52) (by decide) k
theorem dX9_step_53 : decode cX9_step 53 = .ok (.iadd, 1) := by decide +kernel
theorem sX9_step_53 {x y : Int32} (k : X w mX9_step d Q 54 ls (.int (x + y) :: st) P) : X w mX9_step d Q 53 ls (.int y :: .int x :: st) P := X_iadd (M := mX9_step) (dX9_step_53) k
theorem dX9_step_54 : decode cX9_step 54 = .ok (.putfield 23, 3) := by decide +kernel
theorem sX9_step_54 {a : Nat} {fs : List Value} {v : Int32} (hP : P.1 a = some (xO 7 fs)) (hl : 2 < fs.length) (k : X w mX9_step d Q 57 ls st (xs P a (xO 7 (fs.set 2 (.int v))))) : X w mX9_step d Q 54 ls (.int v :: .ref a :: st) P := X_put (M := mX9_step) (j := 2) (T := TX9) (dX9_step_54) rfl (by decide) x_c9 xw_84 rfl hP rfl rfl hl k
theorem dX9_step_57 : decode cX9_step 57 = .ok (.goto (-49), 3) := by decide +kernel
theorem sX9_step_57 (k : X w mX9_step d Q 8 ls st P) : X w mX9_step d Q 57 ls st P := X_goto (M := mX9_step) (dX9_step_57) (by decide) k
theorem dX9_step_60 : decode cX9_step 60 = .ok (.aload_n 0, 1) := by decide +kernel
theorem sX9_step_60 {x : Nat} (k : X w mX9_step d Q 61 [some (.ref x)] (.ref x :: st) P) : X w mX9_step d Q 60 [some (.ref x)] st P := X_aload_n (M := mX9_step) (dX9_step_60) rfl rfl k
theorem dX9_step_61 : decode cX9_step 61 = .ok (.aload_n 0, 1) := by decide +kernel
theorem sX9_step_61 {x : Nat} (k : X w mX9_step d Q 62 [some (.ref x)] (.ref x :: st) P) : X w mX9_step d Q 61 [some (.ref x)] st P := X_aload_n (M := mX9_step) (dX9_step_61) rfl rfl k
theorem dX9_step_62 : decode cX9_step 62 = .ok (.getfield 23, 3) := by decide +kernel
theorem sX9_step_62 {a : Nat} {fs : List Value} {v : Int32} (hP : P.1 a = some (xO 7 fs)) (hv : fs[2]? = some (.int v)) (k : X w mX9_step d Q 65 ls (.int v :: st) P) : X w mX9_step d Q 62 ls (.ref a :: st) P := X_get (M := mX9_step) (j := 2) (T := TX9) (dX9_step_62) rfl (by decide) x_in9 xw_84 hP hv k
theorem dX9_step_65 : decode cX9_step 65 = .ok (.putfield 17, 3) := by decide +kernel
theorem sX9_step_65 {a : Nat} {fs : List Value} {v : Int32} (hP : P.1 a = some (xO 7 fs)) (hl : 3 < fs.length) (k : X w mX9_step d Q 68 ls st (xs P a (xO 7 (fs.set 3 (.int v))))) : X w mX9_step d Q 65 ls (.int v :: .ref a :: st) P := X_put (M := mX9_step) (j := 3) (T := TX9) (dX9_step_65) rfl (by decide) x_c9 xw_80 rfl hP rfl rfl hl k
theorem dX9_step_68 : decode cX9_step 68 = .ok (.aload_n 0, 1) := by decide +kernel
theorem sX9_step_68 {x : Nat} (k : X w mX9_step d Q 69 [some (.ref x)] (.ref x :: st) P) : X w mX9_step d Q 68 [some (.ref x)] st P := X_aload_n (M := mX9_step) (dX9_step_68) rfl rfl k
theorem dX9_step_69 : decode cX9_step 69 = .ok (.getfield 23, 3) := by decide +kernel
theorem sX9_step_69 {a : Nat} {fs : List Value} {v : Int32} (hP : P.1 a = some (xO 7 fs)) (hv : fs[2]? = some (.int v)) (k : X w mX9_step d Q 72 ls (.int v :: st) P) : X w mX9_step d Q 69 ls (.ref a :: st) P := X_get (M := mX9_step) (j := 2) (T := TX9) (dX9_step_69) rfl (by decide) x_in9 xw_84 hP hv k
theorem dX9_step_72 : decode cX9_step 72 = .ok (.aload_n 0, 1) := by decide +kernel
theorem sX9_step_72 {x : Nat} (k : X w mX9_step d Q 73 [some (.ref x)] (.ref x :: st) P) : X w mX9_step d Q 72 [some (.ref x)] st P := X_aload_n (M := mX9_step) (dX9_step_72) rfl rfl k
theorem dX9_step_73 : decode cX9_step 73 = .ok (.getfield 13, 3) := by decide +kernel
theorem sX9_step_73 {a : Nat} {fs : List Value} {v : Int32} (hP : P.1 a = some (xO 7 fs)) (hv : fs[1]? = some (.int v)) (k : X w mX9_step d Q 76 ls (.int v :: st) P) : X w mX9_step d Q 73 ls (.ref a :: st) P := X_get (M := mX9_step) (j := 1) (T := TX9) (dX9_step_73) rfl (by decide) x_in9 xw_79 hP hv k
theorem dX9_step_76 : decode cX9_step 76 = .ok (.if_icmp .lt 11, 3) := by decide +kernel
theorem sX9_step_76 {x y : Int32} (kt : x < y → X w mX9_step d Q 87 ls st P) (kf : ¬ x < y → X w mX9_step d Q 79 ls st P) : X w mX9_step d Q 76 ls (.int y :: .int x :: st) P := X_icmp_lt (M := mX9_step) (dX9_step_76) (by decide) kt kf
theorem dX9_step_79 : decode cX9_step 79 = .ok (.aload_n 0, 1) := by decide +kernel
theorem sX9_step_79 {x : Nat} (k : X w mX9_step d Q 80 [some (.ref x)] (.ref x :: st) P) : X w mX9_step d Q 79 [some (.ref x)] st P := X_aload_n (M := mX9_step) (dX9_step_79) rfl rfl k
theorem dX9_step_80 : decode cX9_step 80 = .ok (.iconst 0, 1) := by decide +kernel
theorem sX9_step_80 (k : X w mX9_step d Q 81 ls (.int (0 : Int32) :: st) P) : X w mX9_step d Q 80 ls st P := X_iconst (M := mX9_step) (dX9_step_80) (by decide) k
theorem dX9_step_81 : decode cX9_step 81 = .ok (.putfield 26, 3) := by decide +kernel
theorem sX9_step_81 {a : Nat} {fs : List Value} {v : Int32} (hP : P.1 a = some (xO 7 fs)) (hl : 4 < fs.length) (k : X w mX9_step d Q 84 ls st (xs P a (xO 7 (fs.set 4 (.int v))))) : X w mX9_step d Q 81 ls (.int v :: .ref a :: st) P := X_put (M := mX9_step) (j := 4) (T := TX9) (dX9_step_81) rfl (by decide) x_c9 xw_85 rfl hP rfl rfl hl k
theorem dX9_step_84 : decode cX9_step 84 = .ok (.goto 193, 3) := by decide +kernel
theorem sX9_step_84 (k : X w mX9_step d Q 277 ls st P) : X w mX9_step d Q 84 ls st P := X_goto (M := mX9_step) (dX9_step_84) (by decide) k
theorem dX9_step_87 : decode cX9_step 87 = .ok (.aload_n 0, 1) := by decide +kernel
theorem sX9_step_87 {x : Nat} (k : X w mX9_step d Q 88 [some (.ref x)] (.ref x :: st) P) : X w mX9_step d Q 87 [some (.ref x)] st P := X_aload_n (M := mX9_step) (dX9_step_87) rfl rfl k
theorem dX9_step_88 : decode cX9_step 88 = .ok (.getfield 7, 3) := by decide +kernel
theorem sX9_step_88 {a : Nat} {fs : List Value} {v : Nat} (hP : P.1 a = some (xO 7 fs)) (hv : fs[0]? = some (.ref v)) (k : X w mX9_step d Q 91 ls (.ref v :: st) P) : X w mX9_step d Q 88 ls (.ref a :: st) P := X_get (M := mX9_step) (j := 0) (T := TX9) (dX9_step_88) rfl (by decide) x_in9 xw_78 hP hv k
theorem dX9_step_91 : decode cX9_step 91 = .ok (.aload_n 0, 1) := by decide +kernel
theorem sX9_step_91 {x : Nat} (k : X w mX9_step d Q 92 [some (.ref x)] (.ref x :: st) P) : X w mX9_step d Q 91 [some (.ref x)] st P := X_aload_n (M := mX9_step) (dX9_step_91) rfl rfl k
theorem dX9_step_92 : decode cX9_step 92 = .ok (.getfield 23, 3) := by decide +kernel
theorem sX9_step_92 {a : Nat} {fs : List Value} {v : Int32} (hP : P.1 a = some (xO 7 fs)) (hv : fs[2]? = some (.int v)) (k : X w mX9_step d Q 95 ls (.int v :: st) P) : X w mX9_step d Q 92 ls (.ref a :: st) P := X_get (M := mX9_step) (j := 2) (T := TX9) (dX9_step_92) rfl (by decide) x_in9 xw_84 hP hv k
theorem dX9_step_95 : decode cX9_step 95 = .ok (.caload, 1) := by decide +kernel
theorem sX9_step_95 {a n : Nat} {f : Nat → Int32} {i : Int32} (hP : P.1 a = some (xA 2 n f)) (hi : vp_in i n) (k : X w mX9_step d Q 96 ls (.int (f i.toNatClampNeg) :: st) P) : X w mX9_step d Q 95 ls (.int i :: .ref a :: st) P := X_cald (M := mX9_step) (dX9_step_95) hP hi k
theorem dX9_step_96 : decode cX9_step 96 = .ok (.invokestatic 29, 3) := by decide +kernel
theorem sX9_step_96_g {a0 : Int32} {Qc : Outcome → xH → Prop} (hst : (st.map fun v => v.category).sum ≤ 8) (hC : xC w d mX9_isDigit [.int a0] P Qc) (kr : ∀ v P1, Qc (.returned v) P1 → X w mX9_step (d + 1) Q 99 ls (v.toList ++ st) P1) (kt : ∀ q P1, Qc (.threw q) P1 → Xt w mX9_step (d + 1) Q 96 ls st P1 q) : X w mX9_step (d + 1) Q 96 ls (.int a0 :: st) P := X_callS (M := mX9_step) (MC := mX9_isDigit) (As := [.int a0]) (dX9_step_96) calX9_isDigit xw_86 xw_87 rfl hC hst kr kt
theorem sX9_step_96 {a0 : Int32} {r : Int32} {P1 : xH} (hst : (st.map fun v => v.category).sum ≤ 8) (hC : xC w d mX9_isDigit [.int a0] P (xRet (some (.int r)) P1)) (k : X w mX9_step (d + 1) Q 99 ls (.int r :: st) P1) : X w mX9_step (d + 1) Q 96 ls (.int a0 :: st) P := X_callS (M := mX9_step) (MC := mX9_isDigit) (As := [.int a0]) (dX9_step_96) calX9_isDigit xw_86 xw_87 rfl hC hst (fun v P2 h => by obtain ⟨h1, rfl⟩ := h; cases h1; exact k) (fun q P2 h => by cases h.1)
theorem sX9_step_96_r {a0 : Int32} {r : Int32} {Rp : xH → Prop} (hst : (st.map fun v => v.category).sum ≤ 8) (hC : xC w d mX9_isDigit [.int a0] P (xRl (some (.int r)) Rp)) (k : ∀ P1, Rp P1 → X w mX9_step (d + 1) Q 99 ls (.int r :: st) P1) : X w mX9_step (d + 1) Q 96 ls (.int a0 :: st) P := X_callS (M := mX9_step) (MC := mX9_isDigit) (As := [.int a0]) (dX9_step_96) calX9_isDigit xw_86 xw_87 rfl hC hst (fun v P2 h => by obtain ⟨h1, hR⟩ := h; cases h1; exact k P2 hR) (fun q P2 h => by cases h.1)
theorem sX9_step_96_t {a0 : Int32} {q : Nat} {P1 : xH} (hst : (st.map fun v => v.category).sum ≤ 8) (hC : xC w d mX9_isDigit [.int a0] P (xThr q P1)) (hq : Q (.threw q) P1) : X w mX9_step (d + 1) Q 96 ls (.int a0 :: st) P := X_callS (M := mX9_step) (MC := mX9_isDigit) (As := [.int a0]) (dX9_step_96) calX9_isDigit xw_86 xw_87 rfl hC hst (fun v P2 h => by cases h.1) (fun q2 P2 h => by obtain ⟨h1, rfl⟩ := h; cases h1; exact Xt_out rfl hq)
theorem dX9_step_99 : decode cX9_step 99 = .ok (.ifCond .eq 68, 3) := by decide +kernel
theorem sX9_step_99 {x : Int32} (kt : x = 0 → X w mX9_step d Q 167 ls st P) (kf : ¬ x = 0 → X w mX9_step d Q 102 ls st P) : X w mX9_step d Q 99 ls (.int x :: st) P := X_if_eq (M := mX9_step) (dX9_step_99) (by decide) kt kf
theorem dX9_step_102 : decode cX9_step 102 = .ok (.aload_n 0, 1) := by decide +kernel
theorem sX9_step_102 {x : Nat} (k : X w mX9_step d Q 103 [some (.ref x)] (.ref x :: st) P) : X w mX9_step d Q 102 [some (.ref x)] st P := X_aload_n (M := mX9_step) (dX9_step_102) rfl rfl k
theorem dX9_step_103 : decode cX9_step 103 = .ok (.getfield 17, 3) := by decide +kernel
theorem sX9_step_103 {a : Nat} {fs : List Value} {v : Int32} (hP : P.1 a = some (xO 7 fs)) (hv : fs[3]? = some (.int v)) (k : X w mX9_step d Q 106 ls (.int v :: st) P) : X w mX9_step d Q 103 ls (.ref a :: st) P := X_get (M := mX9_step) (j := 3) (T := TX9) (dX9_step_103) rfl (by decide) x_in9 xw_80 hP hv k
theorem dX9_step_106 : decode cX9_step 106 = .ok (.aload_n 0, 1) := by decide +kernel
theorem sX9_step_106 {x : Nat} (k : X w mX9_step d Q 107 [some (.ref x)] (.ref x :: st) P) : X w mX9_step d Q 106 [some (.ref x)] st P := X_aload_n (M := mX9_step) (dX9_step_106) rfl rfl k
theorem dX9_step_107 : decode cX9_step 107 = .ok (.getfield 13, 3) := by decide +kernel
theorem sX9_step_107 {a : Nat} {fs : List Value} {v : Int32} (hP : P.1 a = some (xO 7 fs)) (hv : fs[1]? = some (.int v)) (k : X w mX9_step d Q 110 ls (.int v :: st) P) : X w mX9_step d Q 107 ls (.ref a :: st) P := X_get (M := mX9_step) (j := 1) (T := TX9) (dX9_step_107) rfl (by decide) x_in9 xw_79 hP hv k
theorem dX9_step_110 : decode cX9_step 110 = .ok (.if_icmp .ge 31, 3) := by decide +kernel
theorem sX9_step_110 {x y : Int32} (kt : y ≤ x → X w mX9_step d Q 141 ls st P) (kf : ¬ y ≤ x → X w mX9_step d Q 113 ls st P) : X w mX9_step d Q 110 ls (.int y :: .int x :: st) P := X_icmp_ge (M := mX9_step) (dX9_step_110) (by decide) kt kf
theorem dX9_step_113 : decode cX9_step 113 = .ok (.aload_n 0, 1) := by decide +kernel
theorem sX9_step_113 {x : Nat} (k : X w mX9_step d Q 114 [some (.ref x)] (.ref x :: st) P) : X w mX9_step d Q 113 [some (.ref x)] st P := X_aload_n (M := mX9_step) (dX9_step_113) rfl rfl k
theorem dX9_step_114 : decode cX9_step 114 = .ok (.getfield 7, 3) := by decide +kernel
theorem sX9_step_114 {a : Nat} {fs : List Value} {v : Nat} (hP : P.1 a = some (xO 7 fs)) (hv : fs[0]? = some (.ref v)) (k : X w mX9_step d Q 117 ls (.ref v :: st) P) : X w mX9_step d Q 114 ls (.ref a :: st) P := X_get (M := mX9_step) (j := 0) (T := TX9) (dX9_step_114) rfl (by decide) x_in9 xw_78 hP hv k
theorem dX9_step_117 : decode cX9_step 117 = .ok (.aload_n 0, 1) := by decide +kernel
theorem sX9_step_117 {x : Nat} (k : X w mX9_step d Q 118 [some (.ref x)] (.ref x :: st) P) : X w mX9_step d Q 117 [some (.ref x)] st P := X_aload_n (M := mX9_step) (dX9_step_117) rfl rfl k
theorem dX9_step_118 : decode cX9_step 118 = .ok (.getfield 17, 3) := by decide +kernel
theorem sX9_step_118 {a : Nat} {fs : List Value} {v : Int32} (hP : P.1 a = some (xO 7 fs)) (hv : fs[3]? = some (.int v)) (k : X w mX9_step d Q 121 ls (.int v :: st) P) : X w mX9_step d Q 118 ls (.ref a :: st) P := X_get (M := mX9_step) (j := 3) (T := TX9) (dX9_step_118) rfl (by decide) x_in9 xw_80 hP hv k
theorem dX9_step_121 : decode cX9_step 121 = .ok (.caload, 1) := by decide +kernel
theorem sX9_step_121 {a n : Nat} {f : Nat → Int32} {i : Int32} (hP : P.1 a = some (xA 2 n f)) (hi : vp_in i n) (k : X w mX9_step d Q 122 ls (.int (f i.toNatClampNeg) :: st) P) : X w mX9_step d Q 121 ls (.int i :: .ref a :: st) P := X_cald (M := mX9_step) (dX9_step_121) hP hi k
theorem dX9_step_122 : decode cX9_step 122 = .ok (.invokestatic 29, 3) := by decide +kernel
theorem sX9_step_122_g {a0 : Int32} {Qc : Outcome → xH → Prop} (hst : (st.map fun v => v.category).sum ≤ 8) (hC : xC w d mX9_isDigit [.int a0] P Qc) (kr : ∀ v P1, Qc (.returned v) P1 → X w mX9_step (d + 1) Q 125 ls (v.toList ++ st) P1) (kt : ∀ q P1, Qc (.threw q) P1 → Xt w mX9_step (d + 1) Q 122 ls st P1 q) : X w mX9_step (d + 1) Q 122 ls (.int a0 :: st) P := X_callS (M := mX9_step) (MC := mX9_isDigit) (As := [.int a0]) (dX9_step_122) calX9_isDigit xw_86 xw_87 rfl hC hst kr kt
theorem sX9_step_122 {a0 : Int32} {r : Int32} {P1 : xH} (hst : (st.map fun v => v.category).sum ≤ 8) (hC : xC w d mX9_isDigit [.int a0] P (xRet (some (.int r)) P1)) (k : X w mX9_step (d + 1) Q 125 ls (.int r :: st) P1) : X w mX9_step (d + 1) Q 122 ls (.int a0 :: st) P := X_callS (M := mX9_step) (MC := mX9_isDigit) (As := [.int a0]) (dX9_step_122) calX9_isDigit xw_86 xw_87 rfl hC hst (fun v P2 h => by obtain ⟨h1, rfl⟩ := h; cases h1; exact k) (fun q P2 h => by cases h.1)
theorem sX9_step_122_r {a0 : Int32} {r : Int32} {Rp : xH → Prop} (hst : (st.map fun v => v.category).sum ≤ 8) (hC : xC w d mX9_isDigit [.int a0] P (xRl (some (.int r)) Rp)) (k : ∀ P1, Rp P1 → X w mX9_step (d + 1) Q 125 ls (.int r :: st) P1) : X w mX9_step (d + 1) Q 122 ls (.int a0 :: st) P := X_callS (M := mX9_step) (MC := mX9_isDigit) (As := [.int a0]) (dX9_step_122) calX9_isDigit xw_86 xw_87 rfl hC hst (fun v P2 h => by obtain ⟨h1, hR⟩ := h; cases h1; exact k P2 hR) (fun q P2 h => by cases h.1)
theorem sX9_step_122_t {a0 : Int32} {q : Nat} {P1 : xH} (hst : (st.map fun v => v.category).sum ≤ 8) (hC : xC w d mX9_isDigit [.int a0] P (xThr q P1)) (hq : Q (.threw q) P1) : X w mX9_step (d + 1) Q 122 ls (.int a0 :: st) P := X_callS (M := mX9_step) (MC := mX9_isDigit) (As := [.int a0]) (dX9_step_122) calX9_isDigit xw_86 xw_87 rfl hC hst (fun v P2 h => by cases h.1) (fun q2 P2 h => by obtain ⟨h1, rfl⟩ := h; cases h1; exact Xt_out rfl hq)
theorem dX9_step_125 : decode cX9_step 125 = .ok (.ifCond .eq 16, 3) := by decide +kernel
theorem sX9_step_125 {x : Int32} (kt : x = 0 → X w mX9_step d Q 141 ls st P) (kf : ¬ x = 0 → X w mX9_step d Q 128 ls st P) : X w mX9_step d Q 125 ls (.int x :: st) P := X_if_eq (M := mX9_step) (dX9_step_125) (by decide) kt kf
theorem dX9_step_128 : decode cX9_step 128 = .ok (.aload_n 0, 1) := by decide +kernel
theorem sX9_step_128 {x : Nat} (k : X w mX9_step d Q 129 [some (.ref x)] (.ref x :: st) P) : X w mX9_step d Q 128 [some (.ref x)] st P := X_aload_n (M := mX9_step) (dX9_step_128) rfl rfl k
theorem dX9_step_129 : decode cX9_step 129 = .ok (.dup, 1) := by decide +kernel
theorem sX9_step_129 {v : Value} (hv : v.category = 1) (k : X w mX9_step d Q 130 ls (v :: v :: st) P) : X w mX9_step d Q 129 ls (v :: st) P := X_dup (M := mX9_step) (dX9_step_129) hv k
theorem dX9_step_130 : decode cX9_step 130 = .ok (.getfield 17, 3) := by decide +kernel
theorem sX9_step_130 {a : Nat} {fs : List Value} {v : Int32} (hP : P.1 a = some (xO 7 fs)) (hv : fs[3]? = some (.int v)) (k : X w mX9_step d Q 133 ls (.int v :: st) P) : X w mX9_step d Q 130 ls (.ref a :: st) P := X_get (M := mX9_step) (j := 3) (T := TX9) (dX9_step_130) rfl (by decide) x_in9 xw_80 hP hv k
theorem dX9_step_133 : decode cX9_step 133 = .ok (.iconst 1, 1) := by decide +kernel
theorem sX9_step_133 (k : X w mX9_step d Q 134 ls (.int (1 : Int32) :: st) P) : X w mX9_step d Q 133 ls st P := X_iconst (M := mX9_step) (dX9_step_133) (by decide) k
theorem dX9_step_134 : decode cX9_step 134 = .ok (.iadd, 1) := by decide +kernel
theorem sX9_step_134 {x y : Int32} (k : X w mX9_step d Q 135 ls (.int (x + y) :: st) P) : X w mX9_step d Q 134 ls (.int y :: .int x :: st) P := X_iadd (M := mX9_step) (dX9_step_134) k
theorem dX9_step_135 : decode cX9_step 135 = .ok (.putfield 17, 3) := by decide +kernel
theorem sX9_step_135 {a : Nat} {fs : List Value} {v : Int32} (hP : P.1 a = some (xO 7 fs)) (hl : 3 < fs.length) (k : X w mX9_step d Q 138 ls st (xs P a (xO 7 (fs.set 3 (.int v))))) : X w mX9_step d Q 135 ls (.int v :: .ref a :: st) P := X_put (M := mX9_step) (j := 3) (T := TX9) (dX9_step_135) rfl (by decide) x_c9 xw_80 rfl hP rfl rfl hl k
theorem dX9_step_138 : decode cX9_step 138 = .ok (.goto (-36), 3) := by decide +kernel
theorem sX9_step_138 (k : X w mX9_step d Q 102 ls st P) : X w mX9_step d Q 138 ls st P := X_goto (M := mX9_step) (dX9_step_138) (by decide) k
theorem dX9_step_141 : decode cX9_step 141 = .ok (.aload_n 0, 1) := by decide +kernel
theorem sX9_step_141 {x : Nat} (k : X w mX9_step d Q 142 [some (.ref x)] (.ref x :: st) P) : X w mX9_step d Q 141 [some (.ref x)] st P := X_aload_n (M := mX9_step) (dX9_step_141) rfl rfl k
theorem dX9_step_142 : decode cX9_step 142 = .ok (.aload_n 0, 1) := by decide +kernel
theorem sX9_step_142 {x : Nat} (k : X w mX9_step d Q 143 [some (.ref x)] (.ref x :: st) P) : X w mX9_step d Q 142 [some (.ref x)] st P := X_aload_n (M := mX9_step) (dX9_step_142) rfl rfl k
theorem dX9_step_143 : decode cX9_step 143 = .ok (.getfield 17, 3) := by decide +kernel
theorem sX9_step_143 {a : Nat} {fs : List Value} {v : Int32} (hP : P.1 a = some (xO 7 fs)) (hv : fs[3]? = some (.int v)) (k : X w mX9_step d Q 146 ls (.int v :: st) P) : X w mX9_step d Q 143 ls (.ref a :: st) P := X_get (M := mX9_step) (j := 3) (T := TX9) (dX9_step_143) rfl (by decide) x_in9 xw_80 hP hv k
theorem dX9_step_146 : decode cX9_step 146 = .ok (.aload_n 0, 1) := by decide +kernel
theorem sX9_step_146 {x : Nat} (k : X w mX9_step d Q 147 [some (.ref x)] (.ref x :: st) P) : X w mX9_step d Q 146 [some (.ref x)] st P := X_aload_n (M := mX9_step) (dX9_step_146) rfl rfl k
theorem dX9_step_147 : decode cX9_step 147 = .ok (.getfield 23, 3) := by decide +kernel
theorem sX9_step_147 {a : Nat} {fs : List Value} {v : Int32} (hP : P.1 a = some (xO 7 fs)) (hv : fs[2]? = some (.int v)) (k : X w mX9_step d Q 150 ls (.int v :: st) P) : X w mX9_step d Q 147 ls (.ref a :: st) P := X_get (M := mX9_step) (j := 2) (T := TX9) (dX9_step_147) rfl (by decide) x_in9 xw_84 hP hv k
theorem dX9_step_150 : decode cX9_step 150 = .ok (.isub, 1) := by decide +kernel
theorem sX9_step_150 {x y : Int32} (k : X w mX9_step d Q 151 ls (.int (x - y) :: st) P) : X w mX9_step d Q 150 ls (.int y :: .int x :: st) P := X_isub (M := mX9_step) (dX9_step_150) k
theorem dX9_step_151 : decode cX9_step 151 = .ok (.bipush 6, 2) := by decide +kernel
theorem sX9_step_151 (k : X w mX9_step d Q 153 ls (.int (6 : Int32) :: st) P) : X w mX9_step d Q 151 ls st P := X_bipush (M := mX9_step) (dX9_step_151) (by decide) k
theorem dX9_step_153 : decode cX9_step 153 = .ok (.if_icmp .le 7, 3) := by decide +kernel
theorem sX9_step_153 {x y : Int32} (kt : x ≤ y → X w mX9_step d Q 160 ls st P) (kf : ¬ x ≤ y → X w mX9_step d Q 156 ls st P) : X w mX9_step d Q 153 ls (.int y :: .int x :: st) P := X_icmp_le (M := mX9_step) (dX9_step_153) (by decide) kt kf
theorem dX9_step_156 : decode cX9_step 156 = .ok (.iconst 4, 1) := by decide +kernel
theorem sX9_step_156 (k : X w mX9_step d Q 157 ls (.int (4 : Int32) :: st) P) : X w mX9_step d Q 156 ls st P := X_iconst (M := mX9_step) (dX9_step_156) (by decide) k
theorem dX9_step_157 : decode cX9_step 157 = .ok (.goto 4, 3) := by decide +kernel
theorem sX9_step_157 (k : X w mX9_step d Q 161 ls st P) : X w mX9_step d Q 157 ls st P := X_goto (M := mX9_step) (dX9_step_157) (by decide) k
theorem dX9_step_160 : decode cX9_step 160 = .ok (.iconst 2, 1) := by decide +kernel
theorem sX9_step_160 (k : X w mX9_step d Q 161 ls (.int (2 : Int32) :: st) P) : X w mX9_step d Q 160 ls st P := X_iconst (M := mX9_step) (dX9_step_160) (by decide) k
theorem dX9_step_161 : decode cX9_step 161 = .ok (.putfield 26, 3) := by decide +kernel
theorem sX9_step_161 {a : Nat} {fs : List Value} {v : Int32} (hP : P.1 a = some (xO 7 fs)) (hl : 4 < fs.length) (k : X w mX9_step d Q 164 ls st (xs P a (xO 7 (fs.set 4 (.int v))))) : X w mX9_step d Q 161 ls (.int v :: .ref a :: st) P := X_put (M := mX9_step) (j := 4) (T := TX9) (dX9_step_161) rfl (by decide) x_c9 xw_85 rfl hP rfl rfl hl k
theorem dX9_step_164 : decode cX9_step 164 = .ok (.goto 113, 3) := by decide +kernel
theorem sX9_step_164 (k : X w mX9_step d Q 277 ls st P) : X w mX9_step d Q 164 ls st P := X_goto (M := mX9_step) (dX9_step_164) (by decide) k
theorem dX9_step_167 : decode cX9_step 167 = .ok (.aload_n 0, 1) := by decide +kernel
theorem sX9_step_167 {x : Nat} (k : X w mX9_step d Q 168 [some (.ref x)] (.ref x :: st) P) : X w mX9_step d Q 167 [some (.ref x)] st P := X_aload_n (M := mX9_step) (dX9_step_167) rfl rfl k
theorem dX9_step_168 : decode cX9_step 168 = .ok (.getfield 7, 3) := by decide +kernel
theorem sX9_step_168 {a : Nat} {fs : List Value} {v : Nat} (hP : P.1 a = some (xO 7 fs)) (hv : fs[0]? = some (.ref v)) (k : X w mX9_step d Q 171 ls (.ref v :: st) P) : X w mX9_step d Q 168 ls (.ref a :: st) P := X_get (M := mX9_step) (j := 0) (T := TX9) (dX9_step_168) rfl (by decide) x_in9 xw_78 hP hv k
theorem dX9_step_171 : decode cX9_step 171 = .ok (.aload_n 0, 1) := by decide +kernel
theorem sX9_step_171 {x : Nat} (k : X w mX9_step d Q 172 [some (.ref x)] (.ref x :: st) P) : X w mX9_step d Q 171 [some (.ref x)] st P := X_aload_n (M := mX9_step) (dX9_step_171) rfl rfl k
theorem dX9_step_172 : decode cX9_step 172 = .ok (.getfield 23, 3) := by decide +kernel
theorem sX9_step_172 {a : Nat} {fs : List Value} {v : Int32} (hP : P.1 a = some (xO 7 fs)) (hv : fs[2]? = some (.int v)) (k : X w mX9_step d Q 175 ls (.int v :: st) P) : X w mX9_step d Q 172 ls (.ref a :: st) P := X_get (M := mX9_step) (j := 2) (T := TX9) (dX9_step_172) rfl (by decide) x_in9 xw_84 hP hv k
theorem dX9_step_175 : decode cX9_step 175 = .ok (.caload, 1) := by decide +kernel
theorem sX9_step_175 {a n : Nat} {f : Nat → Int32} {i : Int32} (hP : P.1 a = some (xA 2 n f)) (hi : vp_in i n) (k : X w mX9_step d Q 176 ls (.int (f i.toNatClampNeg) :: st) P) : X w mX9_step d Q 175 ls (.int i :: .ref a :: st) P := X_cald (M := mX9_step) (dX9_step_175) hP hi k
theorem dX9_step_176 : decode cX9_step 176 = .ok (.invokestatic 33, 3) := by decide +kernel
theorem sX9_step_176_g {a0 : Int32} {Qc : Outcome → xH → Prop} (hst : (st.map fun v => v.category).sum ≤ 8) (hC : xC w d mX9_isLetter [.int a0] P Qc) (kr : ∀ v P1, Qc (.returned v) P1 → X w mX9_step (d + 1) Q 179 ls (v.toList ++ st) P1) (kt : ∀ q P1, Qc (.threw q) P1 → Xt w mX9_step (d + 1) Q 176 ls st P1 q) : X w mX9_step (d + 1) Q 176 ls (.int a0 :: st) P := X_callS (M := mX9_step) (MC := mX9_isLetter) (As := [.int a0]) (dX9_step_176) calX9_isLetter xw_88 xw_89 rfl hC hst kr kt
theorem sX9_step_176 {a0 : Int32} {r : Int32} {P1 : xH} (hst : (st.map fun v => v.category).sum ≤ 8) (hC : xC w d mX9_isLetter [.int a0] P (xRet (some (.int r)) P1)) (k : X w mX9_step (d + 1) Q 179 ls (.int r :: st) P1) : X w mX9_step (d + 1) Q 176 ls (.int a0 :: st) P := X_callS (M := mX9_step) (MC := mX9_isLetter) (As := [.int a0]) (dX9_step_176) calX9_isLetter xw_88 xw_89 rfl hC hst (fun v P2 h => by obtain ⟨h1, rfl⟩ := h; cases h1; exact k) (fun q P2 h => by cases h.1)
theorem sX9_step_176_r {a0 : Int32} {r : Int32} {Rp : xH → Prop} (hst : (st.map fun v => v.category).sum ≤ 8) (hC : xC w d mX9_isLetter [.int a0] P (xRl (some (.int r)) Rp)) (k : ∀ P1, Rp P1 → X w mX9_step (d + 1) Q 179 ls (.int r :: st) P1) : X w mX9_step (d + 1) Q 176 ls (.int a0 :: st) P := X_callS (M := mX9_step) (MC := mX9_isLetter) (As := [.int a0]) (dX9_step_176) calX9_isLetter xw_88 xw_89 rfl hC hst (fun v P2 h => by obtain ⟨h1, hR⟩ := h; cases h1; exact k P2 hR) (fun q P2 h => by cases h.1)
theorem sX9_step_176_t {a0 : Int32} {q : Nat} {P1 : xH} (hst : (st.map fun v => v.category).sum ≤ 8) (hC : xC w d mX9_isLetter [.int a0] P (xThr q P1)) (hq : Q (.threw q) P1) : X w mX9_step (d + 1) Q 176 ls (.int a0 :: st) P := X_callS (M := mX9_step) (MC := mX9_isLetter) (As := [.int a0]) (dX9_step_176) calX9_isLetter xw_88 xw_89 rfl hC hst (fun v P2 h => by cases h.1) (fun q2 P2 h => by obtain ⟨h1, rfl⟩ := h; cases h1; exact Xt_out rfl hq)
theorem dX9_step_179 : decode cX9_step 179 = .ok (.ifCond .eq 83, 3) := by decide +kernel
theorem sX9_step_179 {x : Int32} (kt : x = 0 → X w mX9_step d Q 262 ls st P) (kf : ¬ x = 0 → X w mX9_step d Q 182 ls st P) : X w mX9_step d Q 179 ls (.int x :: st) P := X_if_eq (M := mX9_step) (dX9_step_179) (by decide) kt kf
theorem dX9_step_182 : decode cX9_step 182 = .ok (.aload_n 0, 1) := by decide +kernel
theorem sX9_step_182 {x : Nat} (k : X w mX9_step d Q 183 [some (.ref x)] (.ref x :: st) P) : X w mX9_step d Q 182 [some (.ref x)] st P := X_aload_n (M := mX9_step) (dX9_step_182) rfl rfl k
theorem dX9_step_183 : decode cX9_step 183 = .ok (.getfield 17, 3) := by decide +kernel
theorem sX9_step_183 {a : Nat} {fs : List Value} {v : Int32} (hP : P.1 a = some (xO 7 fs)) (hv : fs[3]? = some (.int v)) (k : X w mX9_step d Q 186 ls (.int v :: st) P) : X w mX9_step d Q 183 ls (.ref a :: st) P := X_get (M := mX9_step) (j := 3) (T := TX9) (dX9_step_183) rfl (by decide) x_in9 xw_80 hP hv k
theorem dX9_step_186 : decode cX9_step 186 = .ok (.aload_n 0, 1) := by decide +kernel
theorem sX9_step_186 {x : Nat} (k : X w mX9_step d Q 187 [some (.ref x)] (.ref x :: st) P) : X w mX9_step d Q 186 [some (.ref x)] st P := X_aload_n (M := mX9_step) (dX9_step_186) rfl rfl k
theorem dX9_step_187 : decode cX9_step 187 = .ok (.getfield 13, 3) := by decide +kernel
theorem sX9_step_187 {a : Nat} {fs : List Value} {v : Int32} (hP : P.1 a = some (xO 7 fs)) (hv : fs[1]? = some (.int v)) (k : X w mX9_step d Q 190 ls (.int v :: st) P) : X w mX9_step d Q 187 ls (.ref a :: st) P := X_get (M := mX9_step) (j := 1) (T := TX9) (dX9_step_187) rfl (by decide) x_in9 xw_79 hP hv k
theorem dX9_step_190 : decode cX9_step 190 = .ok (.if_icmp .ge 46, 3) := by decide +kernel
theorem sX9_step_190 {x y : Int32} (kt : y ≤ x → X w mX9_step d Q 236 ls st P) (kf : ¬ y ≤ x → X w mX9_step d Q 193 ls st P) : X w mX9_step d Q 190 ls (.int y :: .int x :: st) P := X_icmp_ge (M := mX9_step) (dX9_step_190) (by decide) kt kf
theorem dX9_step_193 : decode cX9_step 193 = .ok (.aload_n 0, 1) := by decide +kernel
theorem sX9_step_193 {x : Nat} (k : X w mX9_step d Q 194 [some (.ref x)] (.ref x :: st) P) : X w mX9_step d Q 193 [some (.ref x)] st P := X_aload_n (M := mX9_step) (dX9_step_193) rfl rfl k
theorem dX9_step_194 : decode cX9_step 194 = .ok (.getfield 7, 3) := by decide +kernel
theorem sX9_step_194 {a : Nat} {fs : List Value} {v : Nat} (hP : P.1 a = some (xO 7 fs)) (hv : fs[0]? = some (.ref v)) (k : X w mX9_step d Q 197 ls (.ref v :: st) P) : X w mX9_step d Q 194 ls (.ref a :: st) P := X_get (M := mX9_step) (j := 0) (T := TX9) (dX9_step_194) rfl (by decide) x_in9 xw_78 hP hv k
theorem dX9_step_197 : decode cX9_step 197 = .ok (.aload_n 0, 1) := by decide +kernel
theorem sX9_step_197 {x : Nat} (k : X w mX9_step d Q 198 [some (.ref x)] (.ref x :: st) P) : X w mX9_step d Q 197 [some (.ref x)] st P := X_aload_n (M := mX9_step) (dX9_step_197) rfl rfl k
theorem dX9_step_198 : decode cX9_step 198 = .ok (.getfield 17, 3) := by decide +kernel
theorem sX9_step_198 {a : Nat} {fs : List Value} {v : Int32} (hP : P.1 a = some (xO 7 fs)) (hv : fs[3]? = some (.int v)) (k : X w mX9_step d Q 201 ls (.int v :: st) P) : X w mX9_step d Q 198 ls (.ref a :: st) P := X_get (M := mX9_step) (j := 3) (T := TX9) (dX9_step_198) rfl (by decide) x_in9 xw_80 hP hv k
theorem dX9_step_201 : decode cX9_step 201 = .ok (.caload, 1) := by decide +kernel
theorem sX9_step_201 {a n : Nat} {f : Nat → Int32} {i : Int32} (hP : P.1 a = some (xA 2 n f)) (hi : vp_in i n) (k : X w mX9_step d Q 202 ls (.int (f i.toNatClampNeg) :: st) P) : X w mX9_step d Q 201 ls (.int i :: .ref a :: st) P := X_cald (M := mX9_step) (dX9_step_201) hP hi k
theorem dX9_step_202 : decode cX9_step 202 = .ok (.invokestatic 33, 3) := by decide +kernel
theorem sX9_step_202_g {a0 : Int32} {Qc : Outcome → xH → Prop} (hst : (st.map fun v => v.category).sum ≤ 8) (hC : xC w d mX9_isLetter [.int a0] P Qc) (kr : ∀ v P1, Qc (.returned v) P1 → X w mX9_step (d + 1) Q 205 ls (v.toList ++ st) P1) (kt : ∀ q P1, Qc (.threw q) P1 → Xt w mX9_step (d + 1) Q 202 ls st P1 q) : X w mX9_step (d + 1) Q 202 ls (.int a0 :: st) P := X_callS (M := mX9_step) (MC := mX9_isLetter) (As := [.int a0]) (dX9_step_202) calX9_isLetter xw_88 xw_89 rfl hC hst kr kt
theorem sX9_step_202 {a0 : Int32} {r : Int32} {P1 : xH} (hst : (st.map fun v => v.category).sum ≤ 8) (hC : xC w d mX9_isLetter [.int a0] P (xRet (some (.int r)) P1)) (k : X w mX9_step (d + 1) Q 205 ls (.int r :: st) P1) : X w mX9_step (d + 1) Q 202 ls (.int a0 :: st) P := X_callS (M := mX9_step) (MC := mX9_isLetter) (As := [.int a0]) (dX9_step_202) calX9_isLetter xw_88 xw_89 rfl hC hst (fun v P2 h => by obtain ⟨h1, rfl⟩ := h; cases h1; exact k) (fun q P2 h => by cases h.1)
theorem sX9_step_202_r {a0 : Int32} {r : Int32} {Rp : xH → Prop} (hst : (st.map fun v => v.category).sum ≤ 8) (hC : xC w d mX9_isLetter [.int a0] P (xRl (some (.int r)) Rp)) (k : ∀ P1, Rp P1 → X w mX9_step (d + 1) Q 205 ls (.int r :: st) P1) : X w mX9_step (d + 1) Q 202 ls (.int a0 :: st) P := X_callS (M := mX9_step) (MC := mX9_isLetter) (As := [.int a0]) (dX9_step_202) calX9_isLetter xw_88 xw_89 rfl hC hst (fun v P2 h => by obtain ⟨h1, hR⟩ := h; cases h1; exact k P2 hR) (fun q P2 h => by cases h.1)
theorem sX9_step_202_t {a0 : Int32} {q : Nat} {P1 : xH} (hst : (st.map fun v => v.category).sum ≤ 8) (hC : xC w d mX9_isLetter [.int a0] P (xThr q P1)) (hq : Q (.threw q) P1) : X w mX9_step (d + 1) Q 202 ls (.int a0 :: st) P := X_callS (M := mX9_step) (MC := mX9_isLetter) (As := [.int a0]) (dX9_step_202) calX9_isLetter xw_88 xw_89 rfl hC hst (fun v P2 h => by cases h.1) (fun q2 P2 h => by obtain ⟨h1, rfl⟩ := h; cases h1; exact Xt_out rfl hq)
theorem dX9_step_205 : decode cX9_step 205 = .ok (.ifCond .ne 18, 3) := by decide +kernel
theorem sX9_step_205 {x : Int32} (kt : ¬ x = 0 → X w mX9_step d Q 223 ls st P) (kf : x = 0 → X w mX9_step d Q 208 ls st P) : X w mX9_step d Q 205 ls (.int x :: st) P := X_if_ne (M := mX9_step) (dX9_step_205) (by decide) kt kf
theorem dX9_step_208 : decode cX9_step 208 = .ok (.aload_n 0, 1) := by decide +kernel
theorem sX9_step_208 {x : Nat} (k : X w mX9_step d Q 209 [some (.ref x)] (.ref x :: st) P) : X w mX9_step d Q 208 [some (.ref x)] st P := X_aload_n (M := mX9_step) (dX9_step_208) rfl rfl k
theorem dX9_step_209 : decode cX9_step 209 = .ok (.getfield 7, 3) := by decide +kernel
theorem sX9_step_209 {a : Nat} {fs : List Value} {v : Nat} (hP : P.1 a = some (xO 7 fs)) (hv : fs[0]? = some (.ref v)) (k : X w mX9_step d Q 212 ls (.ref v :: st) P) : X w mX9_step d Q 209 ls (.ref a :: st) P := X_get (M := mX9_step) (j := 0) (T := TX9) (dX9_step_209) rfl (by decide) x_in9 xw_78 hP hv k
theorem dX9_step_212 : decode cX9_step 212 = .ok (.aload_n 0, 1) := by decide +kernel
theorem sX9_step_212 {x : Nat} (k : X w mX9_step d Q 213 [some (.ref x)] (.ref x :: st) P) : X w mX9_step d Q 212 [some (.ref x)] st P := X_aload_n (M := mX9_step) (dX9_step_212) rfl rfl k
theorem dX9_step_213 : decode cX9_step 213 = .ok (.getfield 17, 3) := by decide +kernel
theorem sX9_step_213 {a : Nat} {fs : List Value} {v : Int32} (hP : P.1 a = some (xO 7 fs)) (hv : fs[3]? = some (.int v)) (k : X w mX9_step d Q 216 ls (.int v :: st) P) : X w mX9_step d Q 213 ls (.ref a :: st) P := X_get (M := mX9_step) (j := 3) (T := TX9) (dX9_step_213) rfl (by decide) x_in9 xw_80 hP hv k
theorem dX9_step_216 : decode cX9_step 216 = .ok (.caload, 1) := by decide +kernel
theorem sX9_step_216 {a n : Nat} {f : Nat → Int32} {i : Int32} (hP : P.1 a = some (xA 2 n f)) (hi : vp_in i n) (k : X w mX9_step d Q 217 ls (.int (f i.toNatClampNeg) :: st) P) : X w mX9_step d Q 216 ls (.int i :: .ref a :: st) P := X_cald (M := mX9_step) (dX9_step_216) hP hi k
theorem dX9_step_217 : decode cX9_step 217 = .ok (.invokestatic 29, 3) := by decide +kernel
theorem sX9_step_217_g {a0 : Int32} {Qc : Outcome → xH → Prop} (hst : (st.map fun v => v.category).sum ≤ 8) (hC : xC w d mX9_isDigit [.int a0] P Qc) (kr : ∀ v P1, Qc (.returned v) P1 → X w mX9_step (d + 1) Q 220 ls (v.toList ++ st) P1) (kt : ∀ q P1, Qc (.threw q) P1 → Xt w mX9_step (d + 1) Q 217 ls st P1 q) : X w mX9_step (d + 1) Q 217 ls (.int a0 :: st) P := X_callS (M := mX9_step) (MC := mX9_isDigit) (As := [.int a0]) (dX9_step_217) calX9_isDigit xw_86 xw_87 rfl hC hst kr kt
theorem sX9_step_217 {a0 : Int32} {r : Int32} {P1 : xH} (hst : (st.map fun v => v.category).sum ≤ 8) (hC : xC w d mX9_isDigit [.int a0] P (xRet (some (.int r)) P1)) (k : X w mX9_step (d + 1) Q 220 ls (.int r :: st) P1) : X w mX9_step (d + 1) Q 217 ls (.int a0 :: st) P := X_callS (M := mX9_step) (MC := mX9_isDigit) (As := [.int a0]) (dX9_step_217) calX9_isDigit xw_86 xw_87 rfl hC hst (fun v P2 h => by obtain ⟨h1, rfl⟩ := h; cases h1; exact k) (fun q P2 h => by cases h.1)
theorem sX9_step_217_r {a0 : Int32} {r : Int32} {Rp : xH → Prop} (hst : (st.map fun v => v.category).sum ≤ 8) (hC : xC w d mX9_isDigit [.int a0] P (xRl (some (.int r)) Rp)) (k : ∀ P1, Rp P1 → X w mX9_step (d + 1) Q 220 ls (.int r :: st) P1) : X w mX9_step (d + 1) Q 217 ls (.int a0 :: st) P := X_callS (M := mX9_step) (MC := mX9_isDigit) (As := [.int a0]) (dX9_step_217) calX9_isDigit xw_86 xw_87 rfl hC hst (fun v P2 h => by obtain ⟨h1, hR⟩ := h; cases h1; exact k P2 hR) (fun q P2 h => by cases h.1)
theorem sX9_step_217_t {a0 : Int32} {q : Nat} {P1 : xH} (hst : (st.map fun v => v.category).sum ≤ 8) (hC : xC w d mX9_isDigit [.int a0] P (xThr q P1)) (hq : Q (.threw q) P1) : X w mX9_step (d + 1) Q 217 ls (.int a0 :: st) P := X_callS (M := mX9_step) (MC := mX9_isDigit) (As := [.int a0]) (dX9_step_217) calX9_isDigit xw_86 xw_87 rfl hC hst (fun v P2 h => by cases h.1) (fun q2 P2 h => by obtain ⟨h1, rfl⟩ := h; cases h1; exact Xt_out rfl hq)
theorem dX9_step_220 : decode cX9_step 220 = .ok (.ifCond .eq 16, 3) := by decide +kernel
theorem sX9_step_220 {x : Int32} (kt : x = 0 → X w mX9_step d Q 236 ls st P) (kf : ¬ x = 0 → X w mX9_step d Q 223 ls st P) : X w mX9_step d Q 220 ls (.int x :: st) P := X_if_eq (M := mX9_step) (dX9_step_220) (by decide) kt kf
theorem dX9_step_223 : decode cX9_step 223 = .ok (.aload_n 0, 1) := by decide +kernel
theorem sX9_step_223 {x : Nat} (k : X w mX9_step d Q 224 [some (.ref x)] (.ref x :: st) P) : X w mX9_step d Q 223 [some (.ref x)] st P := X_aload_n (M := mX9_step) (dX9_step_223) rfl rfl k
theorem dX9_step_224 : decode cX9_step 224 = .ok (.dup, 1) := by decide +kernel
theorem sX9_step_224 {v : Value} (hv : v.category = 1) (k : X w mX9_step d Q 225 ls (v :: v :: st) P) : X w mX9_step d Q 224 ls (v :: st) P := X_dup (M := mX9_step) (dX9_step_224) hv k
theorem dX9_step_225 : decode cX9_step 225 = .ok (.getfield 17, 3) := by decide +kernel
theorem sX9_step_225 {a : Nat} {fs : List Value} {v : Int32} (hP : P.1 a = some (xO 7 fs)) (hv : fs[3]? = some (.int v)) (k : X w mX9_step d Q 228 ls (.int v :: st) P) : X w mX9_step d Q 225 ls (.ref a :: st) P := X_get (M := mX9_step) (j := 3) (T := TX9) (dX9_step_225) rfl (by decide) x_in9 xw_80 hP hv k
theorem dX9_step_228 : decode cX9_step 228 = .ok (.iconst 1, 1) := by decide +kernel
theorem sX9_step_228 (k : X w mX9_step d Q 229 ls (.int (1 : Int32) :: st) P) : X w mX9_step d Q 228 ls st P := X_iconst (M := mX9_step) (dX9_step_228) (by decide) k
theorem dX9_step_229 : decode cX9_step 229 = .ok (.iadd, 1) := by decide +kernel
theorem sX9_step_229 {x y : Int32} (k : X w mX9_step d Q 230 ls (.int (x + y) :: st) P) : X w mX9_step d Q 229 ls (.int y :: .int x :: st) P := X_iadd (M := mX9_step) (dX9_step_229) k
theorem dX9_step_230 : decode cX9_step 230 = .ok (.putfield 17, 3) := by decide +kernel
theorem sX9_step_230 {a : Nat} {fs : List Value} {v : Int32} (hP : P.1 a = some (xO 7 fs)) (hl : 3 < fs.length) (k : X w mX9_step d Q 233 ls st (xs P a (xO 7 (fs.set 3 (.int v))))) : X w mX9_step d Q 230 ls (.int v :: .ref a :: st) P := X_put (M := mX9_step) (j := 3) (T := TX9) (dX9_step_230) rfl (by decide) x_c9 xw_80 rfl hP rfl rfl hl k
theorem dX9_step_233 : decode cX9_step 233 = .ok (.goto (-51), 3) := by decide +kernel
theorem sX9_step_233 (k : X w mX9_step d Q 182 ls st P) : X w mX9_step d Q 233 ls st P := X_goto (M := mX9_step) (dX9_step_233) (by decide) k
theorem dX9_step_236 : decode cX9_step 236 = .ok (.aload_n 0, 1) := by decide +kernel
theorem sX9_step_236 {x : Nat} (k : X w mX9_step d Q 237 [some (.ref x)] (.ref x :: st) P) : X w mX9_step d Q 236 [some (.ref x)] st P := X_aload_n (M := mX9_step) (dX9_step_236) rfl rfl k
theorem dX9_step_237 : decode cX9_step 237 = .ok (.aload_n 0, 1) := by decide +kernel
theorem sX9_step_237 {x : Nat} (k : X w mX9_step d Q 238 [some (.ref x)] (.ref x :: st) P) : X w mX9_step d Q 237 [some (.ref x)] st P := X_aload_n (M := mX9_step) (dX9_step_237) rfl rfl k
theorem dX9_step_238 : decode cX9_step 238 = .ok (.getfield 17, 3) := by decide +kernel
theorem sX9_step_238 {a : Nat} {fs : List Value} {v : Int32} (hP : P.1 a = some (xO 7 fs)) (hv : fs[3]? = some (.int v)) (k : X w mX9_step d Q 241 ls (.int v :: st) P) : X w mX9_step d Q 238 ls (.ref a :: st) P := X_get (M := mX9_step) (j := 3) (T := TX9) (dX9_step_238) rfl (by decide) x_in9 xw_80 hP hv k
theorem dX9_step_241 : decode cX9_step 241 = .ok (.aload_n 0, 1) := by decide +kernel
theorem sX9_step_241 {x : Nat} (k : X w mX9_step d Q 242 [some (.ref x)] (.ref x :: st) P) : X w mX9_step d Q 241 [some (.ref x)] st P := X_aload_n (M := mX9_step) (dX9_step_241) rfl rfl k
theorem dX9_step_242 : decode cX9_step 242 = .ok (.getfield 23, 3) := by decide +kernel
theorem sX9_step_242 {a : Nat} {fs : List Value} {v : Int32} (hP : P.1 a = some (xO 7 fs)) (hv : fs[2]? = some (.int v)) (k : X w mX9_step d Q 245 ls (.int v :: st) P) : X w mX9_step d Q 242 ls (.ref a :: st) P := X_get (M := mX9_step) (j := 2) (T := TX9) (dX9_step_242) rfl (by decide) x_in9 xw_84 hP hv k
theorem dX9_step_245 : decode cX9_step 245 = .ok (.isub, 1) := by decide +kernel
theorem sX9_step_245 {x y : Int32} (k : X w mX9_step d Q 246 ls (.int (x - y) :: st) P) : X w mX9_step d Q 245 ls (.int y :: .int x :: st) P := X_isub (M := mX9_step) (dX9_step_245) k
theorem dX9_step_246 : decode cX9_step 246 = .ok (.bipush 8, 2) := by decide +kernel
theorem sX9_step_246 (k : X w mX9_step d Q 248 ls (.int (8 : Int32) :: st) P) : X w mX9_step d Q 246 ls st P := X_bipush (M := mX9_step) (dX9_step_246) (by decide) k
theorem dX9_step_248 : decode cX9_step 248 = .ok (.if_icmp .le 7, 3) := by decide +kernel
theorem sX9_step_248 {x y : Int32} (kt : x ≤ y → X w mX9_step d Q 255 ls st P) (kf : ¬ x ≤ y → X w mX9_step d Q 251 ls st P) : X w mX9_step d Q 248 ls (.int y :: .int x :: st) P := X_icmp_le (M := mX9_step) (dX9_step_248) (by decide) kt kf
theorem dX9_step_251 : decode cX9_step 251 = .ok (.iconst 4, 1) := by decide +kernel
theorem sX9_step_251 (k : X w mX9_step d Q 252 ls (.int (4 : Int32) :: st) P) : X w mX9_step d Q 251 ls st P := X_iconst (M := mX9_step) (dX9_step_251) (by decide) k
theorem dX9_step_252 : decode cX9_step 252 = .ok (.goto 4, 3) := by decide +kernel
theorem sX9_step_252 (k : X w mX9_step d Q 256 ls st P) : X w mX9_step d Q 252 ls st P := X_goto (M := mX9_step) (dX9_step_252) (by decide) k
theorem dX9_step_255 : decode cX9_step 255 = .ok (.iconst 1, 1) := by decide +kernel
theorem sX9_step_255 (k : X w mX9_step d Q 256 ls (.int (1 : Int32) :: st) P) : X w mX9_step d Q 255 ls st P := X_iconst (M := mX9_step) (dX9_step_255) (by decide) k
theorem dX9_step_256 : decode cX9_step 256 = .ok (.putfield 26, 3) := by decide +kernel
theorem sX9_step_256 {a : Nat} {fs : List Value} {v : Int32} (hP : P.1 a = some (xO 7 fs)) (hl : 4 < fs.length) (k : X w mX9_step d Q 259 ls st (xs P a (xO 7 (fs.set 4 (.int v))))) : X w mX9_step d Q 256 ls (.int v :: .ref a :: st) P := X_put (M := mX9_step) (j := 4) (T := TX9) (dX9_step_256) rfl (by decide) x_c9 xw_85 rfl hP rfl rfl hl k
theorem dX9_step_259 : decode cX9_step 259 = .ok (.goto 18, 3) := by decide +kernel
theorem sX9_step_259 (k : X w mX9_step d Q 277 ls st P) : X w mX9_step d Q 259 ls st P := X_goto (M := mX9_step) (dX9_step_259) (by decide) k
theorem dX9_step_262 : decode cX9_step 262 = .ok (.aload_n 0, 1) := by decide +kernel
theorem sX9_step_262 {x : Nat} (k : X w mX9_step d Q 263 [some (.ref x)] (.ref x :: st) P) : X w mX9_step d Q 262 [some (.ref x)] st P := X_aload_n (M := mX9_step) (dX9_step_262) rfl rfl k
theorem dX9_step_263 : decode cX9_step 263 = .ok (.dup, 1) := by decide +kernel
theorem sX9_step_263 {v : Value} (hv : v.category = 1) (k : X w mX9_step d Q 264 ls (v :: v :: st) P) : X w mX9_step d Q 263 ls (v :: st) P := X_dup (M := mX9_step) (dX9_step_263) hv k
theorem dX9_step_264 : decode cX9_step 264 = .ok (.getfield 17, 3) := by decide +kernel
theorem sX9_step_264 {a : Nat} {fs : List Value} {v : Int32} (hP : P.1 a = some (xO 7 fs)) (hv : fs[3]? = some (.int v)) (k : X w mX9_step d Q 267 ls (.int v :: st) P) : X w mX9_step d Q 264 ls (.ref a :: st) P := X_get (M := mX9_step) (j := 3) (T := TX9) (dX9_step_264) rfl (by decide) x_in9 xw_80 hP hv k
theorem dX9_step_267 : decode cX9_step 267 = .ok (.iconst 1, 1) := by decide +kernel
theorem sX9_step_267 (k : X w mX9_step d Q 268 ls (.int (1 : Int32) :: st) P) : X w mX9_step d Q 267 ls st P := X_iconst (M := mX9_step) (dX9_step_267) (by decide) k
theorem dX9_step_268 : decode cX9_step 268 = .ok (.iadd, 1) := by decide +kernel
theorem sX9_step_268 {x y : Int32} (k : X w mX9_step d Q 269 ls (.int (x + y) :: st) P) : X w mX9_step d Q 268 ls (.int y :: .int x :: st) P := X_iadd (M := mX9_step) (dX9_step_268) k
theorem dX9_step_269 : decode cX9_step 269 = .ok (.putfield 17, 3) := by decide +kernel
theorem sX9_step_269 {a : Nat} {fs : List Value} {v : Int32} (hP : P.1 a = some (xO 7 fs)) (hl : 3 < fs.length) (k : X w mX9_step d Q 272 ls st (xs P a (xO 7 (fs.set 3 (.int v))))) : X w mX9_step d Q 269 ls (.int v :: .ref a :: st) P := X_put (M := mX9_step) (j := 3) (T := TX9) (dX9_step_269) rfl (by decide) x_c9 xw_80 rfl hP rfl rfl hl k
theorem dX9_step_272 : decode cX9_step 272 = .ok (.aload_n 0, 1) := by decide +kernel
theorem sX9_step_272 {x : Nat} (k : X w mX9_step d Q 273 [some (.ref x)] (.ref x :: st) P) : X w mX9_step d Q 272 [some (.ref x)] st P := X_aload_n (M := mX9_step) (dX9_step_272) rfl rfl k
theorem dX9_step_273 : decode cX9_step 273 = .ok (.iconst 3, 1) := by decide +kernel
theorem sX9_step_273 (k : X w mX9_step d Q 274 ls (.int (3 : Int32) :: st) P) : X w mX9_step d Q 273 ls st P := X_iconst (M := mX9_step) (dX9_step_273) (by decide) k
theorem dX9_step_274 : decode cX9_step 274 = .ok (.putfield 26, 3) := by decide +kernel
theorem sX9_step_274 {a : Nat} {fs : List Value} {v : Int32} (hP : P.1 a = some (xO 7 fs)) (hl : 4 < fs.length) (k : X w mX9_step d Q 277 ls st (xs P a (xO 7 (fs.set 4 (.int v))))) : X w mX9_step d Q 274 ls (.int v :: .ref a :: st) P := X_put (M := mX9_step) (j := 4) (T := TX9) (dX9_step_274) rfl (by decide) x_c9 xw_85 rfl hP rfl rfl hl k
theorem dX9_step_277 : decode cX9_step 277 = .ok (.return_, 1) := by decide +kernel
theorem sX9_step_277 (hq : Q (.returned none) P) : X w mX9_step d Q 277 ls [] P := X_vret (M := mX9_step) (dX9_step_277) rfl hq
theorem dX9_is_0 : decode cX9_is 0 = .ok (.aload_n 1, 1) := by decide +kernel
theorem sX9_is_0 {l0 l2 : Option Value} {x : Nat} (k : X w mX9_is d Q 1 [l0, some (.ref x), l2] (.ref x :: st) P) : X w mX9_is d Q 0 [l0, some (.ref x), l2] st P := X_aload_n (M := mX9_is) (dX9_is_0) rfl rfl k
theorem dX9_is_1 : decode cX9_is 1 = .ok (.invokevirtual 38, 3) := by decide +kernel
theorem sX9_is_1 {i : Nat}  {r : Int32} {P1 : xH} (hst : (st.map fun v => v.category).sum ≤ 8) (hi : i < 26) (hC : xC w d mJ0_length_8abf5 [.ref (w.ad (10 + i))] P (xRet (some (.int r)) P1)) (k : X w mX9_is (d + 1) Q 4 ls (.int r :: st) P1) : X w mX9_is (d + 1) Q 1 ls (.ref (w.ad (10 + i)) :: st) P := X_callVS (M := mX9_is) (MC := mJ0_length_8abf5) (As := []) (dX9_is_1) calJ0_length_8abf5 rfl xw_90 xw_91 xw_92 rfl hi hC hst (fun v P2 h => by obtain ⟨h1, rfl⟩ := h; cases h1; exact k) (fun q P2 h => by cases h.1)
theorem dX9_is_4 : decode cX9_is 4 = .ok (.aload_n 0, 1) := by decide +kernel
theorem sX9_is_4 {l1 l2 : Option Value} {x : Nat} (k : X w mX9_is d Q 5 [some (.ref x), l1, l2] (.ref x :: st) P) : X w mX9_is d Q 4 [some (.ref x), l1, l2] st P := X_aload_n (M := mX9_is) (dX9_is_4) rfl rfl k
theorem dX9_is_5 : decode cX9_is 5 = .ok (.getfield 17, 3) := by decide +kernel
theorem sX9_is_5 {a : Nat} {fs : List Value} {v : Int32} (hP : P.1 a = some (xO 7 fs)) (hv : fs[3]? = some (.int v)) (k : X w mX9_is d Q 8 ls (.int v :: st) P) : X w mX9_is d Q 5 ls (.ref a :: st) P := X_get (M := mX9_is) (j := 3) (T := TX9) (dX9_is_5) rfl (by decide) x_in9 xw_80 hP hv k
theorem dX9_is_8 : decode cX9_is 8 = .ok (.aload_n 0, 1) := by decide +kernel
theorem sX9_is_8 {l1 l2 : Option Value} {x : Nat} (k : X w mX9_is d Q 9 [some (.ref x), l1, l2] (.ref x :: st) P) : X w mX9_is d Q 8 [some (.ref x), l1, l2] st P := X_aload_n (M := mX9_is) (dX9_is_8) rfl rfl k
theorem dX9_is_9 : decode cX9_is 9 = .ok (.getfield 23, 3) := by decide +kernel
theorem sX9_is_9 {a : Nat} {fs : List Value} {v : Int32} (hP : P.1 a = some (xO 7 fs)) (hv : fs[2]? = some (.int v)) (k : X w mX9_is d Q 12 ls (.int v :: st) P) : X w mX9_is d Q 9 ls (.ref a :: st) P := X_get (M := mX9_is) (j := 2) (T := TX9) (dX9_is_9) rfl (by decide) x_in9 xw_84 hP hv k
theorem dX9_is_12 : decode cX9_is 12 = .ok (.isub, 1) := by decide +kernel
theorem sX9_is_12 {x y : Int32} (k : X w mX9_is d Q 13 ls (.int (x - y) :: st) P) : X w mX9_is d Q 12 ls (.int y :: .int x :: st) P := X_isub (M := mX9_is) (dX9_is_12) k
theorem dX9_is_13 : decode cX9_is 13 = .ok (.if_icmp .eq 5, 3) := by decide +kernel
theorem sX9_is_13 {x y : Int32} (kt : x = y → X w mX9_is d Q 18 ls st P) (kf : ¬ x = y → X w mX9_is d Q 16 ls st P) : X w mX9_is d Q 13 ls (.int y :: .int x :: st) P := X_icmp_eq (M := mX9_is) (dX9_is_13) (by decide) kt kf
theorem dX9_is_16 : decode cX9_is 16 = .ok (.iconst 0, 1) := by decide +kernel
theorem sX9_is_16 (k : X w mX9_is d Q 17 ls (.int (0 : Int32) :: st) P) : X w mX9_is d Q 16 ls st P := X_iconst (M := mX9_is) (dX9_is_16) (by decide) k
theorem dX9_is_17 : decode cX9_is 17 = .ok (.ireturn, 1) := by decide +kernel
theorem sX9_is_17 {v : Int32} (hb : v = 0 ∨ v = 1) (hq : Q (.returned (some (.int v))) P) : X w mX9_is d Q 17 ls [.int v] P := X_zret (M := mX9_is) (ty := .boolean) (dX9_is_17) rfl (xz_n hb) hq
theorem dX9_is_18 : decode cX9_is 18 = .ok (.iconst 0, 1) := by decide +kernel
theorem sX9_is_18 (k : X w mX9_is d Q 19 ls (.int (0 : Int32) :: st) P) : X w mX9_is d Q 18 ls st P := X_iconst (M := mX9_is) (dX9_is_18) (by decide) k
theorem dX9_is_19 : decode cX9_is 19 = .ok (.istore_n 2, 1) := by decide +kernel
theorem sX9_is_19 {l0 l1 l2 : Option Value} {x : Int32} (hn : xnl l1 = true) (k : X w mX9_is d Q 20 [l0, l1, some (.int x)] st P) : X w mX9_is d Q 19 [l0, l1, l2] (.int x :: st) P := X_istore_n (M := mX9_is) (dX9_is_19) rfl (by decide) rfl (xnl_p (ls := [l0, l1, l2]) (j := 1) rfl hn) k
theorem dX9_is_20 : decode cX9_is 20 = .ok (.iload_n 2, 1) := by decide +kernel
theorem sX9_is_20 {l0 l1 : Option Value} {x : Int32} (k : X w mX9_is d Q 21 [l0, l1, some (.int x)] (.int x :: st) P) : X w mX9_is d Q 20 [l0, l1, some (.int x)] st P := X_iload_n (M := mX9_is) (dX9_is_20) rfl rfl k
theorem dX9_is_21 : decode cX9_is 21 = .ok (.aload_n 1, 1) := by decide +kernel
theorem sX9_is_21 {l0 l2 : Option Value} {x : Nat} (k : X w mX9_is d Q 22 [l0, some (.ref x), l2] (.ref x :: st) P) : X w mX9_is d Q 21 [l0, some (.ref x), l2] st P := X_aload_n (M := mX9_is) (dX9_is_21) rfl rfl k
theorem dX9_is_22 : decode cX9_is 22 = .ok (.invokevirtual 38, 3) := by decide +kernel
theorem sX9_is_22 {i : Nat}  {r : Int32} {P1 : xH} (hst : (st.map fun v => v.category).sum ≤ 8) (hi : i < 26) (hC : xC w d mJ0_length_8abf5 [.ref (w.ad (10 + i))] P (xRet (some (.int r)) P1)) (k : X w mX9_is (d + 1) Q 25 ls (.int r :: st) P1) : X w mX9_is (d + 1) Q 22 ls (.ref (w.ad (10 + i)) :: st) P := X_callVS (M := mX9_is) (MC := mJ0_length_8abf5) (As := []) (dX9_is_22) calJ0_length_8abf5 rfl xw_90 xw_91 xw_92 rfl hi hC hst (fun v P2 h => by obtain ⟨h1, rfl⟩ := h; cases h1; exact k) (fun q P2 h => by cases h.1)
theorem dX9_is_25 : decode cX9_is 25 = .ok (.if_icmp .ge 30, 3) := by decide +kernel
theorem sX9_is_25 {x y : Int32} (kt : y ≤ x → X w mX9_is d Q 55 ls st P) (kf : ¬ y ≤ x → X w mX9_is d Q 28 ls st P) : X w mX9_is d Q 25 ls (.int y :: .int x :: st) P := X_icmp_ge (M := mX9_is) (dX9_is_25) (by decide) kt kf
theorem dX9_is_28 : decode cX9_is 28 = .ok (.aload_n 1, 1) := by decide +kernel
theorem sX9_is_28 {l0 l2 : Option Value} {x : Nat} (k : X w mX9_is d Q 29 [l0, some (.ref x), l2] (.ref x :: st) P) : X w mX9_is d Q 28 [l0, some (.ref x), l2] st P := X_aload_n (M := mX9_is) (dX9_is_28) rfl rfl k
theorem dX9_is_29 : decode cX9_is 29 = .ok (.iload_n 2, 1) := by decide +kernel
theorem sX9_is_29 {l0 l1 : Option Value} {x : Int32} (k : X w mX9_is d Q 30 [l0, l1, some (.int x)] (.int x :: st) P) : X w mX9_is d Q 29 [l0, l1, some (.int x)] st P := X_iload_n (M := mX9_is) (dX9_is_29) rfl rfl k
theorem dX9_is_30 : decode cX9_is 30 = .ok (.invokevirtual 43, 3) := by decide +kernel
theorem sX9_is_30 {i : Nat} {a0 : Int32} {r : Int32} {P1 : xH} (hst : (st.map fun v => v.category).sum ≤ 8) (hi : i < 26) (hC : xC w d mJ0_charAt_5068e [.ref (w.ad (10 + i)), .int a0] P (xRet (some (.int r)) P1)) (k : X w mX9_is (d + 1) Q 33 ls (.int r :: st) P1) : X w mX9_is (d + 1) Q 30 ls (.int a0 :: .ref (w.ad (10 + i)) :: st) P := X_callVS (M := mX9_is) (MC := mJ0_charAt_5068e) (As := [.int a0]) (dX9_is_30) calJ0_charAt_5068e rfl xw_93 xw_94 xw_95 rfl hi hC hst (fun v P2 h => by obtain ⟨h1, rfl⟩ := h; cases h1; exact k) (fun q P2 h => by cases h.1)
theorem dX9_is_33 : decode cX9_is 33 = .ok (.aload_n 0, 1) := by decide +kernel
theorem sX9_is_33 {l1 l2 : Option Value} {x : Nat} (k : X w mX9_is d Q 34 [some (.ref x), l1, l2] (.ref x :: st) P) : X w mX9_is d Q 33 [some (.ref x), l1, l2] st P := X_aload_n (M := mX9_is) (dX9_is_33) rfl rfl k
theorem dX9_is_34 : decode cX9_is 34 = .ok (.getfield 7, 3) := by decide +kernel
theorem sX9_is_34 {a : Nat} {fs : List Value} {v : Nat} (hP : P.1 a = some (xO 7 fs)) (hv : fs[0]? = some (.ref v)) (k : X w mX9_is d Q 37 ls (.ref v :: st) P) : X w mX9_is d Q 34 ls (.ref a :: st) P := X_get (M := mX9_is) (j := 0) (T := TX9) (dX9_is_34) rfl (by decide) x_in9 xw_78 hP hv k
theorem dX9_is_37 : decode cX9_is 37 = .ok (.aload_n 0, 1) := by decide +kernel
theorem sX9_is_37 {l1 l2 : Option Value} {x : Nat} (k : X w mX9_is d Q 38 [some (.ref x), l1, l2] (.ref x :: st) P) : X w mX9_is d Q 37 [some (.ref x), l1, l2] st P := X_aload_n (M := mX9_is) (dX9_is_37) rfl rfl k
theorem dX9_is_38 : decode cX9_is 38 = .ok (.getfield 23, 3) := by decide +kernel
theorem sX9_is_38 {a : Nat} {fs : List Value} {v : Int32} (hP : P.1 a = some (xO 7 fs)) (hv : fs[2]? = some (.int v)) (k : X w mX9_is d Q 41 ls (.int v :: st) P) : X w mX9_is d Q 38 ls (.ref a :: st) P := X_get (M := mX9_is) (j := 2) (T := TX9) (dX9_is_38) rfl (by decide) x_in9 xw_84 hP hv k
theorem dX9_is_41 : decode cX9_is 41 = .ok (.iload_n 2, 1) := by decide +kernel
theorem sX9_is_41 {l0 l1 : Option Value} {x : Int32} (k : X w mX9_is d Q 42 [l0, l1, some (.int x)] (.int x :: st) P) : X w mX9_is d Q 41 [l0, l1, some (.int x)] st P := X_iload_n (M := mX9_is) (dX9_is_41) rfl rfl k
theorem dX9_is_42 : decode cX9_is 42 = .ok (.iadd, 1) := by decide +kernel
theorem sX9_is_42 {x y : Int32} (k : X w mX9_is d Q 43 ls (.int (x + y) :: st) P) : X w mX9_is d Q 42 ls (.int y :: .int x :: st) P := X_iadd (M := mX9_is) (dX9_is_42) k
theorem dX9_is_43 : decode cX9_is 43 = .ok (.caload, 1) := by decide +kernel
theorem sX9_is_43 {a n : Nat} {f : Nat → Int32} {i : Int32} (hP : P.1 a = some (xA 2 n f)) (hi : vp_in i n) (k : X w mX9_is d Q 44 ls (.int (f i.toNatClampNeg) :: st) P) : X w mX9_is d Q 43 ls (.int i :: .ref a :: st) P := X_cald (M := mX9_is) (dX9_is_43) hP hi k
theorem dX9_is_44 : decode cX9_is 44 = .ok (.if_icmp .eq 5, 3) := by decide +kernel
theorem sX9_is_44 {x y : Int32} (kt : x = y → X w mX9_is d Q 49 ls st P) (kf : ¬ x = y → X w mX9_is d Q 47 ls st P) : X w mX9_is d Q 44 ls (.int y :: .int x :: st) P := X_icmp_eq (M := mX9_is) (dX9_is_44) (by decide) kt kf
theorem dX9_is_47 : decode cX9_is 47 = .ok (.iconst 0, 1) := by decide +kernel
theorem sX9_is_47 (k : X w mX9_is d Q 48 ls (.int (0 : Int32) :: st) P) : X w mX9_is d Q 47 ls st P := X_iconst (M := mX9_is) (dX9_is_47) (by decide) k
theorem dX9_is_48 : decode cX9_is 48 = .ok (.ireturn, 1) := by decide +kernel
theorem sX9_is_48 {v : Int32} (hb : v = 0 ∨ v = 1) (hq : Q (.returned (some (.int v))) P) : X w mX9_is d Q 48 ls [.int v] P := X_zret (M := mX9_is) (ty := .boolean) (dX9_is_48) rfl (xz_n hb) hq
theorem dX9_is_49 : decode cX9_is 49 = .ok (.iinc 2 1, 3) := by decide +kernel
theorem sX9_is_49 {l0 l1 : Option Value} {x : Int32} (hn : xnl l1 = true) (k : X w mX9_is d Q 52 [l0, l1, some (.int (x + (1 : Int32)))] st P) : X w mX9_is d Q 49 [l0, l1, some (.int x)] st P := X_iinc (M := mX9_is) (dX9_is_49) rfl (by rfl) (by decide) rfl (xnl_p (ls := [l0, l1, some (.int x)]) (j := 1) rfl hn) k
theorem dX9_is_52 : decode cX9_is 52 = .ok (.goto (-32), 3) := by decide +kernel
theorem sX9_is_52 (k : X w mX9_is d Q 20 ls st P) : X w mX9_is d Q 52 ls st P := X_goto (M := mX9_is) (dX9_is_52) (by decide) k
theorem dX9_is_55 : decode cX9_is 55 = .ok (.iconst 1, 1) := by decide +kernel
theorem sX9_is_55 (k : X w mX9_is d Q 56 ls (.int (1 : Int32) :: st) P) : X w mX9_is d Q 55 ls st P := X_iconst (M := mX9_is) (dX9_is_55) (by decide) k
theorem dX9_is_56 : decode cX9_is 56 = .ok (.ireturn, 1) := by decide +kernel
theorem sX9_is_56 {v : Int32} (hb : v = 0 ∨ v = 1) (hq : Q (.returned (some (.int v))) P) : X w mX9_is d Q 56 ls [.int v] P := X_zret (M := mX9_is) (ty := .boolean) (dX9_is_56) rfl (xz_n hb) hq
theorem dX9_name_0 : decode cX9_name 0 = .ok (.aload_n 0, 1) := by decide +kernel
theorem sX9_name_0 {x : Nat} (k : X w mX9_name d Q 1 [some (.ref x)] (.ref x :: st) P) : X w mX9_name d Q 0 [some (.ref x)] st P := X_aload_n (M := mX9_name) (dX9_name_0) rfl rfl k
theorem dX9_name_1 : decode cX9_name 1 = .ok (.getfield 26, 3) := by decide +kernel
theorem sX9_name_1 {a : Nat} {fs : List Value} {v : Int32} (hP : P.1 a = some (xO 7 fs)) (hv : fs[4]? = some (.int v)) (k : X w mX9_name d Q 4 ls (.int v :: st) P) : X w mX9_name d Q 1 ls (.ref a :: st) P := X_get (M := mX9_name) (j := 4) (T := TX9) (dX9_name_1) rfl (by decide) x_in9 xw_85 hP hv k
theorem dX9_name_4 : decode cX9_name 4 = .ok (.iconst 1, 1) := by decide +kernel
theorem sX9_name_4 (k : X w mX9_name d Q 5 ls (.int (1 : Int32) :: st) P) : X w mX9_name d Q 4 ls st P := X_iconst (M := mX9_name) (dX9_name_4) (by decide) k
theorem dX9_name_5 : decode cX9_name 5 = .ok (.if_icmp .ne 21, 3) := by decide +kernel
theorem sX9_name_5 {x y : Int32} (kt : ¬ x = y → X w mX9_name d Q 26 ls st P) (kf : x = y → X w mX9_name d Q 8 ls st P) : X w mX9_name d Q 5 ls (.int y :: .int x :: st) P := X_icmp_ne (M := mX9_name) (dX9_name_5) (by decide) kt kf
theorem dX9_name_8 : decode cX9_name 8 = .ok (.aload_n 0, 1) := by decide +kernel
theorem sX9_name_8 {x : Nat} (k : X w mX9_name d Q 9 [some (.ref x)] (.ref x :: st) P) : X w mX9_name d Q 8 [some (.ref x)] st P := X_aload_n (M := mX9_name) (dX9_name_8) rfl rfl k
theorem dX9_name_9 : decode cX9_name 9 = .ok (.getfield 7, 3) := by decide +kernel
theorem sX9_name_9 {a : Nat} {fs : List Value} {v : Nat} (hP : P.1 a = some (xO 7 fs)) (hv : fs[0]? = some (.ref v)) (k : X w mX9_name d Q 12 ls (.ref v :: st) P) : X w mX9_name d Q 9 ls (.ref a :: st) P := X_get (M := mX9_name) (j := 0) (T := TX9) (dX9_name_9) rfl (by decide) x_in9 xw_78 hP hv k
theorem dX9_name_12 : decode cX9_name 12 = .ok (.aload_n 0, 1) := by decide +kernel
theorem sX9_name_12 {x : Nat} (k : X w mX9_name d Q 13 [some (.ref x)] (.ref x :: st) P) : X w mX9_name d Q 12 [some (.ref x)] st P := X_aload_n (M := mX9_name) (dX9_name_12) rfl rfl k
theorem dX9_name_13 : decode cX9_name 13 = .ok (.getfield 23, 3) := by decide +kernel
theorem sX9_name_13 {a : Nat} {fs : List Value} {v : Int32} (hP : P.1 a = some (xO 7 fs)) (hv : fs[2]? = some (.int v)) (k : X w mX9_name d Q 16 ls (.int v :: st) P) : X w mX9_name d Q 13 ls (.ref a :: st) P := X_get (M := mX9_name) (j := 2) (T := TX9) (dX9_name_13) rfl (by decide) x_in9 xw_84 hP hv k
theorem dX9_name_16 : decode cX9_name 16 = .ok (.aload_n 0, 1) := by decide +kernel
theorem sX9_name_16 {x : Nat} (k : X w mX9_name d Q 17 [some (.ref x)] (.ref x :: st) P) : X w mX9_name d Q 16 [some (.ref x)] st P := X_aload_n (M := mX9_name) (dX9_name_16) rfl rfl k
theorem dX9_name_17 : decode cX9_name 17 = .ok (.getfield 17, 3) := by decide +kernel
theorem sX9_name_17 {a : Nat} {fs : List Value} {v : Int32} (hP : P.1 a = some (xO 7 fs)) (hv : fs[3]? = some (.int v)) (k : X w mX9_name d Q 20 ls (.int v :: st) P) : X w mX9_name d Q 17 ls (.ref a :: st) P := X_get (M := mX9_name) (j := 3) (T := TX9) (dX9_name_17) rfl (by decide) x_in9 xw_80 hP hv k
theorem dX9_name_20 : decode cX9_name 20 = .ok (.invokestatic 47, 3) := by decide +kernel
theorem sX9_name_20_g {a0 : Nat} {a1 : Int32} {a2 : Int32} {Qc : Outcome → xH → Prop} (hst : (st.map fun v => v.category).sum ≤ 8) (hC : xC w d mX4_packed [.ref a0, .int a1, .int a2] P Qc) (kr : ∀ v P1, Qc (.returned v) P1 → X w mX9_name (d + 1) Q 23 ls (v.toList ++ st) P1) (kt : ∀ q P1, Qc (.threw q) P1 → Xt w mX9_name (d + 1) Q 20 ls st P1 q) : X w mX9_name (d + 1) Q 20 ls (.int a2 :: .int a1 :: .ref a0 :: st) P := X_callS (M := mX9_name) (MC := mX4_packed) (As := [.ref a0, .int a1, .int a2]) (dX9_name_20) calX4_packed xw_96 xw_97 rfl hC hst kr kt
theorem sX9_name_20 {a0 : Nat} {a1 : Int32} {a2 : Int32} {r : Int64} {P1 : xH} (hst : (st.map fun v => v.category).sum ≤ 8) (hC : xC w d mX4_packed [.ref a0, .int a1, .int a2] P (xRet (some (.long r)) P1)) (k : X w mX9_name (d + 1) Q 23 ls (.long r :: st) P1) : X w mX9_name (d + 1) Q 20 ls (.int a2 :: .int a1 :: .ref a0 :: st) P := X_callS (M := mX9_name) (MC := mX4_packed) (As := [.ref a0, .int a1, .int a2]) (dX9_name_20) calX4_packed xw_96 xw_97 rfl hC hst (fun v P2 h => by obtain ⟨h1, rfl⟩ := h; cases h1; exact k) (fun q P2 h => by cases h.1)
theorem sX9_name_20_r {a0 : Nat} {a1 : Int32} {a2 : Int32} {r : Int64} {Rp : xH → Prop} (hst : (st.map fun v => v.category).sum ≤ 8) (hC : xC w d mX4_packed [.ref a0, .int a1, .int a2] P (xRl (some (.long r)) Rp)) (k : ∀ P1, Rp P1 → X w mX9_name (d + 1) Q 23 ls (.long r :: st) P1) : X w mX9_name (d + 1) Q 20 ls (.int a2 :: .int a1 :: .ref a0 :: st) P := X_callS (M := mX9_name) (MC := mX4_packed) (As := [.ref a0, .int a1, .int a2]) (dX9_name_20) calX4_packed xw_96 xw_97 rfl hC hst (fun v P2 h => by obtain ⟨h1, hR⟩ := h; cases h1; exact k P2 hR) (fun q P2 h => by cases h.1)
theorem sX9_name_20_t {a0 : Nat} {a1 : Int32} {a2 : Int32} {q : Nat} {P1 : xH} (hst : (st.map fun v => v.category).sum ≤ 8) (hC : xC w d mX4_packed [.ref a0, .int a1, .int a2] P (xThr q P1)) (hq : Q (.threw q) P1) : X w mX9_name (d + 1) Q 20 ls (.int a2 :: .int a1 :: .ref a0 :: st) P := X_callS (M := mX9_name) (MC := mX4_packed) (As := [.ref a0, .int a1, .int a2]) (dX9_name_20) calX4_packed xw_96 xw_97 rfl hC hst (fun v P2 h => by cases h.1) (fun q2 P2 h => by obtain ⟨h1, rfl⟩ := h; cases h1; exact Xt_out rfl hq)
theorem dX9_name_23 : decode cX9_name 23 = .ok (.goto 4, 3) := by decide +kernel
theorem sX9_name_23 (k : X w mX9_name d Q 27 ls st P) : X w mX9_name d Q 23 ls st P := X_goto (M := mX9_name) (dX9_name_23) (by decide) k
theorem dX9_name_26 : decode cX9_name 26 = .ok (.lconst 0, 1) := by decide +kernel
theorem sX9_name_26 (k : X w mX9_name d Q 27 ls (.long (0 : Int64) :: st) P) : X w mX9_name d Q 26 ls st P := X_lconst (M := mX9_name) (dX9_name_26) (by decide) k
theorem dX9_name_27 : decode cX9_name 27 = .ok (.lreturn, 1) := by decide +kernel
theorem sX9_name_27 {v : Int64} (hq : Q (.returned (some (.long v))) P) : X w mX9_name d Q 27 ls [.long v] P := X_lret (M := mX9_name) (dX9_name_27) rfl hq
theorem dX9_number_0 : decode cX9_number 0 = .ok (.iconst 0, 1) := by decide +kernel
theorem sX9_number_0 (k : X w mX9_number d Q 1 ls (.int (0 : Int32) :: st) P) : X w mX9_number d Q 0 ls st P := X_iconst (M := mX9_number) (dX9_number_0) (by decide) k
theorem dX9_number_1 : decode cX9_number 1 = .ok (.istore_n 1, 1) := by decide +kernel
theorem sX9_number_1 {l0 l1 l2 : Option Value} {x : Int32} (hn : xnl l0 = true) (k : X w mX9_number d Q 2 [l0, some (.int x), l2] st P) : X w mX9_number d Q 1 [l0, l1, l2] (.int x :: st) P := X_istore_n (M := mX9_number) (dX9_number_1) rfl (by decide) rfl (xnl_p (ls := [l0, l1, l2]) (j := 0) rfl hn) k
theorem dX9_number_2 : decode cX9_number 2 = .ok (.aload_n 0, 1) := by decide +kernel
theorem sX9_number_2 {l1 l2 : Option Value} {x : Nat} (k : X w mX9_number d Q 3 [some (.ref x), l1, l2] (.ref x :: st) P) : X w mX9_number d Q 2 [some (.ref x), l1, l2] st P := X_aload_n (M := mX9_number) (dX9_number_2) rfl rfl k
theorem dX9_number_3 : decode cX9_number 3 = .ok (.getfield 23, 3) := by decide +kernel
theorem sX9_number_3 {a : Nat} {fs : List Value} {v : Int32} (hP : P.1 a = some (xO 7 fs)) (hv : fs[2]? = some (.int v)) (k : X w mX9_number d Q 6 ls (.int v :: st) P) : X w mX9_number d Q 3 ls (.ref a :: st) P := X_get (M := mX9_number) (j := 2) (T := TX9) (dX9_number_3) rfl (by decide) x_in9 xw_84 hP hv k
theorem dX9_number_6 : decode cX9_number 6 = .ok (.istore_n 2, 1) := by decide +kernel
theorem sX9_number_6 {l0 l1 l2 : Option Value} {x : Int32} (hn : xnl l1 = true) (k : X w mX9_number d Q 7 [l0, l1, some (.int x)] st P) : X w mX9_number d Q 6 [l0, l1, l2] (.int x :: st) P := X_istore_n (M := mX9_number) (dX9_number_6) rfl (by decide) rfl (xnl_p (ls := [l0, l1, l2]) (j := 1) rfl hn) k
theorem dX9_number_7 : decode cX9_number 7 = .ok (.iload_n 2, 1) := by decide +kernel
theorem sX9_number_7 {l0 l1 : Option Value} {x : Int32} (k : X w mX9_number d Q 8 [l0, l1, some (.int x)] (.int x :: st) P) : X w mX9_number d Q 7 [l0, l1, some (.int x)] st P := X_iload_n (M := mX9_number) (dX9_number_7) rfl rfl k
theorem dX9_number_8 : decode cX9_number 8 = .ok (.aload_n 0, 1) := by decide +kernel
theorem sX9_number_8 {l1 l2 : Option Value} {x : Nat} (k : X w mX9_number d Q 9 [some (.ref x), l1, l2] (.ref x :: st) P) : X w mX9_number d Q 8 [some (.ref x), l1, l2] st P := X_aload_n (M := mX9_number) (dX9_number_8) rfl rfl k
theorem dX9_number_9 : decode cX9_number 9 = .ok (.getfield 17, 3) := by decide +kernel
theorem sX9_number_9 {a : Nat} {fs : List Value} {v : Int32} (hP : P.1 a = some (xO 7 fs)) (hv : fs[3]? = some (.int v)) (k : X w mX9_number d Q 12 ls (.int v :: st) P) : X w mX9_number d Q 9 ls (.ref a :: st) P := X_get (M := mX9_number) (j := 3) (T := TX9) (dX9_number_9) rfl (by decide) x_in9 xw_80 hP hv k
theorem dX9_number_12 : decode cX9_number 12 = .ok (.if_icmp .ge 24, 3) := by decide +kernel
theorem sX9_number_12 {x y : Int32} (kt : y ≤ x → X w mX9_number d Q 36 ls st P) (kf : ¬ y ≤ x → X w mX9_number d Q 15 ls st P) : X w mX9_number d Q 12 ls (.int y :: .int x :: st) P := X_icmp_ge (M := mX9_number) (dX9_number_12) (by decide) kt kf
theorem dX9_number_15 : decode cX9_number 15 = .ok (.bipush 10, 2) := by decide +kernel
theorem sX9_number_15 (k : X w mX9_number d Q 17 ls (.int (10 : Int32) :: st) P) : X w mX9_number d Q 15 ls st P := X_bipush (M := mX9_number) (dX9_number_15) (by decide) k
theorem dX9_number_17 : decode cX9_number 17 = .ok (.iload_n 1, 1) := by decide +kernel
theorem sX9_number_17 {l0 l2 : Option Value} {x : Int32} (k : X w mX9_number d Q 18 [l0, some (.int x), l2] (.int x :: st) P) : X w mX9_number d Q 17 [l0, some (.int x), l2] st P := X_iload_n (M := mX9_number) (dX9_number_17) rfl rfl k
theorem dX9_number_18 : decode cX9_number 18 = .ok (.imul, 1) := by decide +kernel
theorem sX9_number_18 {x y : Int32} (k : X w mX9_number d Q 19 ls (.int (x * y) :: st) P) : X w mX9_number d Q 18 ls (.int y :: .int x :: st) P := X_imul (M := mX9_number) (dX9_number_18) k
theorem dX9_number_19 : decode cX9_number 19 = .ok (.aload_n 0, 1) := by decide +kernel
theorem sX9_number_19 {l1 l2 : Option Value} {x : Nat} (k : X w mX9_number d Q 20 [some (.ref x), l1, l2] (.ref x :: st) P) : X w mX9_number d Q 19 [some (.ref x), l1, l2] st P := X_aload_n (M := mX9_number) (dX9_number_19) rfl rfl k
theorem dX9_number_20 : decode cX9_number 20 = .ok (.getfield 7, 3) := by decide +kernel
theorem sX9_number_20 {a : Nat} {fs : List Value} {v : Nat} (hP : P.1 a = some (xO 7 fs)) (hv : fs[0]? = some (.ref v)) (k : X w mX9_number d Q 23 ls (.ref v :: st) P) : X w mX9_number d Q 20 ls (.ref a :: st) P := X_get (M := mX9_number) (j := 0) (T := TX9) (dX9_number_20) rfl (by decide) x_in9 xw_78 hP hv k
theorem dX9_number_23 : decode cX9_number 23 = .ok (.iload_n 2, 1) := by decide +kernel
theorem sX9_number_23 {l0 l1 : Option Value} {x : Int32} (k : X w mX9_number d Q 24 [l0, l1, some (.int x)] (.int x :: st) P) : X w mX9_number d Q 23 [l0, l1, some (.int x)] st P := X_iload_n (M := mX9_number) (dX9_number_23) rfl rfl k
theorem dX9_number_24 : decode cX9_number 24 = .ok (.caload, 1) := by decide +kernel
theorem sX9_number_24 {a n : Nat} {f : Nat → Int32} {i : Int32} (hP : P.1 a = some (xA 2 n f)) (hi : vp_in i n) (k : X w mX9_number d Q 25 ls (.int (f i.toNatClampNeg) :: st) P) : X w mX9_number d Q 24 ls (.int i :: .ref a :: st) P := X_cald (M := mX9_number) (dX9_number_24) hP hi k
theorem dX9_number_25 : decode cX9_number 25 = .ok (.bipush 48, 2) := by decide +kernel
theorem sX9_number_25 (k : X w mX9_number d Q 27 ls (.int (48 : Int32) :: st) P) : X w mX9_number d Q 25 ls st P := X_bipush (M := mX9_number) (dX9_number_25) (by decide) k
theorem dX9_number_27 : decode cX9_number 27 = .ok (.isub, 1) := by decide +kernel
theorem sX9_number_27 {x y : Int32} (k : X w mX9_number d Q 28 ls (.int (x - y) :: st) P) : X w mX9_number d Q 27 ls (.int y :: .int x :: st) P := X_isub (M := mX9_number) (dX9_number_27) k
theorem dX9_number_28 : decode cX9_number 28 = .ok (.iadd, 1) := by decide +kernel
theorem sX9_number_28 {x y : Int32} (k : X w mX9_number d Q 29 ls (.int (x + y) :: st) P) : X w mX9_number d Q 28 ls (.int y :: .int x :: st) P := X_iadd (M := mX9_number) (dX9_number_28) k
theorem dX9_number_29 : decode cX9_number 29 = .ok (.istore_n 1, 1) := by decide +kernel
theorem sX9_number_29 {l0 l1 l2 : Option Value} {x : Int32} (hn : xnl l0 = true) (k : X w mX9_number d Q 30 [l0, some (.int x), l2] st P) : X w mX9_number d Q 29 [l0, l1, l2] (.int x :: st) P := X_istore_n (M := mX9_number) (dX9_number_29) rfl (by decide) rfl (xnl_p (ls := [l0, l1, l2]) (j := 0) rfl hn) k
theorem dX9_number_30 : decode cX9_number 30 = .ok (.iinc 2 1, 3) := by decide +kernel
theorem sX9_number_30 {l0 l1 : Option Value} {x : Int32} (hn : xnl l1 = true) (k : X w mX9_number d Q 33 [l0, l1, some (.int (x + (1 : Int32)))] st P) : X w mX9_number d Q 30 [l0, l1, some (.int x)] st P := X_iinc (M := mX9_number) (dX9_number_30) rfl (by rfl) (by decide) rfl (xnl_p (ls := [l0, l1, some (.int x)]) (j := 1) rfl hn) k
theorem dX9_number_33 : decode cX9_number 33 = .ok (.goto (-26), 3) := by decide +kernel
theorem sX9_number_33 (k : X w mX9_number d Q 7 ls st P) : X w mX9_number d Q 33 ls st P := X_goto (M := mX9_number) (dX9_number_33) (by decide) k
theorem dX9_number_36 : decode cX9_number 36 = .ok (.iload_n 1, 1) := by decide +kernel
theorem sX9_number_36 {l0 l2 : Option Value} {x : Int32} (k : X w mX9_number d Q 37 [l0, some (.int x), l2] (.int x :: st) P) : X w mX9_number d Q 36 [l0, some (.int x), l2] st P := X_iload_n (M := mX9_number) (dX9_number_36) rfl rfl k
theorem dX9_number_37 : decode cX9_number 37 = .ok (.ireturn, 1) := by decide +kernel
theorem sX9_number_37 {v : Int32} (hq : Q (.returned (some (.int v))) P) : X w mX9_number d Q 37 ls [.int v] P := X_iret (M := mX9_number) (dX9_number_37) rfl hq
theorem dX9_isDigit_0 : decode cX9_isDigit 0 = .ok (.iload_n 0, 1) := by decide +kernel
theorem sX9_isDigit_0 {x : Int32} (k : X w mX9_isDigit d Q 1 [some (.int x)] (.int x :: st) P) : X w mX9_isDigit d Q 0 [some (.int x)] st P := X_iload_n (M := mX9_isDigit) (dX9_isDigit_0) rfl rfl k
theorem dX9_isDigit_1 : decode cX9_isDigit 1 = .ok (.bipush 48, 2) := by decide +kernel
theorem sX9_isDigit_1 (k : X w mX9_isDigit d Q 3 ls (.int (48 : Int32) :: st) P) : X w mX9_isDigit d Q 1 ls st P := X_bipush (M := mX9_isDigit) (dX9_isDigit_1) (by decide) k
theorem dX9_isDigit_3 : decode cX9_isDigit 3 = .ok (.if_icmp .lt 13, 3) := by decide +kernel
theorem sX9_isDigit_3 {x y : Int32} (kt : x < y → X w mX9_isDigit d Q 16 ls st P) (kf : ¬ x < y → X w mX9_isDigit d Q 6 ls st P) : X w mX9_isDigit d Q 3 ls (.int y :: .int x :: st) P := X_icmp_lt (M := mX9_isDigit) (dX9_isDigit_3) (by decide) kt kf
theorem dX9_isDigit_6 : decode cX9_isDigit 6 = .ok (.iload_n 0, 1) := by decide +kernel
theorem sX9_isDigit_6 {x : Int32} (k : X w mX9_isDigit d Q 7 [some (.int x)] (.int x :: st) P) : X w mX9_isDigit d Q 6 [some (.int x)] st P := X_iload_n (M := mX9_isDigit) (dX9_isDigit_6) rfl rfl k
theorem dX9_isDigit_7 : decode cX9_isDigit 7 = .ok (.bipush 57, 2) := by decide +kernel
theorem sX9_isDigit_7 (k : X w mX9_isDigit d Q 9 ls (.int (57 : Int32) :: st) P) : X w mX9_isDigit d Q 7 ls st P := X_bipush (M := mX9_isDigit) (dX9_isDigit_7) (by decide) k
theorem dX9_isDigit_9 : decode cX9_isDigit 9 = .ok (.if_icmp .gt 7, 3) := by decide +kernel
theorem sX9_isDigit_9 {x y : Int32} (kt : y < x → X w mX9_isDigit d Q 16 ls st P) (kf : ¬ y < x → X w mX9_isDigit d Q 12 ls st P) : X w mX9_isDigit d Q 9 ls (.int y :: .int x :: st) P := X_icmp_gt (M := mX9_isDigit) (dX9_isDigit_9) (by decide) kt kf
theorem dX9_isDigit_12 : decode cX9_isDigit 12 = .ok (.iconst 1, 1) := by decide +kernel
theorem sX9_isDigit_12 (k : X w mX9_isDigit d Q 13 ls (.int (1 : Int32) :: st) P) : X w mX9_isDigit d Q 12 ls st P := X_iconst (M := mX9_isDigit) (dX9_isDigit_12) (by decide) k
theorem dX9_isDigit_13 : decode cX9_isDigit 13 = .ok (.goto 4, 3) := by decide +kernel
theorem sX9_isDigit_13 (k : X w mX9_isDigit d Q 17 ls st P) : X w mX9_isDigit d Q 13 ls st P := X_goto (M := mX9_isDigit) (dX9_isDigit_13) (by decide) k
theorem dX9_isDigit_16 : decode cX9_isDigit 16 = .ok (.iconst 0, 1) := by decide +kernel
theorem sX9_isDigit_16 (k : X w mX9_isDigit d Q 17 ls (.int (0 : Int32) :: st) P) : X w mX9_isDigit d Q 16 ls st P := X_iconst (M := mX9_isDigit) (dX9_isDigit_16) (by decide) k
theorem dX9_isDigit_17 : decode cX9_isDigit 17 = .ok (.ireturn, 1) := by decide +kernel
theorem sX9_isDigit_17 {v : Int32} (hb : v = 0 ∨ v = 1) (hq : Q (.returned (some (.int v))) P) : X w mX9_isDigit d Q 17 ls [.int v] P := X_zret (M := mX9_isDigit) (ty := .boolean) (dX9_isDigit_17) rfl (xz_n hb) hq
theorem dX9_isLetter_0 : decode cX9_isLetter 0 = .ok (.iload_n 0, 1) := by decide +kernel
theorem sX9_isLetter_0 {x : Int32} (k : X w mX9_isLetter d Q 1 [some (.int x)] (.int x :: st) P) : X w mX9_isLetter d Q 0 [some (.int x)] st P := X_iload_n (M := mX9_isLetter) (dX9_isLetter_0) rfl rfl k
theorem dX9_isLetter_1 : decode cX9_isLetter 1 = .ok (.bipush 97, 2) := by decide +kernel
theorem sX9_isLetter_1 (k : X w mX9_isLetter d Q 3 ls (.int (97 : Int32) :: st) P) : X w mX9_isLetter d Q 1 ls st P := X_bipush (M := mX9_isLetter) (dX9_isLetter_1) (by decide) k
theorem dX9_isLetter_3 : decode cX9_isLetter 3 = .ok (.if_icmp .lt 9, 3) := by decide +kernel
theorem sX9_isLetter_3 {x y : Int32} (kt : x < y → X w mX9_isLetter d Q 12 ls st P) (kf : ¬ x < y → X w mX9_isLetter d Q 6 ls st P) : X w mX9_isLetter d Q 3 ls (.int y :: .int x :: st) P := X_icmp_lt (M := mX9_isLetter) (dX9_isLetter_3) (by decide) kt kf
theorem dX9_isLetter_6 : decode cX9_isLetter 6 = .ok (.iload_n 0, 1) := by decide +kernel
theorem sX9_isLetter_6 {x : Int32} (k : X w mX9_isLetter d Q 7 [some (.int x)] (.int x :: st) P) : X w mX9_isLetter d Q 6 [some (.int x)] st P := X_iload_n (M := mX9_isLetter) (dX9_isLetter_6) rfl rfl k
theorem dX9_isLetter_7 : decode cX9_isLetter 7 = .ok (.bipush 122, 2) := by decide +kernel
theorem sX9_isLetter_7 (k : X w mX9_isLetter d Q 9 ls (.int (122 : Int32) :: st) P) : X w mX9_isLetter d Q 7 ls st P := X_bipush (M := mX9_isLetter) (dX9_isLetter_7) (by decide) k
theorem dX9_isLetter_9 : decode cX9_isLetter 9 = .ok (.if_icmp .le 21, 3) := by decide +kernel
theorem sX9_isLetter_9 {x y : Int32} (kt : x ≤ y → X w mX9_isLetter d Q 30 ls st P) (kf : ¬ x ≤ y → X w mX9_isLetter d Q 12 ls st P) : X w mX9_isLetter d Q 9 ls (.int y :: .int x :: st) P := X_icmp_le (M := mX9_isLetter) (dX9_isLetter_9) (by decide) kt kf
theorem dX9_isLetter_12 : decode cX9_isLetter 12 = .ok (.iload_n 0, 1) := by decide +kernel
theorem sX9_isLetter_12 {x : Int32} (k : X w mX9_isLetter d Q 13 [some (.int x)] (.int x :: st) P) : X w mX9_isLetter d Q 12 [some (.int x)] st P := X_iload_n (M := mX9_isLetter) (dX9_isLetter_12) rfl rfl k
theorem dX9_isLetter_13 : decode cX9_isLetter 13 = .ok (.bipush 65, 2) := by decide +kernel
theorem sX9_isLetter_13 (k : X w mX9_isLetter d Q 15 ls (.int (65 : Int32) :: st) P) : X w mX9_isLetter d Q 13 ls st P := X_bipush (M := mX9_isLetter) (dX9_isLetter_13) (by decide) k
theorem dX9_isLetter_15 : decode cX9_isLetter 15 = .ok (.if_icmp .lt 9, 3) := by decide +kernel
theorem sX9_isLetter_15 {x y : Int32} (kt : x < y → X w mX9_isLetter d Q 24 ls st P) (kf : ¬ x < y → X w mX9_isLetter d Q 18 ls st P) : X w mX9_isLetter d Q 15 ls (.int y :: .int x :: st) P := X_icmp_lt (M := mX9_isLetter) (dX9_isLetter_15) (by decide) kt kf
theorem dX9_isLetter_18 : decode cX9_isLetter 18 = .ok (.iload_n 0, 1) := by decide +kernel
theorem sX9_isLetter_18 {x : Int32} (k : X w mX9_isLetter d Q 19 [some (.int x)] (.int x :: st) P) : X w mX9_isLetter d Q 18 [some (.int x)] st P := X_iload_n (M := mX9_isLetter) (dX9_isLetter_18) rfl rfl k
theorem dX9_isLetter_19 : decode cX9_isLetter 19 = .ok (.bipush 90, 2) := by decide +kernel
theorem sX9_isLetter_19 (k : X w mX9_isLetter d Q 21 ls (.int (90 : Int32) :: st) P) : X w mX9_isLetter d Q 19 ls st P := X_bipush (M := mX9_isLetter) (dX9_isLetter_19) (by decide) k
theorem dX9_isLetter_21 : decode cX9_isLetter 21 = .ok (.if_icmp .le 9, 3) := by decide +kernel
theorem sX9_isLetter_21 {x y : Int32} (kt : x ≤ y → X w mX9_isLetter d Q 30 ls st P) (kf : ¬ x ≤ y → X w mX9_isLetter d Q 24 ls st P) : X w mX9_isLetter d Q 21 ls (.int y :: .int x :: st) P := X_icmp_le (M := mX9_isLetter) (dX9_isLetter_21) (by decide) kt kf
theorem dX9_isLetter_24 : decode cX9_isLetter 24 = .ok (.iload_n 0, 1) := by decide +kernel
theorem sX9_isLetter_24 {x : Int32} (k : X w mX9_isLetter d Q 25 [some (.int x)] (.int x :: st) P) : X w mX9_isLetter d Q 24 [some (.int x)] st P := X_iload_n (M := mX9_isLetter) (dX9_isLetter_24) rfl rfl k
theorem dX9_isLetter_25 : decode cX9_isLetter 25 = .ok (.bipush 95, 2) := by decide +kernel
theorem sX9_isLetter_25 (k : X w mX9_isLetter d Q 27 ls (.int (95 : Int32) :: st) P) : X w mX9_isLetter d Q 25 ls st P := X_bipush (M := mX9_isLetter) (dX9_isLetter_25) (by decide) k
theorem dX9_isLetter_27 : decode cX9_isLetter 27 = .ok (.if_icmp .ne 7, 3) := by decide +kernel
theorem sX9_isLetter_27 {x y : Int32} (kt : ¬ x = y → X w mX9_isLetter d Q 34 ls st P) (kf : x = y → X w mX9_isLetter d Q 30 ls st P) : X w mX9_isLetter d Q 27 ls (.int y :: .int x :: st) P := X_icmp_ne (M := mX9_isLetter) (dX9_isLetter_27) (by decide) kt kf
theorem dX9_isLetter_30 : decode cX9_isLetter 30 = .ok (.iconst 1, 1) := by decide +kernel
theorem sX9_isLetter_30 (k : X w mX9_isLetter d Q 31 ls (.int (1 : Int32) :: st) P) : X w mX9_isLetter d Q 30 ls st P := X_iconst (M := mX9_isLetter) (dX9_isLetter_30) (by decide) k
theorem dX9_isLetter_31 : decode cX9_isLetter 31 = .ok (.goto 4, 3) := by decide +kernel
theorem sX9_isLetter_31 (k : X w mX9_isLetter d Q 35 ls st P) : X w mX9_isLetter d Q 31 ls st P := X_goto (M := mX9_isLetter) (dX9_isLetter_31) (by decide) k
theorem dX9_isLetter_34 : decode cX9_isLetter 34 = .ok (.iconst 0, 1) := by decide +kernel
theorem sX9_isLetter_34 (k : X w mX9_isLetter d Q 35 ls (.int (0 : Int32) :: st) P) : X w mX9_isLetter d Q 34 ls st P := X_iconst (M := mX9_isLetter) (dX9_isLetter_34) (by decide) k
theorem dX9_isLetter_35 : decode cX9_isLetter 35 = .ok (.ireturn, 1) := by decide +kernel
theorem sX9_isLetter_35 {v : Int32} (hb : v = 0 ∨ v = 1) (hq : Q (.returned (some (.int v))) P) : X w mX9_isLetter d Q 35 ls [.int v] P := X_zret (M := mX9_isLetter) (ty := .boolean) (dX9_isLetter_35) rfl (xz_n hb) hq
end
