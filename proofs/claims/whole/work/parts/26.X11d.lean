section
variable {w : xWd} {d : Nat} {Q : Outcome → xH → Prop} {ls : List (Option Value)} {st : List Value} {P : xH}
theorem dX11_isOrder_0 : decode cX11_isOrder 0 = .ok (.iconst 0, 1) := by decide +kernel
theorem sX11_isOrder_0 (k : X w mX11_isOrder d Q 1 ls (.int (0 : Int32) :: st) P) : X w mX11_isOrder d Q 0 ls st P := X_iconst (M := mX11_isOrder) (dX11_isOrder_0) (by decide) k
theorem dX11_isOrder_1 : decode cX11_isOrder 1 = .ok (.istore_n 2, 1) := by decide +kernel
theorem sX11_isOrder_1 {l0 l1 l2 l3 : Option Value} {x : Int32} (hn : xnl l1 = true) (k : X w mX11_isOrder d Q 2 [l0, l1, some (.int x), l3] st P) : X w mX11_isOrder d Q 1 [l0, l1, l2, l3] (.int x :: st) P := X_istore_n (M := mX11_isOrder) (dX11_isOrder_1) rfl (by decide) rfl (xnl_p (ls := [l0, l1, l2, l3]) (j := 1) rfl hn) k
theorem dX11_isOrder_2 : decode cX11_isOrder 2 = .ok (.iconst 0, 1) := by decide +kernel
theorem sX11_isOrder_2 (k : X w mX11_isOrder d Q 3 ls (.int (0 : Int32) :: st) P) : X w mX11_isOrder d Q 2 ls st P := X_iconst (M := mX11_isOrder) (dX11_isOrder_2) (by decide) k
theorem dX11_isOrder_3 : decode cX11_isOrder 3 = .ok (.istore_n 3, 1) := by decide +kernel
theorem sX11_isOrder_3 {l0 l1 l2 l3 : Option Value} {x : Int32} (hn : xnl l2 = true) (k : X w mX11_isOrder d Q 4 [l0, l1, l2, some (.int x)] st P) : X w mX11_isOrder d Q 3 [l0, l1, l2, l3] (.int x :: st) P := X_istore_n (M := mX11_isOrder) (dX11_isOrder_3) rfl (by decide) rfl (xnl_p (ls := [l0, l1, l2, l3]) (j := 2) rfl hn) k
theorem dX11_isOrder_4 : decode cX11_isOrder 4 = .ok (.iload_n 3, 1) := by decide +kernel
theorem sX11_isOrder_4 {l0 l1 l2 : Option Value} {x : Int32} (k : X w mX11_isOrder d Q 5 [l0, l1, l2, some (.int x)] (.int x :: st) P) : X w mX11_isOrder d Q 4 [l0, l1, l2, some (.int x)] st P := X_iload_n (M := mX11_isOrder) (dX11_isOrder_4) rfl rfl k
theorem dX11_isOrder_5 : decode cX11_isOrder 5 = .ok (.iload_n 1, 1) := by decide +kernel
theorem sX11_isOrder_5 {l0 l2 l3 : Option Value} {x : Int32} (k : X w mX11_isOrder d Q 6 [l0, some (.int x), l2, l3] (.int x :: st) P) : X w mX11_isOrder d Q 5 [l0, some (.int x), l2, l3] st P := X_iload_n (M := mX11_isOrder) (dX11_isOrder_5) rfl rfl k
theorem dX11_isOrder_6 : decode cX11_isOrder 6 = .ok (.if_icmp .ge 20, 3) := by decide +kernel
theorem sX11_isOrder_6 {x y : Int32} (kt : y ≤ x → X w mX11_isOrder d Q 26 ls st P) (kf : ¬ y ≤ x → X w mX11_isOrder d Q 9 ls st P) : X w mX11_isOrder d Q 6 ls (.int y :: .int x :: st) P := X_icmp_ge (M := mX11_isOrder) (dX11_isOrder_6) (by decide) kt kf
theorem dX11_isOrder_9 : decode cX11_isOrder 9 = .ok (.iload_n 2, 1) := by decide +kernel
theorem sX11_isOrder_9 {l0 l1 l3 : Option Value} {x : Int32} (k : X w mX11_isOrder d Q 10 [l0, l1, some (.int x), l3] (.int x :: st) P) : X w mX11_isOrder d Q 9 [l0, l1, some (.int x), l3] st P := X_iload_n (M := mX11_isOrder) (dX11_isOrder_9) rfl rfl k
theorem dX11_isOrder_10 : decode cX11_isOrder 10 = .ok (.iconst 1, 1) := by decide +kernel
theorem sX11_isOrder_10 (k : X w mX11_isOrder d Q 11 ls (.int (1 : Int32) :: st) P) : X w mX11_isOrder d Q 10 ls st P := X_iconst (M := mX11_isOrder) (dX11_isOrder_10) (by decide) k
theorem dX11_isOrder_11 : decode cX11_isOrder 11 = .ok (.aload_n 0, 1) := by decide +kernel
theorem sX11_isOrder_11 {l1 l2 l3 : Option Value} {x : Nat} (k : X w mX11_isOrder d Q 12 [some (.ref x), l1, l2, l3] (.ref x :: st) P) : X w mX11_isOrder d Q 11 [some (.ref x), l1, l2, l3] st P := X_aload_n (M := mX11_isOrder) (dX11_isOrder_11) rfl rfl k
theorem dX11_isOrder_12 : decode cX11_isOrder 12 = .ok (.getfield 78, 3) := by decide +kernel
theorem sX11_isOrder_12 {a : Nat} {fs : List Value} {v : Nat} (hP : P.1 a = some (xO 9 fs)) (hv : fs[35]? = some (.ref v)) (k : X w mX11_isOrder d Q 15 ls (.ref v :: st) P) : X w mX11_isOrder d Q 12 ls (.ref a :: st) P := X_get (M := mX11_isOrder) (j := 35) (T := TX11) (dX11_isOrder_12) rfl (by decide) x_in11 xw_426 hP hv k
theorem dX11_isOrder_15 : decode cX11_isOrder 15 = .ok (.iload_n 3, 1) := by decide +kernel
theorem sX11_isOrder_15 {l0 l1 l2 : Option Value} {x : Int32} (k : X w mX11_isOrder d Q 16 [l0, l1, l2, some (.int x)] (.int x :: st) P) : X w mX11_isOrder d Q 15 [l0, l1, l2, some (.int x)] st P := X_iload_n (M := mX11_isOrder) (dX11_isOrder_15) rfl rfl k
theorem dX11_isOrder_16 : decode cX11_isOrder 16 = .ok (.iaload, 1) := by decide +kernel
theorem sX11_isOrder_16 {a n : Nat} {f : Nat → Int32} {i : Int32} (hP : P.1 a = some (xA 0 n f)) (hi : vp_in i n) (k : X w mX11_isOrder d Q 17 ls (.int (f i.toNatClampNeg) :: st) P) : X w mX11_isOrder d Q 16 ls (.int i :: .ref a :: st) P := X_iald (M := mX11_isOrder) (dX11_isOrder_16) hP hi k
theorem dX11_isOrder_17 : decode cX11_isOrder 17 = .ok (.ishl, 1) := by decide +kernel
theorem sX11_isOrder_17 {x y : Int32} (k : X w mX11_isOrder d Q 18 ls (.int (x <<< (y &&& 31)) :: st) P) : X w mX11_isOrder d Q 17 ls (.int y :: .int x :: st) P := X_ishl (M := mX11_isOrder) (dX11_isOrder_17) k
theorem dX11_isOrder_18 : decode cX11_isOrder 18 = .ok (.ior, 1) := by decide +kernel
theorem sX11_isOrder_18 {x y : Int32} (k : X w mX11_isOrder d Q 19 ls (.int (x ||| y) :: st) P) : X w mX11_isOrder d Q 18 ls (.int y :: .int x :: st) P := X_ior (M := mX11_isOrder) (dX11_isOrder_18) k
theorem dX11_isOrder_19 : decode cX11_isOrder 19 = .ok (.istore_n 2, 1) := by decide +kernel
theorem sX11_isOrder_19 {l0 l1 l2 l3 : Option Value} {x : Int32} (hn : xnl l1 = true) (k : X w mX11_isOrder d Q 20 [l0, l1, some (.int x), l3] st P) : X w mX11_isOrder d Q 19 [l0, l1, l2, l3] (.int x :: st) P := X_istore_n (M := mX11_isOrder) (dX11_isOrder_19) rfl (by decide) rfl (xnl_p (ls := [l0, l1, l2, l3]) (j := 1) rfl hn) k
theorem dX11_isOrder_20 : decode cX11_isOrder 20 = .ok (.iinc 3 1, 3) := by decide +kernel
theorem sX11_isOrder_20 {l0 l1 l2 : Option Value} {x : Int32} (hn : xnl l2 = true) (k : X w mX11_isOrder d Q 23 [l0, l1, l2, some (.int (x + (1 : Int32)))] st P) : X w mX11_isOrder d Q 20 [l0, l1, l2, some (.int x)] st P := X_iinc (M := mX11_isOrder) (dX11_isOrder_20) rfl (by rfl) (by decide) rfl (xnl_p (ls := [l0, l1, l2, some (.int x)]) (j := 2) rfl hn) k
theorem dX11_isOrder_23 : decode cX11_isOrder 23 = .ok (.goto (-19), 3) := by decide +kernel
theorem sX11_isOrder_23 (k : X w mX11_isOrder d Q 4 ls st P) : X w mX11_isOrder d Q 23 ls st P := X_goto (M := mX11_isOrder) (dX11_isOrder_23) (by decide) k
theorem dX11_isOrder_26 : decode cX11_isOrder 26 = .ok (.iload_n 2, 1) := by decide +kernel
theorem sX11_isOrder_26 {l0 l1 l3 : Option Value} {x : Int32} (k : X w mX11_isOrder d Q 27 [l0, l1, some (.int x), l3] (.int x :: st) P) : X w mX11_isOrder d Q 26 [l0, l1, some (.int x), l3] st P := X_iload_n (M := mX11_isOrder) (dX11_isOrder_26) rfl rfl k
theorem dX11_isOrder_27 : decode cX11_isOrder 27 = .ok (.iconst 1, 1) := by decide +kernel
theorem sX11_isOrder_27 (k : X w mX11_isOrder d Q 28 ls (.int (1 : Int32) :: st) P) : X w mX11_isOrder d Q 27 ls st P := X_iconst (M := mX11_isOrder) (dX11_isOrder_27) (by decide) k
theorem dX11_isOrder_28 : decode cX11_isOrder 28 = .ok (.iload_n 1, 1) := by decide +kernel
theorem sX11_isOrder_28 {l0 l2 l3 : Option Value} {x : Int32} (k : X w mX11_isOrder d Q 29 [l0, some (.int x), l2, l3] (.int x :: st) P) : X w mX11_isOrder d Q 28 [l0, some (.int x), l2, l3] st P := X_iload_n (M := mX11_isOrder) (dX11_isOrder_28) rfl rfl k
theorem dX11_isOrder_29 : decode cX11_isOrder 29 = .ok (.ishl, 1) := by decide +kernel
theorem sX11_isOrder_29 {x y : Int32} (k : X w mX11_isOrder d Q 30 ls (.int (x <<< (y &&& 31)) :: st) P) : X w mX11_isOrder d Q 29 ls (.int y :: .int x :: st) P := X_ishl (M := mX11_isOrder) (dX11_isOrder_29) k
theorem dX11_isOrder_30 : decode cX11_isOrder 30 = .ok (.iconst 1, 1) := by decide +kernel
theorem sX11_isOrder_30 (k : X w mX11_isOrder d Q 31 ls (.int (1 : Int32) :: st) P) : X w mX11_isOrder d Q 30 ls st P := X_iconst (M := mX11_isOrder) (dX11_isOrder_30) (by decide) k
theorem dX11_isOrder_31 : decode cX11_isOrder 31 = .ok (.isub, 1) := by decide +kernel
theorem sX11_isOrder_31 {x y : Int32} (k : X w mX11_isOrder d Q 32 ls (.int (x - y) :: st) P) : X w mX11_isOrder d Q 31 ls (.int y :: .int x :: st) P := X_isub (M := mX11_isOrder) (dX11_isOrder_31) k
theorem dX11_isOrder_32 : decode cX11_isOrder 32 = .ok (.if_icmp .ne 7, 3) := by decide +kernel
theorem sX11_isOrder_32 {x y : Int32} (kt : ¬ x = y → X w mX11_isOrder d Q 39 ls st P) (kf : x = y → X w mX11_isOrder d Q 35 ls st P) : X w mX11_isOrder d Q 32 ls (.int y :: .int x :: st) P := X_icmp_ne (M := mX11_isOrder) (dX11_isOrder_32) (by decide) kt kf
theorem dX11_isOrder_35 : decode cX11_isOrder 35 = .ok (.iconst 1, 1) := by decide +kernel
theorem sX11_isOrder_35 (k : X w mX11_isOrder d Q 36 ls (.int (1 : Int32) :: st) P) : X w mX11_isOrder d Q 35 ls st P := X_iconst (M := mX11_isOrder) (dX11_isOrder_35) (by decide) k
theorem dX11_isOrder_36 : decode cX11_isOrder 36 = .ok (.goto 4, 3) := by decide +kernel
theorem sX11_isOrder_36 (k : X w mX11_isOrder d Q 40 ls st P) : X w mX11_isOrder d Q 36 ls st P := X_goto (M := mX11_isOrder) (dX11_isOrder_36) (by decide) k
theorem dX11_isOrder_39 : decode cX11_isOrder 39 = .ok (.iconst 0, 1) := by decide +kernel
theorem sX11_isOrder_39 (k : X w mX11_isOrder d Q 40 ls (.int (0 : Int32) :: st) P) : X w mX11_isOrder d Q 39 ls st P := X_iconst (M := mX11_isOrder) (dX11_isOrder_39) (by decide) k
theorem dX11_isOrder_40 : decode cX11_isOrder 40 = .ok (.ireturn, 1) := by decide +kernel
theorem sX11_isOrder_40 {v : Int32} (hb : v = 0 ∨ v = 1) (hq : Q (.returned (some (.int v))) P) : X w mX11_isOrder d Q 40 ls [.int v] P := X_zret (M := mX11_isOrder) (ty := .boolean) (dX11_isOrder_40) rfl (xz_n hb) hq
theorem dX11_find_0 : decode cX11_find 0 = .ok (.aload_n 0, 1) := by decide +kernel
theorem sX11_find_0 {l1 l2 l3 l4 : Option Value} {x : Nat} (k : X w mX11_find d Q 1 [some (.ref x), l1, l2, l3, l4] (.ref x :: st) P) : X w mX11_find d Q 0 [some (.ref x), l1, l2, l3, l4] st P := X_aload_n (M := mX11_find) (dX11_find_0) rfl rfl k
theorem dX11_find_1 : decode cX11_find 1 = .ok (.getfield 47, 3) := by decide +kernel
theorem sX11_find_1 {a : Nat} {fs : List Value} {v : Nat} (hP : P.1 a = some (xO 9 fs)) (hv : fs[15]? = some (.ref v)) (k : X w mX11_find d Q 4 ls (.ref v :: st) P) : X w mX11_find d Q 1 ls (.ref a :: st) P := X_get (M := mX11_find) (j := 15) (T := TX11) (dX11_find_1) rfl (by decide) x_in11 xw_416 hP hv k
theorem dX11_find_4 : decode cX11_find 4 = .ok (.iload_n 1, 1) := by decide +kernel
theorem sX11_find_4 {l0 l2 l3 l4 : Option Value} {x : Int32} (k : X w mX11_find d Q 5 [l0, some (.int x), l2, l3, l4] (.int x :: st) P) : X w mX11_find d Q 4 [l0, some (.int x), l2, l3, l4] st P := X_iload_n (M := mX11_find) (dX11_find_4) rfl rfl k
theorem dX11_find_5 : decode cX11_find 5 = .ok (.iaload, 1) := by decide +kernel
theorem sX11_find_5 {a n : Nat} {f : Nat → Int32} {i : Int32} (hP : P.1 a = some (xA 0 n f)) (hi : vp_in i n) (k : X w mX11_find d Q 6 ls (.int (f i.toNatClampNeg) :: st) P) : X w mX11_find d Q 5 ls (.int i :: .ref a :: st) P := X_iald (M := mX11_find) (dX11_find_5) hP hi k
theorem dX11_find_6 : decode cX11_find 6 = .ok (.istore_n 3, 1) := by decide +kernel
theorem sX11_find_6 {l0 l1 l2 l3 l4 : Option Value} {x : Int32} (hn : xnl l2 = true) (k : X w mX11_find d Q 7 [l0, l1, l2, some (.int x), l4] st P) : X w mX11_find d Q 6 [l0, l1, l2, l3, l4] (.int x :: st) P := X_istore_n (M := mX11_find) (dX11_find_6) rfl (by decide) rfl (xnl_p (ls := [l0, l1, l2, l3, l4]) (j := 2) rfl hn) k
theorem dX11_find_7 : decode cX11_find 7 = .ok (.aload_n 0, 1) := by decide +kernel
theorem sX11_find_7 {l1 l2 l3 l4 : Option Value} {x : Nat} (k : X w mX11_find d Q 8 [some (.ref x), l1, l2, l3, l4] (.ref x :: st) P) : X w mX11_find d Q 7 [some (.ref x), l1, l2, l3, l4] st P := X_aload_n (M := mX11_find) (dX11_find_7) rfl rfl k
theorem dX11_find_8 : decode cX11_find 8 = .ok (.getfield 47, 3) := by decide +kernel
theorem sX11_find_8 {a : Nat} {fs : List Value} {v : Nat} (hP : P.1 a = some (xO 9 fs)) (hv : fs[15]? = some (.ref v)) (k : X w mX11_find d Q 11 ls (.ref v :: st) P) : X w mX11_find d Q 8 ls (.ref a :: st) P := X_get (M := mX11_find) (j := 15) (T := TX11) (dX11_find_8) rfl (by decide) x_in11 xw_416 hP hv k
theorem dX11_find_11 : decode cX11_find 11 = .ok (.iload_n 2, 1) := by decide +kernel
theorem sX11_find_11 {l0 l1 l3 l4 : Option Value} {x : Int32} (k : X w mX11_find d Q 12 [l0, l1, some (.int x), l3, l4] (.int x :: st) P) : X w mX11_find d Q 11 [l0, l1, some (.int x), l3, l4] st P := X_iload_n (M := mX11_find) (dX11_find_11) rfl rfl k
theorem dX11_find_12 : decode cX11_find 12 = .ok (.iaload, 1) := by decide +kernel
theorem sX11_find_12 {a n : Nat} {f : Nat → Int32} {i : Int32} (hP : P.1 a = some (xA 0 n f)) (hi : vp_in i n) (k : X w mX11_find d Q 13 ls (.int (f i.toNatClampNeg) :: st) P) : X w mX11_find d Q 12 ls (.int i :: .ref a :: st) P := X_iald (M := mX11_find) (dX11_find_12) hP hi k
theorem dX11_find_13 : decode cX11_find 13 = .ok (.iload_n 3, 1) := by decide +kernel
theorem sX11_find_13 {l0 l1 l2 l4 : Option Value} {x : Int32} (k : X w mX11_find d Q 14 [l0, l1, l2, some (.int x), l4] (.int x :: st) P) : X w mX11_find d Q 13 [l0, l1, l2, some (.int x), l4] st P := X_iload_n (M := mX11_find) (dX11_find_13) rfl rfl k
theorem dX11_find_14 : decode cX11_find 14 = .ok (.if_icmp .eq 5, 3) := by decide +kernel
theorem sX11_find_14 {x y : Int32} (kt : x = y → X w mX11_find d Q 19 ls st P) (kf : ¬ x = y → X w mX11_find d Q 17 ls st P) : X w mX11_find d Q 14 ls (.int y :: .int x :: st) P := X_icmp_eq (M := mX11_find) (dX11_find_14) (by decide) kt kf
theorem dX11_find_17 : decode cX11_find 17 = .ok (.iconst 0, 1) := by decide +kernel
theorem sX11_find_17 (k : X w mX11_find d Q 18 ls (.int (0 : Int32) :: st) P) : X w mX11_find d Q 17 ls st P := X_iconst (M := mX11_find) (dX11_find_17) (by decide) k
theorem dX11_find_18 : decode cX11_find 18 = .ok (.ireturn, 1) := by decide +kernel
theorem sX11_find_18 {v : Int32} (hb : v = 0 ∨ v = 1) (hq : Q (.returned (some (.int v))) P) : X w mX11_find d Q 18 ls [.int v] P := X_zret (M := mX11_find) (ty := .boolean) (dX11_find_18) rfl (xz_n hb) hq
theorem dX11_find_19 : decode cX11_find 19 = .ok (.iconst 0, 1) := by decide +kernel
theorem sX11_find_19 (k : X w mX11_find d Q 20 ls (.int (0 : Int32) :: st) P) : X w mX11_find d Q 19 ls st P := X_iconst (M := mX11_find) (dX11_find_19) (by decide) k
theorem dX11_find_20 : decode cX11_find 20 = .ok (.istore 4, 2) := by decide +kernel
theorem sX11_find_20 {l0 l1 l2 l3 l4 : Option Value} {x : Int32} (hn : xnl l3 = true) (k : X w mX11_find d Q 22 [l0, l1, l2, l3, some (.int x)] st P) : X w mX11_find d Q 20 [l0, l1, l2, l3, l4] (.int x :: st) P := X_istore (M := mX11_find) (dX11_find_20) (by decide) rfl (xnl_p (ls := [l0, l1, l2, l3, l4]) (j := 3) rfl hn) k
theorem dX11_find_22 : decode cX11_find 22 = .ok (.iload 4, 2) := by decide +kernel
theorem sX11_find_22 {l0 l1 l2 l3 : Option Value} {x : Int32} (k : X w mX11_find d Q 24 [l0, l1, l2, l3, some (.int x)] (.int x :: st) P) : X w mX11_find d Q 22 [l0, l1, l2, l3, some (.int x)] st P := X_iload (M := mX11_find) (dX11_find_22) rfl k
theorem dX11_find_24 : decode cX11_find 24 = .ok (.iload_n 3, 1) := by decide +kernel
theorem sX11_find_24 {l0 l1 l2 l4 : Option Value} {x : Int32} (k : X w mX11_find d Q 25 [l0, l1, l2, some (.int x), l4] (.int x :: st) P) : X w mX11_find d Q 24 [l0, l1, l2, some (.int x), l4] st P := X_iload_n (M := mX11_find) (dX11_find_24) rfl rfl k
theorem dX11_find_25 : decode cX11_find 25 = .ok (.if_icmp .ge 17, 3) := by decide +kernel
theorem sX11_find_25 {x y : Int32} (kt : y ≤ x → X w mX11_find d Q 42 ls st P) (kf : ¬ y ≤ x → X w mX11_find d Q 28 ls st P) : X w mX11_find d Q 25 ls (.int y :: .int x :: st) P := X_icmp_ge (M := mX11_find) (dX11_find_25) (by decide) kt kf
theorem dX11_find_28 : decode cX11_find 28 = .ok (.aload_n 0, 1) := by decide +kernel
theorem sX11_find_28 {l1 l2 l3 l4 : Option Value} {x : Nat} (k : X w mX11_find d Q 29 [some (.ref x), l1, l2, l3, l4] (.ref x :: st) P) : X w mX11_find d Q 28 [some (.ref x), l1, l2, l3, l4] st P := X_aload_n (M := mX11_find) (dX11_find_28) rfl rfl k
theorem dX11_find_29 : decode cX11_find 29 = .ok (.getfield 78, 3) := by decide +kernel
theorem sX11_find_29 {a : Nat} {fs : List Value} {v : Nat} (hP : P.1 a = some (xO 9 fs)) (hv : fs[35]? = some (.ref v)) (k : X w mX11_find d Q 32 ls (.ref v :: st) P) : X w mX11_find d Q 29 ls (.ref a :: st) P := X_get (M := mX11_find) (j := 35) (T := TX11) (dX11_find_29) rfl (by decide) x_in11 xw_426 hP hv k
theorem dX11_find_32 : decode cX11_find 32 = .ok (.iload 4, 2) := by decide +kernel
theorem sX11_find_32 {l0 l1 l2 l3 : Option Value} {x : Int32} (k : X w mX11_find d Q 34 [l0, l1, l2, l3, some (.int x)] (.int x :: st) P) : X w mX11_find d Q 32 [l0, l1, l2, l3, some (.int x)] st P := X_iload (M := mX11_find) (dX11_find_32) rfl k
theorem dX11_find_34 : decode cX11_find 34 = .ok (.iconst 0, 1) := by decide +kernel
theorem sX11_find_34 (k : X w mX11_find d Q 35 ls (.int (0 : Int32) :: st) P) : X w mX11_find d Q 34 ls st P := X_iconst (M := mX11_find) (dX11_find_34) (by decide) k
theorem dX11_find_35 : decode cX11_find 35 = .ok (.iastore, 1) := by decide +kernel
theorem sX11_find_35 {a n : Nat} {f : Nat → Int32} {i x : Int32} (hP : P.1 a = some (xA 0 n f)) (hi : vp_in i n) (k : X w mX11_find d Q 36 ls st (xs P a (xA 0 n (upd f i.toNatClampNeg x)))) : X w mX11_find d Q 35 ls (.int x :: .int i :: .ref a :: st) P := X_iast (M := mX11_find) (dX11_find_35) hP hi k
theorem dX11_find_36 : decode cX11_find 36 = .ok (.iinc 4 1, 3) := by decide +kernel
theorem sX11_find_36 {l0 l1 l2 l3 : Option Value} {x : Int32} (hn : xnl l3 = true) (k : X w mX11_find d Q 39 [l0, l1, l2, l3, some (.int (x + (1 : Int32)))] st P) : X w mX11_find d Q 36 [l0, l1, l2, l3, some (.int x)] st P := X_iinc (M := mX11_find) (dX11_find_36) rfl (by rfl) (by decide) rfl (xnl_p (ls := [l0, l1, l2, l3, some (.int x)]) (j := 3) rfl hn) k
theorem dX11_find_39 : decode cX11_find 39 = .ok (.goto (-17), 3) := by decide +kernel
theorem sX11_find_39 (k : X w mX11_find d Q 22 ls st P) : X w mX11_find d Q 39 ls st P := X_goto (M := mX11_find) (dX11_find_39) (by decide) k
theorem dX11_find_42 : decode cX11_find 42 = .ok (.aload_n 0, 1) := by decide +kernel
theorem sX11_find_42 {l1 l2 l3 l4 : Option Value} {x : Nat} (k : X w mX11_find d Q 43 [some (.ref x), l1, l2, l3, l4] (.ref x :: st) P) : X w mX11_find d Q 42 [some (.ref x), l1, l2, l3, l4] st P := X_aload_n (M := mX11_find) (dX11_find_42) rfl rfl k
theorem dX11_find_43 : decode cX11_find 43 = .ok (.iload_n 3, 1) := by decide +kernel
theorem sX11_find_43 {l0 l1 l2 l4 : Option Value} {x : Int32} (k : X w mX11_find d Q 44 [l0, l1, l2, some (.int x), l4] (.int x :: st) P) : X w mX11_find d Q 43 [l0, l1, l2, some (.int x), l4] st P := X_iload_n (M := mX11_find) (dX11_find_43) rfl rfl k
theorem dX11_find_44 : decode cX11_find 44 = .ok (.invokevirtual 264, 3) := by decide +kernel
theorem sX11_find_44_g {b : Nat} {fs : List Value} {a0 : Int32} {Qc : Outcome → xH → Prop} (hst : (st.map fun v => v.category).sum ≤ 8) (hP : P.1 b = some (xO 9 fs)) (hC : xC w d mX11_isOrder [.ref b, .int a0] P Qc) (kr : ∀ v P1, Qc (.returned v) P1 → X w mX11_find (d + 1) Q 47 ls (v.toList ++ st) P1) (kt : ∀ q P1, Qc (.threw q) P1 → Xt w mX11_find (d + 1) Q 44 ls st P1 q) : X w mX11_find (d + 1) Q 44 ls (.int a0 :: .ref b :: st) P := X_callV (M := mX11_find) (MC := mX11_isOrder) (As := [.int a0]) (T := TX11) (dX11_find_44) calX11_isOrder xw_549 xw_550 xw_551 rfl rfl hP hC hst kr kt
theorem sX11_find_44 {b : Nat} {fs : List Value} {a0 : Int32} {r : Int32} {P1 : xH} (hst : (st.map fun v => v.category).sum ≤ 8) (hP : P.1 b = some (xO 9 fs)) (hC : xC w d mX11_isOrder [.ref b, .int a0] P (xRet (some (.int r)) P1)) (k : X w mX11_find (d + 1) Q 47 ls (.int r :: st) P1) : X w mX11_find (d + 1) Q 44 ls (.int a0 :: .ref b :: st) P := X_callV (M := mX11_find) (MC := mX11_isOrder) (As := [.int a0]) (T := TX11) (dX11_find_44) calX11_isOrder xw_549 xw_550 xw_551 rfl rfl hP hC hst (fun v P2 h => by obtain ⟨h1, rfl⟩ := h; cases h1; exact k) (fun q P2 h => by cases h.1)
theorem sX11_find_44_r {b : Nat} {fs : List Value} {a0 : Int32} {r : Int32} {Rp : xH → Prop} (hst : (st.map fun v => v.category).sum ≤ 8) (hP : P.1 b = some (xO 9 fs)) (hC : xC w d mX11_isOrder [.ref b, .int a0] P (xRl (some (.int r)) Rp)) (k : ∀ P1, Rp P1 → X w mX11_find (d + 1) Q 47 ls (.int r :: st) P1) : X w mX11_find (d + 1) Q 44 ls (.int a0 :: .ref b :: st) P := X_callV (M := mX11_find) (MC := mX11_isOrder) (As := [.int a0]) (T := TX11) (dX11_find_44) calX11_isOrder xw_549 xw_550 xw_551 rfl rfl hP hC hst (fun v P2 h => by obtain ⟨h1, hR⟩ := h; cases h1; exact k P2 hR) (fun q P2 h => by cases h.1)
theorem sX11_find_44_t {b : Nat} {fs : List Value} {a0 : Int32} {q : Nat} {P1 : xH} (hst : (st.map fun v => v.category).sum ≤ 8) (hP : P.1 b = some (xO 9 fs)) (hC : xC w d mX11_isOrder [.ref b, .int a0] P (xThr q P1)) (hq : Q (.threw q) P1) : X w mX11_find (d + 1) Q 44 ls (.int a0 :: .ref b :: st) P := X_callV (M := mX11_find) (MC := mX11_isOrder) (As := [.int a0]) (T := TX11) (dX11_find_44) calX11_isOrder xw_549 xw_550 xw_551 rfl rfl hP hC hst (fun v P2 h => by cases h.1) (fun q2 P2 h => by obtain ⟨h1, rfl⟩ := h; cases h1; exact Xt_out rfl hq)
theorem dX11_find_47 : decode cX11_find 47 = .ok (.ifCond .eq 14, 3) := by decide +kernel
theorem sX11_find_47 {x : Int32} (kt : x = 0 → X w mX11_find d Q 61 ls st P) (kf : ¬ x = 0 → X w mX11_find d Q 50 ls st P) : X w mX11_find d Q 47 ls (.int x :: st) P := X_if_eq (M := mX11_find) (dX11_find_47) (by decide) kt kf
theorem dX11_find_50 : decode cX11_find 50 = .ok (.aload_n 0, 1) := by decide +kernel
theorem sX11_find_50 {l1 l2 l3 l4 : Option Value} {x : Nat} (k : X w mX11_find d Q 51 [some (.ref x), l1, l2, l3, l4] (.ref x :: st) P) : X w mX11_find d Q 50 [some (.ref x), l1, l2, l3, l4] st P := X_aload_n (M := mX11_find) (dX11_find_50) rfl rfl k
theorem dX11_find_51 : decode cX11_find 51 = .ok (.iload_n 1, 1) := by decide +kernel
theorem sX11_find_51 {l0 l2 l3 l4 : Option Value} {x : Int32} (k : X w mX11_find d Q 52 [l0, some (.int x), l2, l3, l4] (.int x :: st) P) : X w mX11_find d Q 51 [l0, some (.int x), l2, l3, l4] st P := X_iload_n (M := mX11_find) (dX11_find_51) rfl rfl k
theorem dX11_find_52 : decode cX11_find 52 = .ok (.iload_n 2, 1) := by decide +kernel
theorem sX11_find_52 {l0 l1 l3 l4 : Option Value} {x : Int32} (k : X w mX11_find d Q 53 [l0, l1, some (.int x), l3, l4] (.int x :: st) P) : X w mX11_find d Q 52 [l0, l1, some (.int x), l3, l4] st P := X_iload_n (M := mX11_find) (dX11_find_52) rfl rfl k
theorem dX11_find_53 : decode cX11_find 53 = .ok (.invokevirtual 267, 3) := by decide +kernel
theorem sX11_find_53_g {b : Nat} {fs : List Value} {a0 : Int32} {a1 : Int32} {Qc : Outcome → xH → Prop} (hst : (st.map fun v => v.category).sum ≤ 8) (hP : P.1 b = some (xO 9 fs)) (hC : xC w d mX11_fits [.ref b, .int a0, .int a1] P Qc) (kr : ∀ v P1, Qc (.returned v) P1 → X w mX11_find (d + 1) Q 56 ls (v.toList ++ st) P1) (kt : ∀ q P1, Qc (.threw q) P1 → Xt w mX11_find (d + 1) Q 53 ls st P1 q) : X w mX11_find (d + 1) Q 53 ls (.int a1 :: .int a0 :: .ref b :: st) P := X_callV (M := mX11_find) (MC := mX11_fits) (As := [.int a0, .int a1]) (T := TX11) (dX11_find_53) calX11_fits xw_552 xw_553 xw_554 rfl rfl hP hC hst kr kt
theorem sX11_find_53 {b : Nat} {fs : List Value} {a0 : Int32} {a1 : Int32} {r : Int32} {P1 : xH} (hst : (st.map fun v => v.category).sum ≤ 8) (hP : P.1 b = some (xO 9 fs)) (hC : xC w d mX11_fits [.ref b, .int a0, .int a1] P (xRet (some (.int r)) P1)) (k : X w mX11_find (d + 1) Q 56 ls (.int r :: st) P1) : X w mX11_find (d + 1) Q 53 ls (.int a1 :: .int a0 :: .ref b :: st) P := X_callV (M := mX11_find) (MC := mX11_fits) (As := [.int a0, .int a1]) (T := TX11) (dX11_find_53) calX11_fits xw_552 xw_553 xw_554 rfl rfl hP hC hst (fun v P2 h => by obtain ⟨h1, rfl⟩ := h; cases h1; exact k) (fun q P2 h => by cases h.1)
theorem sX11_find_53_r {b : Nat} {fs : List Value} {a0 : Int32} {a1 : Int32} {r : Int32} {Rp : xH → Prop} (hst : (st.map fun v => v.category).sum ≤ 8) (hP : P.1 b = some (xO 9 fs)) (hC : xC w d mX11_fits [.ref b, .int a0, .int a1] P (xRl (some (.int r)) Rp)) (k : ∀ P1, Rp P1 → X w mX11_find (d + 1) Q 56 ls (.int r :: st) P1) : X w mX11_find (d + 1) Q 53 ls (.int a1 :: .int a0 :: .ref b :: st) P := X_callV (M := mX11_find) (MC := mX11_fits) (As := [.int a0, .int a1]) (T := TX11) (dX11_find_53) calX11_fits xw_552 xw_553 xw_554 rfl rfl hP hC hst (fun v P2 h => by obtain ⟨h1, hR⟩ := h; cases h1; exact k P2 hR) (fun q P2 h => by cases h.1)
theorem sX11_find_53_t {b : Nat} {fs : List Value} {a0 : Int32} {a1 : Int32} {q : Nat} {P1 : xH} (hst : (st.map fun v => v.category).sum ≤ 8) (hP : P.1 b = some (xO 9 fs)) (hC : xC w d mX11_fits [.ref b, .int a0, .int a1] P (xThr q P1)) (hq : Q (.threw q) P1) : X w mX11_find (d + 1) Q 53 ls (.int a1 :: .int a0 :: .ref b :: st) P := X_callV (M := mX11_find) (MC := mX11_fits) (As := [.int a0, .int a1]) (T := TX11) (dX11_find_53) calX11_fits xw_552 xw_553 xw_554 rfl rfl hP hC hst (fun v P2 h => by cases h.1) (fun q2 P2 h => by obtain ⟨h1, rfl⟩ := h; cases h1; exact Xt_out rfl hq)
theorem dX11_find_56 : decode cX11_find 56 = .ok (.ifCond .eq 5, 3) := by decide +kernel
theorem sX11_find_56 {x : Int32} (kt : x = 0 → X w mX11_find d Q 61 ls st P) (kf : ¬ x = 0 → X w mX11_find d Q 59 ls st P) : X w mX11_find d Q 56 ls (.int x :: st) P := X_if_eq (M := mX11_find) (dX11_find_56) (by decide) kt kf
theorem dX11_find_59 : decode cX11_find 59 = .ok (.iconst 1, 1) := by decide +kernel
theorem sX11_find_59 (k : X w mX11_find d Q 60 ls (.int (1 : Int32) :: st) P) : X w mX11_find d Q 59 ls st P := X_iconst (M := mX11_find) (dX11_find_59) (by decide) k
theorem dX11_find_60 : decode cX11_find 60 = .ok (.ireturn, 1) := by decide +kernel
theorem sX11_find_60 {v : Int32} (hb : v = 0 ∨ v = 1) (hq : Q (.returned (some (.int v))) P) : X w mX11_find d Q 60 ls [.int v] P := X_zret (M := mX11_find) (ty := .boolean) (dX11_find_60) rfl (xz_n hb) hq
theorem dX11_find_61 : decode cX11_find 61 = .ok (.iload_n 3, 1) := by decide +kernel
theorem sX11_find_61 {l0 l1 l2 l4 : Option Value} {x : Int32} (k : X w mX11_find d Q 62 [l0, l1, l2, some (.int x), l4] (.int x :: st) P) : X w mX11_find d Q 61 [l0, l1, l2, some (.int x), l4] st P := X_iload_n (M := mX11_find) (dX11_find_61) rfl rfl k
theorem dX11_find_62 : decode cX11_find 62 = .ok (.iconst 1, 1) := by decide +kernel
theorem sX11_find_62 (k : X w mX11_find d Q 63 ls (.int (1 : Int32) :: st) P) : X w mX11_find d Q 62 ls st P := X_iconst (M := mX11_find) (dX11_find_62) (by decide) k
theorem dX11_find_63 : decode cX11_find 63 = .ok (.isub, 1) := by decide +kernel
theorem sX11_find_63 {x y : Int32} (k : X w mX11_find d Q 64 ls (.int (x - y) :: st) P) : X w mX11_find d Q 63 ls (.int y :: .int x :: st) P := X_isub (M := mX11_find) (dX11_find_63) k
theorem dX11_find_64 : decode cX11_find 64 = .ok (.istore 4, 2) := by decide +kernel
theorem sX11_find_64 {l0 l1 l2 l3 l4 : Option Value} {x : Int32} (hn : xnl l3 = true) (k : X w mX11_find d Q 66 [l0, l1, l2, l3, some (.int x)] st P) : X w mX11_find d Q 64 [l0, l1, l2, l3, l4] (.int x :: st) P := X_istore (M := mX11_find) (dX11_find_64) (by decide) rfl (xnl_p (ls := [l0, l1, l2, l3, l4]) (j := 3) rfl hn) k
theorem dX11_find_66 : decode cX11_find 66 = .ok (.iload 4, 2) := by decide +kernel
theorem sX11_find_66 {l0 l1 l2 l3 : Option Value} {x : Int32} (k : X w mX11_find d Q 68 [l0, l1, l2, l3, some (.int x)] (.int x :: st) P) : X w mX11_find d Q 66 [l0, l1, l2, l3, some (.int x)] st P := X_iload (M := mX11_find) (dX11_find_66) rfl k
theorem dX11_find_68 : decode cX11_find 68 = .ok (.ifCond .lt 30, 3) := by decide +kernel
theorem sX11_find_68 {x : Int32} (kt : x < 0 → X w mX11_find d Q 98 ls st P) (kf : ¬ x < 0 → X w mX11_find d Q 71 ls st P) : X w mX11_find d Q 68 ls (.int x :: st) P := X_if_lt (M := mX11_find) (dX11_find_68) (by decide) kt kf
theorem dX11_find_71 : decode cX11_find 71 = .ok (.aload_n 0, 1) := by decide +kernel
theorem sX11_find_71 {l1 l2 l3 l4 : Option Value} {x : Nat} (k : X w mX11_find d Q 72 [some (.ref x), l1, l2, l3, l4] (.ref x :: st) P) : X w mX11_find d Q 71 [some (.ref x), l1, l2, l3, l4] st P := X_aload_n (M := mX11_find) (dX11_find_71) rfl rfl k
theorem dX11_find_72 : decode cX11_find 72 = .ok (.getfield 78, 3) := by decide +kernel
theorem sX11_find_72 {a : Nat} {fs : List Value} {v : Nat} (hP : P.1 a = some (xO 9 fs)) (hv : fs[35]? = some (.ref v)) (k : X w mX11_find d Q 75 ls (.ref v :: st) P) : X w mX11_find d Q 72 ls (.ref a :: st) P := X_get (M := mX11_find) (j := 35) (T := TX11) (dX11_find_72) rfl (by decide) x_in11 xw_426 hP hv k
theorem dX11_find_75 : decode cX11_find 75 = .ok (.iload 4, 2) := by decide +kernel
theorem sX11_find_75 {l0 l1 l2 l3 : Option Value} {x : Int32} (k : X w mX11_find d Q 77 [l0, l1, l2, l3, some (.int x)] (.int x :: st) P) : X w mX11_find d Q 75 [l0, l1, l2, l3, some (.int x)] st P := X_iload (M := mX11_find) (dX11_find_75) rfl k
theorem dX11_find_77 : decode cX11_find 77 = .ok (.iaload, 1) := by decide +kernel
theorem sX11_find_77 {a n : Nat} {f : Nat → Int32} {i : Int32} (hP : P.1 a = some (xA 0 n f)) (hi : vp_in i n) (k : X w mX11_find d Q 78 ls (.int (f i.toNatClampNeg) :: st) P) : X w mX11_find d Q 77 ls (.int i :: .ref a :: st) P := X_iald (M := mX11_find) (dX11_find_77) hP hi k
theorem dX11_find_78 : decode cX11_find 78 = .ok (.iload_n 3, 1) := by decide +kernel
theorem sX11_find_78 {l0 l1 l2 l4 : Option Value} {x : Int32} (k : X w mX11_find d Q 79 [l0, l1, l2, some (.int x), l4] (.int x :: st) P) : X w mX11_find d Q 78 [l0, l1, l2, some (.int x), l4] st P := X_iload_n (M := mX11_find) (dX11_find_78) rfl rfl k
theorem dX11_find_79 : decode cX11_find 79 = .ok (.iconst 1, 1) := by decide +kernel
theorem sX11_find_79 (k : X w mX11_find d Q 80 ls (.int (1 : Int32) :: st) P) : X w mX11_find d Q 79 ls st P := X_iconst (M := mX11_find) (dX11_find_79) (by decide) k
theorem dX11_find_80 : decode cX11_find 80 = .ok (.isub, 1) := by decide +kernel
theorem sX11_find_80 {x y : Int32} (k : X w mX11_find d Q 81 ls (.int (x - y) :: st) P) : X w mX11_find d Q 80 ls (.int y :: .int x :: st) P := X_isub (M := mX11_find) (dX11_find_80) k
theorem dX11_find_81 : decode cX11_find 81 = .ok (.if_icmp .ne 17, 3) := by decide +kernel
theorem sX11_find_81 {x y : Int32} (kt : ¬ x = y → X w mX11_find d Q 98 ls st P) (kf : x = y → X w mX11_find d Q 84 ls st P) : X w mX11_find d Q 81 ls (.int y :: .int x :: st) P := X_icmp_ne (M := mX11_find) (dX11_find_81) (by decide) kt kf
theorem dX11_find_84 : decode cX11_find 84 = .ok (.aload_n 0, 1) := by decide +kernel
theorem sX11_find_84 {l1 l2 l3 l4 : Option Value} {x : Nat} (k : X w mX11_find d Q 85 [some (.ref x), l1, l2, l3, l4] (.ref x :: st) P) : X w mX11_find d Q 84 [some (.ref x), l1, l2, l3, l4] st P := X_aload_n (M := mX11_find) (dX11_find_84) rfl rfl k
theorem dX11_find_85 : decode cX11_find 85 = .ok (.getfield 78, 3) := by decide +kernel
theorem sX11_find_85 {a : Nat} {fs : List Value} {v : Nat} (hP : P.1 a = some (xO 9 fs)) (hv : fs[35]? = some (.ref v)) (k : X w mX11_find d Q 88 ls (.ref v :: st) P) : X w mX11_find d Q 85 ls (.ref a :: st) P := X_get (M := mX11_find) (j := 35) (T := TX11) (dX11_find_85) rfl (by decide) x_in11 xw_426 hP hv k
theorem dX11_find_88 : decode cX11_find 88 = .ok (.iload 4, 2) := by decide +kernel
theorem sX11_find_88 {l0 l1 l2 l3 : Option Value} {x : Int32} (k : X w mX11_find d Q 90 [l0, l1, l2, l3, some (.int x)] (.int x :: st) P) : X w mX11_find d Q 88 [l0, l1, l2, l3, some (.int x)] st P := X_iload (M := mX11_find) (dX11_find_88) rfl k
theorem dX11_find_90 : decode cX11_find 90 = .ok (.iconst 0, 1) := by decide +kernel
theorem sX11_find_90 (k : X w mX11_find d Q 91 ls (.int (0 : Int32) :: st) P) : X w mX11_find d Q 90 ls st P := X_iconst (M := mX11_find) (dX11_find_90) (by decide) k
theorem dX11_find_91 : decode cX11_find 91 = .ok (.iastore, 1) := by decide +kernel
theorem sX11_find_91 {a n : Nat} {f : Nat → Int32} {i x : Int32} (hP : P.1 a = some (xA 0 n f)) (hi : vp_in i n) (k : X w mX11_find d Q 92 ls st (xs P a (xA 0 n (upd f i.toNatClampNeg x)))) : X w mX11_find d Q 91 ls (.int x :: .int i :: .ref a :: st) P := X_iast (M := mX11_find) (dX11_find_91) hP hi k
theorem dX11_find_92 : decode cX11_find 92 = .ok (.iinc 4 (-1), 3) := by decide +kernel
theorem sX11_find_92 {l0 l1 l2 l3 : Option Value} {x : Int32} (hn : xnl l3 = true) (k : X w mX11_find d Q 95 [l0, l1, l2, l3, some (.int (x + (-1 : Int32)))] st P) : X w mX11_find d Q 92 [l0, l1, l2, l3, some (.int x)] st P := X_iinc (M := mX11_find) (dX11_find_92) rfl (by rfl) (by decide) rfl (xnl_p (ls := [l0, l1, l2, l3, some (.int x)]) (j := 3) rfl hn) k
theorem dX11_find_95 : decode cX11_find 95 = .ok (.goto (-29), 3) := by decide +kernel
theorem sX11_find_95 (k : X w mX11_find d Q 66 ls st P) : X w mX11_find d Q 95 ls st P := X_goto (M := mX11_find) (dX11_find_95) (by decide) k
theorem dX11_find_98 : decode cX11_find 98 = .ok (.iload 4, 2) := by decide +kernel
theorem sX11_find_98 {l0 l1 l2 l3 : Option Value} {x : Int32} (k : X w mX11_find d Q 100 [l0, l1, l2, l3, some (.int x)] (.int x :: st) P) : X w mX11_find d Q 98 [l0, l1, l2, l3, some (.int x)] st P := X_iload (M := mX11_find) (dX11_find_98) rfl k
theorem dX11_find_100 : decode cX11_find 100 = .ok (.ifCond .ge 5, 3) := by decide +kernel
theorem sX11_find_100 {x : Int32} (kt : 0 ≤ x → X w mX11_find d Q 105 ls st P) (kf : ¬ 0 ≤ x → X w mX11_find d Q 103 ls st P) : X w mX11_find d Q 100 ls (.int x :: st) P := X_if_ge (M := mX11_find) (dX11_find_100) (by decide) kt kf
theorem dX11_find_103 : decode cX11_find 103 = .ok (.iconst 0, 1) := by decide +kernel
theorem sX11_find_103 (k : X w mX11_find d Q 104 ls (.int (0 : Int32) :: st) P) : X w mX11_find d Q 103 ls st P := X_iconst (M := mX11_find) (dX11_find_103) (by decide) k
theorem dX11_find_104 : decode cX11_find 104 = .ok (.ireturn, 1) := by decide +kernel
theorem sX11_find_104 {v : Int32} (hb : v = 0 ∨ v = 1) (hq : Q (.returned (some (.int v))) P) : X w mX11_find d Q 104 ls [.int v] P := X_zret (M := mX11_find) (ty := .boolean) (dX11_find_104) rfl (xz_n hb) hq
theorem dX11_find_105 : decode cX11_find 105 = .ok (.aload_n 0, 1) := by decide +kernel
theorem sX11_find_105 {l1 l2 l3 l4 : Option Value} {x : Nat} (k : X w mX11_find d Q 106 [some (.ref x), l1, l2, l3, l4] (.ref x :: st) P) : X w mX11_find d Q 105 [some (.ref x), l1, l2, l3, l4] st P := X_aload_n (M := mX11_find) (dX11_find_105) rfl rfl k
theorem dX11_find_106 : decode cX11_find 106 = .ok (.getfield 78, 3) := by decide +kernel
theorem sX11_find_106 {a : Nat} {fs : List Value} {v : Nat} (hP : P.1 a = some (xO 9 fs)) (hv : fs[35]? = some (.ref v)) (k : X w mX11_find d Q 109 ls (.ref v :: st) P) : X w mX11_find d Q 106 ls (.ref a :: st) P := X_get (M := mX11_find) (j := 35) (T := TX11) (dX11_find_106) rfl (by decide) x_in11 xw_426 hP hv k
theorem dX11_find_109 : decode cX11_find 109 = .ok (.iload 4, 2) := by decide +kernel
theorem sX11_find_109 {l0 l1 l2 l3 : Option Value} {x : Int32} (k : X w mX11_find d Q 111 [l0, l1, l2, l3, some (.int x)] (.int x :: st) P) : X w mX11_find d Q 109 [l0, l1, l2, l3, some (.int x)] st P := X_iload (M := mX11_find) (dX11_find_109) rfl k
theorem dX11_find_111 : decode cX11_find 111 = .ok (.dup2, 1) := by decide +kernel
theorem sX11_find_111 {i : Int32} {a : Nat} (k : X w mX11_find d Q 112 ls (.int i :: .ref a :: .int i :: .ref a :: st) P) : X w mX11_find d Q 111 ls (.int i :: .ref a :: st) P := X_dup2 (M := mX11_find) (dX11_find_111) rfl rfl k
theorem dX11_find_112 : decode cX11_find 112 = .ok (.iaload, 1) := by decide +kernel
theorem sX11_find_112 {a n : Nat} {f : Nat → Int32} {i : Int32} (hP : P.1 a = some (xA 0 n f)) (hi : vp_in i n) (k : X w mX11_find d Q 113 ls (.int (f i.toNatClampNeg) :: st) P) : X w mX11_find d Q 112 ls (.int i :: .ref a :: st) P := X_iald (M := mX11_find) (dX11_find_112) hP hi k
theorem dX11_find_113 : decode cX11_find 113 = .ok (.iconst 1, 1) := by decide +kernel
theorem sX11_find_113 (k : X w mX11_find d Q 114 ls (.int (1 : Int32) :: st) P) : X w mX11_find d Q 113 ls st P := X_iconst (M := mX11_find) (dX11_find_113) (by decide) k
theorem dX11_find_114 : decode cX11_find 114 = .ok (.iadd, 1) := by decide +kernel
theorem sX11_find_114 {x y : Int32} (k : X w mX11_find d Q 115 ls (.int (x + y) :: st) P) : X w mX11_find d Q 114 ls (.int y :: .int x :: st) P := X_iadd (M := mX11_find) (dX11_find_114) k
theorem dX11_find_115 : decode cX11_find 115 = .ok (.iastore, 1) := by decide +kernel
theorem sX11_find_115 {a n : Nat} {f : Nat → Int32} {i x : Int32} (hP : P.1 a = some (xA 0 n f)) (hi : vp_in i n) (k : X w mX11_find d Q 116 ls st (xs P a (xA 0 n (upd f i.toNatClampNeg x)))) : X w mX11_find d Q 115 ls (.int x :: .int i :: .ref a :: st) P := X_iast (M := mX11_find) (dX11_find_115) hP hi k
theorem dX11_find_116 : decode cX11_find 116 = .ok (.goto (-74), 3) := by decide +kernel
theorem sX11_find_116 (k : X w mX11_find d Q 42 ls st P) : X w mX11_find d Q 116 ls st P := X_goto (M := mX11_find) (dX11_find_116) (by decide) k
theorem dX11_alike_0 : decode cX11_alike 0 = .ok (.aload_n 0, 1) := by decide +kernel
theorem sX11_alike_0 {l1 l2 : Option Value} {x : Nat} (k : X w mX11_alike d Q 1 [some (.ref x), l1, l2] (.ref x :: st) P) : X w mX11_alike d Q 0 [some (.ref x), l1, l2] st P := X_aload_n (M := mX11_alike) (dX11_alike_0) rfl rfl k
theorem dX11_alike_1 : decode cX11_alike 1 = .ok (.aload_n 0, 1) := by decide +kernel
theorem sX11_alike_1 {l1 l2 : Option Value} {x : Nat} (k : X w mX11_alike d Q 2 [some (.ref x), l1, l2] (.ref x :: st) P) : X w mX11_alike d Q 1 [some (.ref x), l1, l2] st P := X_aload_n (M := mX11_alike) (dX11_alike_1) rfl rfl k
theorem dX11_alike_2 : decode cX11_alike 2 = .ok (.iload_n 1, 1) := by decide +kernel
theorem sX11_alike_2 {l0 l2 : Option Value} {x : Int32} (k : X w mX11_alike d Q 3 [l0, some (.int x), l2] (.int x :: st) P) : X w mX11_alike d Q 2 [l0, some (.int x), l2] st P := X_iload_n (M := mX11_alike) (dX11_alike_2) rfl rfl k
theorem dX11_alike_3 : decode cX11_alike 3 = .ok (.invokevirtual 238, 3) := by decide +kernel
theorem sX11_alike_3_g {b : Nat} {fs : List Value} {a0 : Int32} {Qc : Outcome → xH → Prop} (hst : (st.map fun v => v.category).sum ≤ 8) (hP : P.1 b = some (xO 9 fs)) (hC : xC w d mX11_isCell [.ref b, .int a0] P Qc) (kr : ∀ v P1, Qc (.returned v) P1 → X w mX11_alike (d + 1) Q 6 ls (v.toList ++ st) P1) (kt : ∀ q P1, Qc (.threw q) P1 → Xt w mX11_alike (d + 1) Q 3 ls st P1 q) : X w mX11_alike (d + 1) Q 3 ls (.int a0 :: .ref b :: st) P := X_callV (M := mX11_alike) (MC := mX11_isCell) (As := [.int a0]) (T := TX11) (dX11_alike_3) calX11_isCell xw_530 xw_531 xw_532 rfl rfl hP hC hst kr kt
theorem sX11_alike_3 {b : Nat} {fs : List Value} {a0 : Int32} {r : Int32} {P1 : xH} (hst : (st.map fun v => v.category).sum ≤ 8) (hP : P.1 b = some (xO 9 fs)) (hC : xC w d mX11_isCell [.ref b, .int a0] P (xRet (some (.int r)) P1)) (k : X w mX11_alike (d + 1) Q 6 ls (.int r :: st) P1) : X w mX11_alike (d + 1) Q 3 ls (.int a0 :: .ref b :: st) P := X_callV (M := mX11_alike) (MC := mX11_isCell) (As := [.int a0]) (T := TX11) (dX11_alike_3) calX11_isCell xw_530 xw_531 xw_532 rfl rfl hP hC hst (fun v P2 h => by obtain ⟨h1, rfl⟩ := h; cases h1; exact k) (fun q P2 h => by cases h.1)
theorem sX11_alike_3_r {b : Nat} {fs : List Value} {a0 : Int32} {r : Int32} {Rp : xH → Prop} (hst : (st.map fun v => v.category).sum ≤ 8) (hP : P.1 b = some (xO 9 fs)) (hC : xC w d mX11_isCell [.ref b, .int a0] P (xRl (some (.int r)) Rp)) (k : ∀ P1, Rp P1 → X w mX11_alike (d + 1) Q 6 ls (.int r :: st) P1) : X w mX11_alike (d + 1) Q 3 ls (.int a0 :: .ref b :: st) P := X_callV (M := mX11_alike) (MC := mX11_isCell) (As := [.int a0]) (T := TX11) (dX11_alike_3) calX11_isCell xw_530 xw_531 xw_532 rfl rfl hP hC hst (fun v P2 h => by obtain ⟨h1, hR⟩ := h; cases h1; exact k P2 hR) (fun q P2 h => by cases h.1)
theorem sX11_alike_3_t {b : Nat} {fs : List Value} {a0 : Int32} {q : Nat} {P1 : xH} (hst : (st.map fun v => v.category).sum ≤ 8) (hP : P.1 b = some (xO 9 fs)) (hC : xC w d mX11_isCell [.ref b, .int a0] P (xThr q P1)) (hq : Q (.threw q) P1) : X w mX11_alike (d + 1) Q 3 ls (.int a0 :: .ref b :: st) P := X_callV (M := mX11_alike) (MC := mX11_isCell) (As := [.int a0]) (T := TX11) (dX11_alike_3) calX11_isCell xw_530 xw_531 xw_532 rfl rfl hP hC hst (fun v P2 h => by cases h.1) (fun q2 P2 h => by obtain ⟨h1, rfl⟩ := h; cases h1; exact Xt_out rfl hq)
theorem dX11_alike_6 : decode cX11_alike 6 = .ok (.ifCond .eq 15, 3) := by decide +kernel
theorem sX11_alike_6 {x : Int32} (kt : x = 0 → X w mX11_alike d Q 21 ls st P) (kf : ¬ x = 0 → X w mX11_alike d Q 9 ls st P) : X w mX11_alike d Q 6 ls (.int x :: st) P := X_if_eq (M := mX11_alike) (dX11_alike_6) (by decide) kt kf
theorem dX11_alike_9 : decode cX11_alike 9 = .ok (.aload_n 0, 1) := by decide +kernel
theorem sX11_alike_9 {l1 l2 : Option Value} {x : Nat} (k : X w mX11_alike d Q 10 [some (.ref x), l1, l2] (.ref x :: st) P) : X w mX11_alike d Q 9 [some (.ref x), l1, l2] st P := X_aload_n (M := mX11_alike) (dX11_alike_9) rfl rfl k
theorem dX11_alike_10 : decode cX11_alike 10 = .ok (.iload_n 2, 1) := by decide +kernel
theorem sX11_alike_10 {l0 l1 : Option Value} {x : Int32} (k : X w mX11_alike d Q 11 [l0, l1, some (.int x)] (.int x :: st) P) : X w mX11_alike d Q 10 [l0, l1, some (.int x)] st P := X_iload_n (M := mX11_alike) (dX11_alike_10) rfl rfl k
theorem dX11_alike_11 : decode cX11_alike 11 = .ok (.invokevirtual 238, 3) := by decide +kernel
theorem sX11_alike_11_g {b : Nat} {fs : List Value} {a0 : Int32} {Qc : Outcome → xH → Prop} (hst : (st.map fun v => v.category).sum ≤ 8) (hP : P.1 b = some (xO 9 fs)) (hC : xC w d mX11_isCell [.ref b, .int a0] P Qc) (kr : ∀ v P1, Qc (.returned v) P1 → X w mX11_alike (d + 1) Q 14 ls (v.toList ++ st) P1) (kt : ∀ q P1, Qc (.threw q) P1 → Xt w mX11_alike (d + 1) Q 11 ls st P1 q) : X w mX11_alike (d + 1) Q 11 ls (.int a0 :: .ref b :: st) P := X_callV (M := mX11_alike) (MC := mX11_isCell) (As := [.int a0]) (T := TX11) (dX11_alike_11) calX11_isCell xw_530 xw_531 xw_532 rfl rfl hP hC hst kr kt
theorem sX11_alike_11 {b : Nat} {fs : List Value} {a0 : Int32} {r : Int32} {P1 : xH} (hst : (st.map fun v => v.category).sum ≤ 8) (hP : P.1 b = some (xO 9 fs)) (hC : xC w d mX11_isCell [.ref b, .int a0] P (xRet (some (.int r)) P1)) (k : X w mX11_alike (d + 1) Q 14 ls (.int r :: st) P1) : X w mX11_alike (d + 1) Q 11 ls (.int a0 :: .ref b :: st) P := X_callV (M := mX11_alike) (MC := mX11_isCell) (As := [.int a0]) (T := TX11) (dX11_alike_11) calX11_isCell xw_530 xw_531 xw_532 rfl rfl hP hC hst (fun v P2 h => by obtain ⟨h1, rfl⟩ := h; cases h1; exact k) (fun q P2 h => by cases h.1)
theorem sX11_alike_11_r {b : Nat} {fs : List Value} {a0 : Int32} {r : Int32} {Rp : xH → Prop} (hst : (st.map fun v => v.category).sum ≤ 8) (hP : P.1 b = some (xO 9 fs)) (hC : xC w d mX11_isCell [.ref b, .int a0] P (xRl (some (.int r)) Rp)) (k : ∀ P1, Rp P1 → X w mX11_alike (d + 1) Q 14 ls (.int r :: st) P1) : X w mX11_alike (d + 1) Q 11 ls (.int a0 :: .ref b :: st) P := X_callV (M := mX11_alike) (MC := mX11_isCell) (As := [.int a0]) (T := TX11) (dX11_alike_11) calX11_isCell xw_530 xw_531 xw_532 rfl rfl hP hC hst (fun v P2 h => by obtain ⟨h1, hR⟩ := h; cases h1; exact k P2 hR) (fun q P2 h => by cases h.1)
theorem sX11_alike_11_t {b : Nat} {fs : List Value} {a0 : Int32} {q : Nat} {P1 : xH} (hst : (st.map fun v => v.category).sum ≤ 8) (hP : P.1 b = some (xO 9 fs)) (hC : xC w d mX11_isCell [.ref b, .int a0] P (xThr q P1)) (hq : Q (.threw q) P1) : X w mX11_alike (d + 1) Q 11 ls (.int a0 :: .ref b :: st) P := X_callV (M := mX11_alike) (MC := mX11_isCell) (As := [.int a0]) (T := TX11) (dX11_alike_11) calX11_isCell xw_530 xw_531 xw_532 rfl rfl hP hC hst (fun v P2 h => by cases h.1) (fun q2 P2 h => by obtain ⟨h1, rfl⟩ := h; cases h1; exact Xt_out rfl hq)
theorem dX11_alike_14 : decode cX11_alike 14 = .ok (.ifCond .eq 7, 3) := by decide +kernel
theorem sX11_alike_14 {x : Int32} (kt : x = 0 → X w mX11_alike d Q 21 ls st P) (kf : ¬ x = 0 → X w mX11_alike d Q 17 ls st P) : X w mX11_alike d Q 14 ls (.int x :: st) P := X_if_eq (M := mX11_alike) (dX11_alike_14) (by decide) kt kf
theorem dX11_alike_17 : decode cX11_alike 17 = .ok (.iconst 0, 1) := by decide +kernel
theorem sX11_alike_17 (k : X w mX11_alike d Q 18 ls (.int (0 : Int32) :: st) P) : X w mX11_alike d Q 17 ls st P := X_iconst (M := mX11_alike) (dX11_alike_17) (by decide) k
theorem dX11_alike_18 : decode cX11_alike 18 = .ok (.goto 4, 3) := by decide +kernel
theorem sX11_alike_18 (k : X w mX11_alike d Q 22 ls st P) : X w mX11_alike d Q 18 ls st P := X_goto (M := mX11_alike) (dX11_alike_18) (by decide) k
theorem dX11_alike_21 : decode cX11_alike 21 = .ok (.iconst 1, 1) := by decide +kernel
theorem sX11_alike_21 (k : X w mX11_alike d Q 22 ls (.int (1 : Int32) :: st) P) : X w mX11_alike d Q 21 ls st P := X_iconst (M := mX11_alike) (dX11_alike_21) (by decide) k
theorem dX11_alike_22 : decode cX11_alike 22 = .ok (.putfield 84, 3) := by decide +kernel
theorem sX11_alike_22 {a : Nat} {fs : List Value} {v : Int32} (hP : P.1 a = some (xO 9 fs)) (hl : 0 < fs.length) (k : X w mX11_alike d Q 25 ls st (xs P a (xO 9 (fs.set 0 (.int v))))) : X w mX11_alike d Q 22 ls (.int v :: .ref a :: st) P := X_put (M := mX11_alike) (j := 0) (T := TX11) (dX11_alike_22) rfl (by decide) x_c11 xw_428 rfl hP rfl rfl hl k
theorem dX11_alike_25 : decode cX11_alike 25 = .ok (.aload_n 0, 1) := by decide +kernel
theorem sX11_alike_25 {l1 l2 : Option Value} {x : Nat} (k : X w mX11_alike d Q 26 [some (.ref x), l1, l2] (.ref x :: st) P) : X w mX11_alike d Q 25 [some (.ref x), l1, l2] st P := X_aload_n (M := mX11_alike) (dX11_alike_25) rfl rfl k
theorem dX11_alike_26 : decode cX11_alike 26 = .ok (.getfield 84, 3) := by decide +kernel
theorem sX11_alike_26 {a : Nat} {fs : List Value} {v : Int32} (hP : P.1 a = some (xO 9 fs)) (hv : fs[0]? = some (.int v)) (k : X w mX11_alike d Q 29 ls (.int v :: st) P) : X w mX11_alike d Q 26 ls (.ref a :: st) P := X_get (M := mX11_alike) (j := 0) (T := TX11) (dX11_alike_26) rfl (by decide) x_in11 xw_428 hP hv k
theorem dX11_alike_29 : decode cX11_alike 29 = .ok (.ifCond .ne 32, 3) := by decide +kernel
theorem sX11_alike_29 {x : Int32} (kt : ¬ x = 0 → X w mX11_alike d Q 61 ls st P) (kf : x = 0 → X w mX11_alike d Q 32 ls st P) : X w mX11_alike d Q 29 ls (.int x :: st) P := X_if_ne (M := mX11_alike) (dX11_alike_29) (by decide) kt kf
theorem dX11_alike_32 : decode cX11_alike 32 = .ok (.aload_n 0, 1) := by decide +kernel
theorem sX11_alike_32 {l1 l2 : Option Value} {x : Nat} (k : X w mX11_alike d Q 33 [some (.ref x), l1, l2] (.ref x :: st) P) : X w mX11_alike d Q 32 [some (.ref x), l1, l2] st P := X_aload_n (M := mX11_alike) (dX11_alike_32) rfl rfl k
theorem dX11_alike_33 : decode cX11_alike 33 = .ok (.bipush 12, 2) := by decide +kernel
theorem sX11_alike_33 (k : X w mX11_alike d Q 35 ls (.int (12 : Int32) :: st) P) : X w mX11_alike d Q 33 ls st P := X_bipush (M := mX11_alike) (dX11_alike_33) (by decide) k
theorem dX11_alike_35 : decode cX11_alike 35 = .ok (.aload_n 0, 1) := by decide +kernel
theorem sX11_alike_35 {l1 l2 : Option Value} {x : Nat} (k : X w mX11_alike d Q 36 [some (.ref x), l1, l2] (.ref x :: st) P) : X w mX11_alike d Q 35 [some (.ref x), l1, l2] st P := X_aload_n (M := mX11_alike) (dX11_alike_35) rfl rfl k
theorem dX11_alike_36 : decode cX11_alike 36 = .ok (.getfield 226, 3) := by decide +kernel
theorem sX11_alike_36 {a : Nat} {fs : List Value} {v : Int32} (hP : P.1 a = some (xO 9 fs)) (hv : fs[3]? = some (.int v)) (k : X w mX11_alike d Q 39 ls (.int v :: st) P) : X w mX11_alike d Q 36 ls (.ref a :: st) P := X_get (M := mX11_alike) (j := 3) (T := TX11) (dX11_alike_36) rfl (by decide) x_in11 xw_521 hP hv k
theorem dX11_alike_39 : decode cX11_alike 39 = .ok (.imul, 1) := by decide +kernel
theorem sX11_alike_39 {x y : Int32} (k : X w mX11_alike d Q 40 ls (.int (x * y) :: st) P) : X w mX11_alike d Q 39 ls (.int y :: .int x :: st) P := X_imul (M := mX11_alike) (dX11_alike_39) k
theorem dX11_alike_40 : decode cX11_alike 40 = .ok (.iload_n 1, 1) := by decide +kernel
theorem sX11_alike_40 {l0 l2 : Option Value} {x : Int32} (k : X w mX11_alike d Q 41 [l0, some (.int x), l2] (.int x :: st) P) : X w mX11_alike d Q 40 [l0, some (.int x), l2] st P := X_iload_n (M := mX11_alike) (dX11_alike_40) rfl rfl k
theorem dX11_alike_41 : decode cX11_alike 41 = .ok (.iadd, 1) := by decide +kernel
theorem sX11_alike_41 {x y : Int32} (k : X w mX11_alike d Q 42 ls (.int (x + y) :: st) P) : X w mX11_alike d Q 41 ls (.int y :: .int x :: st) P := X_iadd (M := mX11_alike) (dX11_alike_41) k
theorem dX11_alike_42 : decode cX11_alike 42 = .ok (.bipush 12, 2) := by decide +kernel
theorem sX11_alike_42 (k : X w mX11_alike d Q 44 ls (.int (12 : Int32) :: st) P) : X w mX11_alike d Q 42 ls st P := X_bipush (M := mX11_alike) (dX11_alike_42) (by decide) k
theorem dX11_alike_44 : decode cX11_alike 44 = .ok (.aload_n 0, 1) := by decide +kernel
theorem sX11_alike_44 {l1 l2 : Option Value} {x : Nat} (k : X w mX11_alike d Q 45 [some (.ref x), l1, l2] (.ref x :: st) P) : X w mX11_alike d Q 44 [some (.ref x), l1, l2] st P := X_aload_n (M := mX11_alike) (dX11_alike_44) rfl rfl k
theorem dX11_alike_45 : decode cX11_alike 45 = .ok (.getfield 226, 3) := by decide +kernel
theorem sX11_alike_45 {a : Nat} {fs : List Value} {v : Int32} (hP : P.1 a = some (xO 9 fs)) (hv : fs[3]? = some (.int v)) (k : X w mX11_alike d Q 48 ls (.int v :: st) P) : X w mX11_alike d Q 45 ls (.ref a :: st) P := X_get (M := mX11_alike) (j := 3) (T := TX11) (dX11_alike_45) rfl (by decide) x_in11 xw_521 hP hv k
theorem dX11_alike_48 : decode cX11_alike 48 = .ok (.imul, 1) := by decide +kernel
theorem sX11_alike_48 {x y : Int32} (k : X w mX11_alike d Q 49 ls (.int (x * y) :: st) P) : X w mX11_alike d Q 48 ls (.int y :: .int x :: st) P := X_imul (M := mX11_alike) (dX11_alike_48) k
theorem dX11_alike_49 : decode cX11_alike 49 = .ok (.iload_n 2, 1) := by decide +kernel
theorem sX11_alike_49 {l0 l1 : Option Value} {x : Int32} (k : X w mX11_alike d Q 50 [l0, l1, some (.int x)] (.int x :: st) P) : X w mX11_alike d Q 49 [l0, l1, some (.int x)] st P := X_iload_n (M := mX11_alike) (dX11_alike_49) rfl rfl k
theorem dX11_alike_50 : decode cX11_alike 50 = .ok (.iadd, 1) := by decide +kernel
theorem sX11_alike_50 {x y : Int32} (k : X w mX11_alike d Q 51 ls (.int (x + y) :: st) P) : X w mX11_alike d Q 50 ls (.int y :: .int x :: st) P := X_iadd (M := mX11_alike) (dX11_alike_50) k
theorem dX11_alike_51 : decode cX11_alike 51 = .ok (.invokevirtual 270, 3) := by decide +kernel
theorem sX11_alike_51_g {b : Nat} {fs : List Value} {a0 : Int32} {a1 : Int32} {Qc : Outcome → xH → Prop} (hst : (st.map fun v => v.category).sum ≤ 8) (hP : P.1 b = some (xO 9 fs)) (hC : xC w d mX11_find [.ref b, .int a0, .int a1] P Qc) (kr : ∀ v P1, Qc (.returned v) P1 → X w mX11_alike (d + 1) Q 54 ls (v.toList ++ st) P1) (kt : ∀ q P1, Qc (.threw q) P1 → Xt w mX11_alike (d + 1) Q 51 ls st P1 q) : X w mX11_alike (d + 1) Q 51 ls (.int a1 :: .int a0 :: .ref b :: st) P := X_callV (M := mX11_alike) (MC := mX11_find) (As := [.int a0, .int a1]) (T := TX11) (dX11_alike_51) calX11_find xw_555 xw_556 xw_557 rfl rfl hP hC hst kr kt
theorem sX11_alike_51 {b : Nat} {fs : List Value} {a0 : Int32} {a1 : Int32} {r : Int32} {P1 : xH} (hst : (st.map fun v => v.category).sum ≤ 8) (hP : P.1 b = some (xO 9 fs)) (hC : xC w d mX11_find [.ref b, .int a0, .int a1] P (xRet (some (.int r)) P1)) (k : X w mX11_alike (d + 1) Q 54 ls (.int r :: st) P1) : X w mX11_alike (d + 1) Q 51 ls (.int a1 :: .int a0 :: .ref b :: st) P := X_callV (M := mX11_alike) (MC := mX11_find) (As := [.int a0, .int a1]) (T := TX11) (dX11_alike_51) calX11_find xw_555 xw_556 xw_557 rfl rfl hP hC hst (fun v P2 h => by obtain ⟨h1, rfl⟩ := h; cases h1; exact k) (fun q P2 h => by cases h.1)
theorem sX11_alike_51_r {b : Nat} {fs : List Value} {a0 : Int32} {a1 : Int32} {r : Int32} {Rp : xH → Prop} (hst : (st.map fun v => v.category).sum ≤ 8) (hP : P.1 b = some (xO 9 fs)) (hC : xC w d mX11_find [.ref b, .int a0, .int a1] P (xRl (some (.int r)) Rp)) (k : ∀ P1, Rp P1 → X w mX11_alike (d + 1) Q 54 ls (.int r :: st) P1) : X w mX11_alike (d + 1) Q 51 ls (.int a1 :: .int a0 :: .ref b :: st) P := X_callV (M := mX11_alike) (MC := mX11_find) (As := [.int a0, .int a1]) (T := TX11) (dX11_alike_51) calX11_find xw_555 xw_556 xw_557 rfl rfl hP hC hst (fun v P2 h => by obtain ⟨h1, hR⟩ := h; cases h1; exact k P2 hR) (fun q P2 h => by cases h.1)
theorem sX11_alike_51_t {b : Nat} {fs : List Value} {a0 : Int32} {a1 : Int32} {q : Nat} {P1 : xH} (hst : (st.map fun v => v.category).sum ≤ 8) (hP : P.1 b = some (xO 9 fs)) (hC : xC w d mX11_find [.ref b, .int a0, .int a1] P (xThr q P1)) (hq : Q (.threw q) P1) : X w mX11_alike (d + 1) Q 51 ls (.int a1 :: .int a0 :: .ref b :: st) P := X_callV (M := mX11_alike) (MC := mX11_find) (As := [.int a0, .int a1]) (T := TX11) (dX11_alike_51) calX11_find xw_555 xw_556 xw_557 rfl rfl hP hC hst (fun v P2 h => by cases h.1) (fun q2 P2 h => by obtain ⟨h1, rfl⟩ := h; cases h1; exact Xt_out rfl hq)
theorem dX11_alike_54 : decode cX11_alike 54 = .ok (.ifCond .eq 7, 3) := by decide +kernel
theorem sX11_alike_54 {x : Int32} (kt : x = 0 → X w mX11_alike d Q 61 ls st P) (kf : ¬ x = 0 → X w mX11_alike d Q 57 ls st P) : X w mX11_alike d Q 54 ls (.int x :: st) P := X_if_eq (M := mX11_alike) (dX11_alike_54) (by decide) kt kf
theorem dX11_alike_57 : decode cX11_alike 57 = .ok (.iconst 1, 1) := by decide +kernel
theorem sX11_alike_57 (k : X w mX11_alike d Q 58 ls (.int (1 : Int32) :: st) P) : X w mX11_alike d Q 57 ls st P := X_iconst (M := mX11_alike) (dX11_alike_57) (by decide) k
theorem dX11_alike_58 : decode cX11_alike 58 = .ok (.goto 4, 3) := by decide +kernel
theorem sX11_alike_58 (k : X w mX11_alike d Q 62 ls st P) : X w mX11_alike d Q 58 ls st P := X_goto (M := mX11_alike) (dX11_alike_58) (by decide) k
theorem dX11_alike_61 : decode cX11_alike 61 = .ok (.iconst 0, 1) := by decide +kernel
theorem sX11_alike_61 (k : X w mX11_alike d Q 62 ls (.int (0 : Int32) :: st) P) : X w mX11_alike d Q 61 ls st P := X_iconst (M := mX11_alike) (dX11_alike_61) (by decide) k
theorem dX11_alike_62 : decode cX11_alike 62 = .ok (.ireturn, 1) := by decide +kernel
theorem sX11_alike_62 {v : Int32} (hb : v = 0 ∨ v = 1) (hq : Q (.returned (some (.int v))) P) : X w mX11_alike d Q 62 ls [.int v] P := X_zret (M := mX11_alike) (ty := .boolean) (dX11_alike_62) rfl (xz_n hb) hq
theorem dX11_order_0 : decode cX11_order 0 = .ok (.aload_n 0, 1) := by decide +kernel
theorem sX11_order_0 {l1 l2 l3 : Option Value} {x : Nat} (k : X w mX11_order d Q 1 [some (.ref x), l1, l2, l3] (.ref x :: st) P) : X w mX11_order d Q 0 [some (.ref x), l1, l2, l3] st P := X_aload_n (M := mX11_order) (dX11_order_0) rfl rfl k
theorem dX11_order_1 : decode cX11_order 1 = .ok (.aload_n 0, 1) := by decide +kernel
theorem sX11_order_1 {l1 l2 l3 : Option Value} {x : Nat} (k : X w mX11_order d Q 2 [some (.ref x), l1, l2, l3] (.ref x :: st) P) : X w mX11_order d Q 1 [some (.ref x), l1, l2, l3] st P := X_aload_n (M := mX11_order) (dX11_order_1) rfl rfl k
theorem dX11_order_2 : decode cX11_order 2 = .ok (.iload_n 1, 1) := by decide +kernel
theorem sX11_order_2 {l0 l2 l3 : Option Value} {x : Int32} (k : X w mX11_order d Q 3 [l0, some (.int x), l2, l3] (.int x :: st) P) : X w mX11_order d Q 2 [l0, some (.int x), l2, l3] st P := X_iload_n (M := mX11_order) (dX11_order_2) rfl rfl k
theorem dX11_order_3 : decode cX11_order 3 = .ok (.invokevirtual 238, 3) := by decide +kernel
theorem sX11_order_3_g {b : Nat} {fs : List Value} {a0 : Int32} {Qc : Outcome → xH → Prop} (hst : (st.map fun v => v.category).sum ≤ 8) (hP : P.1 b = some (xO 9 fs)) (hC : xC w d mX11_isCell [.ref b, .int a0] P Qc) (kr : ∀ v P1, Qc (.returned v) P1 → X w mX11_order (d + 1) Q 6 ls (v.toList ++ st) P1) (kt : ∀ q P1, Qc (.threw q) P1 → Xt w mX11_order (d + 1) Q 3 ls st P1 q) : X w mX11_order (d + 1) Q 3 ls (.int a0 :: .ref b :: st) P := X_callV (M := mX11_order) (MC := mX11_isCell) (As := [.int a0]) (T := TX11) (dX11_order_3) calX11_isCell xw_530 xw_531 xw_532 rfl rfl hP hC hst kr kt
theorem sX11_order_3 {b : Nat} {fs : List Value} {a0 : Int32} {r : Int32} {P1 : xH} (hst : (st.map fun v => v.category).sum ≤ 8) (hP : P.1 b = some (xO 9 fs)) (hC : xC w d mX11_isCell [.ref b, .int a0] P (xRet (some (.int r)) P1)) (k : X w mX11_order (d + 1) Q 6 ls (.int r :: st) P1) : X w mX11_order (d + 1) Q 3 ls (.int a0 :: .ref b :: st) P := X_callV (M := mX11_order) (MC := mX11_isCell) (As := [.int a0]) (T := TX11) (dX11_order_3) calX11_isCell xw_530 xw_531 xw_532 rfl rfl hP hC hst (fun v P2 h => by obtain ⟨h1, rfl⟩ := h; cases h1; exact k) (fun q P2 h => by cases h.1)
theorem sX11_order_3_r {b : Nat} {fs : List Value} {a0 : Int32} {r : Int32} {Rp : xH → Prop} (hst : (st.map fun v => v.category).sum ≤ 8) (hP : P.1 b = some (xO 9 fs)) (hC : xC w d mX11_isCell [.ref b, .int a0] P (xRl (some (.int r)) Rp)) (k : ∀ P1, Rp P1 → X w mX11_order (d + 1) Q 6 ls (.int r :: st) P1) : X w mX11_order (d + 1) Q 3 ls (.int a0 :: .ref b :: st) P := X_callV (M := mX11_order) (MC := mX11_isCell) (As := [.int a0]) (T := TX11) (dX11_order_3) calX11_isCell xw_530 xw_531 xw_532 rfl rfl hP hC hst (fun v P2 h => by obtain ⟨h1, hR⟩ := h; cases h1; exact k P2 hR) (fun q P2 h => by cases h.1)
theorem sX11_order_3_t {b : Nat} {fs : List Value} {a0 : Int32} {q : Nat} {P1 : xH} (hst : (st.map fun v => v.category).sum ≤ 8) (hP : P.1 b = some (xO 9 fs)) (hC : xC w d mX11_isCell [.ref b, .int a0] P (xThr q P1)) (hq : Q (.threw q) P1) : X w mX11_order (d + 1) Q 3 ls (.int a0 :: .ref b :: st) P := X_callV (M := mX11_order) (MC := mX11_isCell) (As := [.int a0]) (T := TX11) (dX11_order_3) calX11_isCell xw_530 xw_531 xw_532 rfl rfl hP hC hst (fun v P2 h => by cases h.1) (fun q2 P2 h => by obtain ⟨h1, rfl⟩ := h; cases h1; exact Xt_out rfl hq)
theorem dX11_order_6 : decode cX11_order 6 = .ok (.ifCond .eq 33, 3) := by decide +kernel
theorem sX11_order_6 {x : Int32} (kt : x = 0 → X w mX11_order d Q 39 ls st P) (kf : ¬ x = 0 → X w mX11_order d Q 9 ls st P) : X w mX11_order d Q 6 ls (.int x :: st) P := X_if_eq (M := mX11_order) (dX11_order_6) (by decide) kt kf
theorem dX11_order_9 : decode cX11_order 9 = .ok (.aload_n 0, 1) := by decide +kernel
theorem sX11_order_9 {l1 l2 l3 : Option Value} {x : Nat} (k : X w mX11_order d Q 10 [some (.ref x), l1, l2, l3] (.ref x :: st) P) : X w mX11_order d Q 9 [some (.ref x), l1, l2, l3] st P := X_aload_n (M := mX11_order) (dX11_order_9) rfl rfl k
theorem dX11_order_10 : decode cX11_order 10 = .ok (.iload_n 2, 1) := by decide +kernel
theorem sX11_order_10 {l0 l1 l3 : Option Value} {x : Int32} (k : X w mX11_order d Q 11 [l0, l1, some (.int x), l3] (.int x :: st) P) : X w mX11_order d Q 10 [l0, l1, some (.int x), l3] st P := X_iload_n (M := mX11_order) (dX11_order_10) rfl rfl k
theorem dX11_order_11 : decode cX11_order 11 = .ok (.invokevirtual 238, 3) := by decide +kernel
theorem sX11_order_11_g {b : Nat} {fs : List Value} {a0 : Int32} {Qc : Outcome → xH → Prop} (hst : (st.map fun v => v.category).sum ≤ 8) (hP : P.1 b = some (xO 9 fs)) (hC : xC w d mX11_isCell [.ref b, .int a0] P Qc) (kr : ∀ v P1, Qc (.returned v) P1 → X w mX11_order (d + 1) Q 14 ls (v.toList ++ st) P1) (kt : ∀ q P1, Qc (.threw q) P1 → Xt w mX11_order (d + 1) Q 11 ls st P1 q) : X w mX11_order (d + 1) Q 11 ls (.int a0 :: .ref b :: st) P := X_callV (M := mX11_order) (MC := mX11_isCell) (As := [.int a0]) (T := TX11) (dX11_order_11) calX11_isCell xw_530 xw_531 xw_532 rfl rfl hP hC hst kr kt
theorem sX11_order_11 {b : Nat} {fs : List Value} {a0 : Int32} {r : Int32} {P1 : xH} (hst : (st.map fun v => v.category).sum ≤ 8) (hP : P.1 b = some (xO 9 fs)) (hC : xC w d mX11_isCell [.ref b, .int a0] P (xRet (some (.int r)) P1)) (k : X w mX11_order (d + 1) Q 14 ls (.int r :: st) P1) : X w mX11_order (d + 1) Q 11 ls (.int a0 :: .ref b :: st) P := X_callV (M := mX11_order) (MC := mX11_isCell) (As := [.int a0]) (T := TX11) (dX11_order_11) calX11_isCell xw_530 xw_531 xw_532 rfl rfl hP hC hst (fun v P2 h => by obtain ⟨h1, rfl⟩ := h; cases h1; exact k) (fun q P2 h => by cases h.1)
theorem sX11_order_11_r {b : Nat} {fs : List Value} {a0 : Int32} {r : Int32} {Rp : xH → Prop} (hst : (st.map fun v => v.category).sum ≤ 8) (hP : P.1 b = some (xO 9 fs)) (hC : xC w d mX11_isCell [.ref b, .int a0] P (xRl (some (.int r)) Rp)) (k : ∀ P1, Rp P1 → X w mX11_order (d + 1) Q 14 ls (.int r :: st) P1) : X w mX11_order (d + 1) Q 11 ls (.int a0 :: .ref b :: st) P := X_callV (M := mX11_order) (MC := mX11_isCell) (As := [.int a0]) (T := TX11) (dX11_order_11) calX11_isCell xw_530 xw_531 xw_532 rfl rfl hP hC hst (fun v P2 h => by obtain ⟨h1, hR⟩ := h; cases h1; exact k P2 hR) (fun q P2 h => by cases h.1)
theorem sX11_order_11_t {b : Nat} {fs : List Value} {a0 : Int32} {q : Nat} {P1 : xH} (hst : (st.map fun v => v.category).sum ≤ 8) (hP : P.1 b = some (xO 9 fs)) (hC : xC w d mX11_isCell [.ref b, .int a0] P (xThr q P1)) (hq : Q (.threw q) P1) : X w mX11_order (d + 1) Q 11 ls (.int a0 :: .ref b :: st) P := X_callV (M := mX11_order) (MC := mX11_isCell) (As := [.int a0]) (T := TX11) (dX11_order_11) calX11_isCell xw_530 xw_531 xw_532 rfl rfl hP hC hst (fun v P2 h => by cases h.1) (fun q2 P2 h => by obtain ⟨h1, rfl⟩ := h; cases h1; exact Xt_out rfl hq)
theorem dX11_order_14 : decode cX11_order 14 = .ok (.ifCond .eq 25, 3) := by decide +kernel
theorem sX11_order_14 {x : Int32} (kt : x = 0 → X w mX11_order d Q 39 ls st P) (kf : ¬ x = 0 → X w mX11_order d Q 17 ls st P) : X w mX11_order d Q 14 ls (.int x :: st) P := X_if_eq (M := mX11_order) (dX11_order_14) (by decide) kt kf
theorem dX11_order_17 : decode cX11_order 17 = .ok (.iload_n 3, 1) := by decide +kernel
theorem sX11_order_17 {l0 l1 l2 : Option Value} {x : Int32} (k : X w mX11_order d Q 18 [l0, l1, l2, some (.int x)] (.int x :: st) P) : X w mX11_order d Q 17 [l0, l1, l2, some (.int x)] st P := X_iload_n (M := mX11_order) (dX11_order_17) rfl rfl k
theorem dX11_order_18 : decode cX11_order 18 = .ok (.ifCond .lt 21, 3) := by decide +kernel
theorem sX11_order_18 {x : Int32} (kt : x < 0 → X w mX11_order d Q 39 ls st P) (kf : ¬ x < 0 → X w mX11_order d Q 21 ls st P) : X w mX11_order d Q 18 ls (.int x :: st) P := X_if_lt (M := mX11_order) (dX11_order_18) (by decide) kt kf
theorem dX11_order_21 : decode cX11_order 21 = .ok (.iload_n 3, 1) := by decide +kernel
theorem sX11_order_21 {l0 l1 l2 : Option Value} {x : Int32} (k : X w mX11_order d Q 22 [l0, l1, l2, some (.int x)] (.int x :: st) P) : X w mX11_order d Q 21 [l0, l1, l2, some (.int x)] st P := X_iload_n (M := mX11_order) (dX11_order_21) rfl rfl k
theorem dX11_order_22 : decode cX11_order 22 = .ok (.aload_n 0, 1) := by decide +kernel
theorem sX11_order_22 {l1 l2 l3 : Option Value} {x : Nat} (k : X w mX11_order d Q 23 [some (.ref x), l1, l2, l3] (.ref x :: st) P) : X w mX11_order d Q 22 [some (.ref x), l1, l2, l3] st P := X_aload_n (M := mX11_order) (dX11_order_22) rfl rfl k
theorem dX11_order_23 : decode cX11_order 23 = .ok (.getfield 47, 3) := by decide +kernel
theorem sX11_order_23 {a : Nat} {fs : List Value} {v : Nat} (hP : P.1 a = some (xO 9 fs)) (hv : fs[15]? = some (.ref v)) (k : X w mX11_order d Q 26 ls (.ref v :: st) P) : X w mX11_order d Q 23 ls (.ref a :: st) P := X_get (M := mX11_order) (j := 15) (T := TX11) (dX11_order_23) rfl (by decide) x_in11 xw_416 hP hv k
theorem dX11_order_26 : decode cX11_order 26 = .ok (.bipush 12, 2) := by decide +kernel
theorem sX11_order_26 (k : X w mX11_order d Q 28 ls (.int (12 : Int32) :: st) P) : X w mX11_order d Q 26 ls st P := X_bipush (M := mX11_order) (dX11_order_26) (by decide) k
theorem dX11_order_28 : decode cX11_order 28 = .ok (.aload_n 0, 1) := by decide +kernel
theorem sX11_order_28 {l1 l2 l3 : Option Value} {x : Nat} (k : X w mX11_order d Q 29 [some (.ref x), l1, l2, l3] (.ref x :: st) P) : X w mX11_order d Q 28 [some (.ref x), l1, l2, l3] st P := X_aload_n (M := mX11_order) (dX11_order_28) rfl rfl k
theorem dX11_order_29 : decode cX11_order 29 = .ok (.getfield 226, 3) := by decide +kernel
theorem sX11_order_29 {a : Nat} {fs : List Value} {v : Int32} (hP : P.1 a = some (xO 9 fs)) (hv : fs[3]? = some (.int v)) (k : X w mX11_order d Q 32 ls (.int v :: st) P) : X w mX11_order d Q 29 ls (.ref a :: st) P := X_get (M := mX11_order) (j := 3) (T := TX11) (dX11_order_29) rfl (by decide) x_in11 xw_521 hP hv k
theorem dX11_order_32 : decode cX11_order 32 = .ok (.imul, 1) := by decide +kernel
theorem sX11_order_32 {x y : Int32} (k : X w mX11_order d Q 33 ls (.int (x * y) :: st) P) : X w mX11_order d Q 32 ls (.int y :: .int x :: st) P := X_imul (M := mX11_order) (dX11_order_32) k
theorem dX11_order_33 : decode cX11_order 33 = .ok (.iload_n 1, 1) := by decide +kernel
theorem sX11_order_33 {l0 l2 l3 : Option Value} {x : Int32} (k : X w mX11_order d Q 34 [l0, some (.int x), l2, l3] (.int x :: st) P) : X w mX11_order d Q 33 [l0, some (.int x), l2, l3] st P := X_iload_n (M := mX11_order) (dX11_order_33) rfl rfl k
theorem dX11_order_34 : decode cX11_order 34 = .ok (.iadd, 1) := by decide +kernel
theorem sX11_order_34 {x y : Int32} (k : X w mX11_order d Q 35 ls (.int (x + y) :: st) P) : X w mX11_order d Q 34 ls (.int y :: .int x :: st) P := X_iadd (M := mX11_order) (dX11_order_34) k
theorem dX11_order_35 : decode cX11_order 35 = .ok (.iaload, 1) := by decide +kernel
theorem sX11_order_35 {a n : Nat} {f : Nat → Int32} {i : Int32} (hP : P.1 a = some (xA 0 n f)) (hi : vp_in i n) (k : X w mX11_order d Q 36 ls (.int (f i.toNatClampNeg) :: st) P) : X w mX11_order d Q 35 ls (.int i :: .ref a :: st) P := X_iald (M := mX11_order) (dX11_order_35) hP hi k
theorem dX11_order_36 : decode cX11_order 36 = .ok (.if_icmp .lt 7, 3) := by decide +kernel
theorem sX11_order_36 {x y : Int32} (kt : x < y → X w mX11_order d Q 43 ls st P) (kf : ¬ x < y → X w mX11_order d Q 39 ls st P) : X w mX11_order d Q 36 ls (.int y :: .int x :: st) P := X_icmp_lt (M := mX11_order) (dX11_order_36) (by decide) kt kf
theorem dX11_order_39 : decode cX11_order 39 = .ok (.iconst 1, 1) := by decide +kernel
theorem sX11_order_39 (k : X w mX11_order d Q 40 ls (.int (1 : Int32) :: st) P) : X w mX11_order d Q 39 ls st P := X_iconst (M := mX11_order) (dX11_order_39) (by decide) k
theorem dX11_order_40 : decode cX11_order 40 = .ok (.goto 4, 3) := by decide +kernel
theorem sX11_order_40 (k : X w mX11_order d Q 44 ls st P) : X w mX11_order d Q 40 ls st P := X_goto (M := mX11_order) (dX11_order_40) (by decide) k
theorem dX11_order_43 : decode cX11_order 43 = .ok (.iconst 0, 1) := by decide +kernel
theorem sX11_order_43 (k : X w mX11_order d Q 44 ls (.int (0 : Int32) :: st) P) : X w mX11_order d Q 43 ls st P := X_iconst (M := mX11_order) (dX11_order_43) (by decide) k
theorem dX11_order_44 : decode cX11_order 44 = .ok (.putfield 84, 3) := by decide +kernel
theorem sX11_order_44 {a : Nat} {fs : List Value} {v : Int32} (hP : P.1 a = some (xO 9 fs)) (hl : 0 < fs.length) (k : X w mX11_order d Q 47 ls st (xs P a (xO 9 (fs.set 0 (.int v))))) : X w mX11_order d Q 44 ls (.int v :: .ref a :: st) P := X_put (M := mX11_order) (j := 0) (T := TX11) (dX11_order_44) rfl (by decide) x_c11 xw_428 rfl hP rfl rfl hl k
theorem dX11_order_47 : decode cX11_order 47 = .ok (.aload_n 0, 1) := by decide +kernel
theorem sX11_order_47 {l1 l2 l3 : Option Value} {x : Nat} (k : X w mX11_order d Q 48 [some (.ref x), l1, l2, l3] (.ref x :: st) P) : X w mX11_order d Q 47 [some (.ref x), l1, l2, l3] st P := X_aload_n (M := mX11_order) (dX11_order_47) rfl rfl k
theorem dX11_order_48 : decode cX11_order 48 = .ok (.getfield 84, 3) := by decide +kernel
theorem sX11_order_48 {a : Nat} {fs : List Value} {v : Int32} (hP : P.1 a = some (xO 9 fs)) (hv : fs[0]? = some (.int v)) (k : X w mX11_order d Q 51 ls (.int v :: st) P) : X w mX11_order d Q 48 ls (.ref a :: st) P := X_get (M := mX11_order) (j := 0) (T := TX11) (dX11_order_48) rfl (by decide) x_in11 xw_428 hP hv k
theorem dX11_order_51 : decode cX11_order 51 = .ok (.ifCond .le 7, 3) := by decide +kernel
theorem sX11_order_51 {x : Int32} (kt : x ≤ 0 → X w mX11_order d Q 58 ls st P) (kf : ¬ x ≤ 0 → X w mX11_order d Q 54 ls st P) : X w mX11_order d Q 51 ls (.int x :: st) P := X_if_le (M := mX11_order) (dX11_order_51) (by decide) kt kf
theorem dX11_order_54 : decode cX11_order 54 = .ok (.iconst 0, 1) := by decide +kernel
theorem sX11_order_54 (k : X w mX11_order d Q 55 ls (.int (0 : Int32) :: st) P) : X w mX11_order d Q 54 ls st P := X_iconst (M := mX11_order) (dX11_order_54) (by decide) k
theorem dX11_order_55 : decode cX11_order 55 = .ok (.goto 38, 3) := by decide +kernel
theorem sX11_order_55 (k : X w mX11_order d Q 93 ls st P) : X w mX11_order d Q 55 ls st P := X_goto (M := mX11_order) (dX11_order_55) (by decide) k
theorem dX11_order_58 : decode cX11_order 58 = .ok (.aload_n 0, 1) := by decide +kernel
theorem sX11_order_58 {l1 l2 l3 : Option Value} {x : Nat} (k : X w mX11_order d Q 59 [some (.ref x), l1, l2, l3] (.ref x :: st) P) : X w mX11_order d Q 58 [some (.ref x), l1, l2, l3] st P := X_aload_n (M := mX11_order) (dX11_order_58) rfl rfl k
theorem dX11_order_59 : decode cX11_order 59 = .ok (.bipush 12, 2) := by decide +kernel
theorem sX11_order_59 (k : X w mX11_order d Q 61 ls (.int (12 : Int32) :: st) P) : X w mX11_order d Q 59 ls st P := X_bipush (M := mX11_order) (dX11_order_59) (by decide) k
theorem dX11_order_61 : decode cX11_order 61 = .ok (.aload_n 0, 1) := by decide +kernel
theorem sX11_order_61 {l1 l2 l3 : Option Value} {x : Nat} (k : X w mX11_order d Q 62 [some (.ref x), l1, l2, l3] (.ref x :: st) P) : X w mX11_order d Q 61 [some (.ref x), l1, l2, l3] st P := X_aload_n (M := mX11_order) (dX11_order_61) rfl rfl k
theorem dX11_order_62 : decode cX11_order 62 = .ok (.getfield 226, 3) := by decide +kernel
theorem sX11_order_62 {a : Nat} {fs : List Value} {v : Int32} (hP : P.1 a = some (xO 9 fs)) (hv : fs[3]? = some (.int v)) (k : X w mX11_order d Q 65 ls (.int v :: st) P) : X w mX11_order d Q 62 ls (.ref a :: st) P := X_get (M := mX11_order) (j := 3) (T := TX11) (dX11_order_62) rfl (by decide) x_in11 xw_521 hP hv k
theorem dX11_order_65 : decode cX11_order 65 = .ok (.imul, 1) := by decide +kernel
theorem sX11_order_65 {x y : Int32} (k : X w mX11_order d Q 66 ls (.int (x * y) :: st) P) : X w mX11_order d Q 65 ls (.int y :: .int x :: st) P := X_imul (M := mX11_order) (dX11_order_65) k
theorem dX11_order_66 : decode cX11_order 66 = .ok (.iload_n 1, 1) := by decide +kernel
theorem sX11_order_66 {l0 l2 l3 : Option Value} {x : Int32} (k : X w mX11_order d Q 67 [l0, some (.int x), l2, l3] (.int x :: st) P) : X w mX11_order d Q 66 [l0, some (.int x), l2, l3] st P := X_iload_n (M := mX11_order) (dX11_order_66) rfl rfl k
theorem dX11_order_67 : decode cX11_order 67 = .ok (.iadd, 1) := by decide +kernel
theorem sX11_order_67 {x y : Int32} (k : X w mX11_order d Q 68 ls (.int (x + y) :: st) P) : X w mX11_order d Q 67 ls (.int y :: .int x :: st) P := X_iadd (M := mX11_order) (dX11_order_67) k
theorem dX11_order_68 : decode cX11_order 68 = .ok (.bipush 12, 2) := by decide +kernel
theorem sX11_order_68 (k : X w mX11_order d Q 70 ls (.int (12 : Int32) :: st) P) : X w mX11_order d Q 68 ls st P := X_bipush (M := mX11_order) (dX11_order_68) (by decide) k
theorem dX11_order_70 : decode cX11_order 70 = .ok (.aload_n 0, 1) := by decide +kernel
theorem sX11_order_70 {l1 l2 l3 : Option Value} {x : Nat} (k : X w mX11_order d Q 71 [some (.ref x), l1, l2, l3] (.ref x :: st) P) : X w mX11_order d Q 70 [some (.ref x), l1, l2, l3] st P := X_aload_n (M := mX11_order) (dX11_order_70) rfl rfl k
theorem dX11_order_71 : decode cX11_order 71 = .ok (.getfield 226, 3) := by decide +kernel
theorem sX11_order_71 {a : Nat} {fs : List Value} {v : Int32} (hP : P.1 a = some (xO 9 fs)) (hv : fs[3]? = some (.int v)) (k : X w mX11_order d Q 74 ls (.int v :: st) P) : X w mX11_order d Q 71 ls (.ref a :: st) P := X_get (M := mX11_order) (j := 3) (T := TX11) (dX11_order_71) rfl (by decide) x_in11 xw_521 hP hv k
theorem dX11_order_74 : decode cX11_order 74 = .ok (.imul, 1) := by decide +kernel
theorem sX11_order_74 {x y : Int32} (k : X w mX11_order d Q 75 ls (.int (x * y) :: st) P) : X w mX11_order d Q 74 ls (.int y :: .int x :: st) P := X_imul (M := mX11_order) (dX11_order_74) k
theorem dX11_order_75 : decode cX11_order 75 = .ok (.iload_n 2, 1) := by decide +kernel
theorem sX11_order_75 {l0 l1 l3 : Option Value} {x : Int32} (k : X w mX11_order d Q 76 [l0, l1, some (.int x), l3] (.int x :: st) P) : X w mX11_order d Q 75 [l0, l1, some (.int x), l3] st P := X_iload_n (M := mX11_order) (dX11_order_75) rfl rfl k
theorem dX11_order_76 : decode cX11_order 76 = .ok (.iadd, 1) := by decide +kernel
theorem sX11_order_76 {x y : Int32} (k : X w mX11_order d Q 77 ls (.int (x + y) :: st) P) : X w mX11_order d Q 76 ls (.int y :: .int x :: st) P := X_iadd (M := mX11_order) (dX11_order_76) k
theorem dX11_order_77 : decode cX11_order 77 = .ok (.invokevirtual 270, 3) := by decide +kernel
theorem sX11_order_77_g {b : Nat} {fs : List Value} {a0 : Int32} {a1 : Int32} {Qc : Outcome → xH → Prop} (hst : (st.map fun v => v.category).sum ≤ 8) (hP : P.1 b = some (xO 9 fs)) (hC : xC w d mX11_find [.ref b, .int a0, .int a1] P Qc) (kr : ∀ v P1, Qc (.returned v) P1 → X w mX11_order (d + 1) Q 80 ls (v.toList ++ st) P1) (kt : ∀ q P1, Qc (.threw q) P1 → Xt w mX11_order (d + 1) Q 77 ls st P1 q) : X w mX11_order (d + 1) Q 77 ls (.int a1 :: .int a0 :: .ref b :: st) P := X_callV (M := mX11_order) (MC := mX11_find) (As := [.int a0, .int a1]) (T := TX11) (dX11_order_77) calX11_find xw_555 xw_556 xw_557 rfl rfl hP hC hst kr kt
theorem sX11_order_77 {b : Nat} {fs : List Value} {a0 : Int32} {a1 : Int32} {r : Int32} {P1 : xH} (hst : (st.map fun v => v.category).sum ≤ 8) (hP : P.1 b = some (xO 9 fs)) (hC : xC w d mX11_find [.ref b, .int a0, .int a1] P (xRet (some (.int r)) P1)) (k : X w mX11_order (d + 1) Q 80 ls (.int r :: st) P1) : X w mX11_order (d + 1) Q 77 ls (.int a1 :: .int a0 :: .ref b :: st) P := X_callV (M := mX11_order) (MC := mX11_find) (As := [.int a0, .int a1]) (T := TX11) (dX11_order_77) calX11_find xw_555 xw_556 xw_557 rfl rfl hP hC hst (fun v P2 h => by obtain ⟨h1, rfl⟩ := h; cases h1; exact k) (fun q P2 h => by cases h.1)
theorem sX11_order_77_r {b : Nat} {fs : List Value} {a0 : Int32} {a1 : Int32} {r : Int32} {Rp : xH → Prop} (hst : (st.map fun v => v.category).sum ≤ 8) (hP : P.1 b = some (xO 9 fs)) (hC : xC w d mX11_find [.ref b, .int a0, .int a1] P (xRl (some (.int r)) Rp)) (k : ∀ P1, Rp P1 → X w mX11_order (d + 1) Q 80 ls (.int r :: st) P1) : X w mX11_order (d + 1) Q 77 ls (.int a1 :: .int a0 :: .ref b :: st) P := X_callV (M := mX11_order) (MC := mX11_find) (As := [.int a0, .int a1]) (T := TX11) (dX11_order_77) calX11_find xw_555 xw_556 xw_557 rfl rfl hP hC hst (fun v P2 h => by obtain ⟨h1, hR⟩ := h; cases h1; exact k P2 hR) (fun q P2 h => by cases h.1)
theorem sX11_order_77_t {b : Nat} {fs : List Value} {a0 : Int32} {a1 : Int32} {q : Nat} {P1 : xH} (hst : (st.map fun v => v.category).sum ≤ 8) (hP : P.1 b = some (xO 9 fs)) (hC : xC w d mX11_find [.ref b, .int a0, .int a1] P (xThr q P1)) (hq : Q (.threw q) P1) : X w mX11_order (d + 1) Q 77 ls (.int a1 :: .int a0 :: .ref b :: st) P := X_callV (M := mX11_order) (MC := mX11_find) (As := [.int a0, .int a1]) (T := TX11) (dX11_order_77) calX11_find xw_555 xw_556 xw_557 rfl rfl hP hC hst (fun v P2 h => by cases h.1) (fun q2 P2 h => by obtain ⟨h1, rfl⟩ := h; cases h1; exact Xt_out rfl hq)
theorem dX11_order_80 : decode cX11_order 80 = .ok (.ifCond .eq 12, 3) := by decide +kernel
theorem sX11_order_80 {x : Int32} (kt : x = 0 → X w mX11_order d Q 92 ls st P) (kf : ¬ x = 0 → X w mX11_order d Q 83 ls st P) : X w mX11_order d Q 80 ls (.int x :: st) P := X_if_eq (M := mX11_order) (dX11_order_80) (by decide) kt kf
theorem dX11_order_83 : decode cX11_order 83 = .ok (.aload_n 0, 1) := by decide +kernel
theorem sX11_order_83 {l1 l2 l3 : Option Value} {x : Nat} (k : X w mX11_order d Q 84 [some (.ref x), l1, l2, l3] (.ref x :: st) P) : X w mX11_order d Q 83 [some (.ref x), l1, l2, l3] st P := X_aload_n (M := mX11_order) (dX11_order_83) rfl rfl k
theorem dX11_order_84 : decode cX11_order 84 = .ok (.getfield 78, 3) := by decide +kernel
theorem sX11_order_84 {a : Nat} {fs : List Value} {v : Nat} (hP : P.1 a = some (xO 9 fs)) (hv : fs[35]? = some (.ref v)) (k : X w mX11_order d Q 87 ls (.ref v :: st) P) : X w mX11_order d Q 84 ls (.ref a :: st) P := X_get (M := mX11_order) (j := 35) (T := TX11) (dX11_order_84) rfl (by decide) x_in11 xw_426 hP hv k
theorem dX11_order_87 : decode cX11_order 87 = .ok (.iload_n 3, 1) := by decide +kernel
theorem sX11_order_87 {l0 l1 l2 : Option Value} {x : Int32} (k : X w mX11_order d Q 88 [l0, l1, l2, some (.int x)] (.int x :: st) P) : X w mX11_order d Q 87 [l0, l1, l2, some (.int x)] st P := X_iload_n (M := mX11_order) (dX11_order_87) rfl rfl k
theorem dX11_order_88 : decode cX11_order 88 = .ok (.iaload, 1) := by decide +kernel
theorem sX11_order_88 {a n : Nat} {f : Nat → Int32} {i : Int32} (hP : P.1 a = some (xA 0 n f)) (hi : vp_in i n) (k : X w mX11_order d Q 89 ls (.int (f i.toNatClampNeg) :: st) P) : X w mX11_order d Q 88 ls (.int i :: .ref a :: st) P := X_iald (M := mX11_order) (dX11_order_88) hP hi k
theorem dX11_order_89 : decode cX11_order 89 = .ok (.goto 4, 3) := by decide +kernel
theorem sX11_order_89 (k : X w mX11_order d Q 93 ls st P) : X w mX11_order d Q 89 ls st P := X_goto (M := mX11_order) (dX11_order_89) (by decide) k
theorem dX11_order_92 : decode cX11_order 92 = .ok (.iconst (-1), 1) := by decide +kernel
theorem sX11_order_92 (k : X w mX11_order d Q 93 ls (.int (-1 : Int32) :: st) P) : X w mX11_order d Q 92 ls st P := X_iconst (M := mX11_order) (dX11_order_92) (by decide) k
theorem dX11_order_93 : decode cX11_order 93 = .ok (.ireturn, 1) := by decide +kernel
theorem sX11_order_93 {v : Int32} (hq : Q (.returned (some (.int v))) P) : X w mX11_order d Q 93 ls [.int v] P := X_iret (M := mX11_order) (dX11_order_93) rfl hq
theorem dX11_gather_0 : decode cX11_gather 0 = .ok (.iconst 0, 1) := by decide +kernel
theorem sX11_gather_0 (k : X w mX11_gather d Q 1 ls (.int (0 : Int32) :: st) P) : X w mX11_gather d Q 0 ls st P := X_iconst (M := mX11_gather) (dX11_gather_0) (by decide) k
theorem dX11_gather_1 : decode cX11_gather 1 = .ok (.istore_n 2, 1) := by decide +kernel
theorem sX11_gather_1 {l0 l1 l2 l3 l4 : Option Value} {x : Int32} (hn : xnl l1 = true) (k : X w mX11_gather d Q 2 [l0, l1, some (.int x), l3, l4] st P) : X w mX11_gather d Q 1 [l0, l1, l2, l3, l4] (.int x :: st) P := X_istore_n (M := mX11_gather) (dX11_gather_1) rfl (by decide) rfl (xnl_p (ls := [l0, l1, l2, l3, l4]) (j := 1) rfl hn) k
theorem dX11_gather_2 : decode cX11_gather 2 = .ok (.iconst 0, 1) := by decide +kernel
theorem sX11_gather_2 (k : X w mX11_gather d Q 3 ls (.int (0 : Int32) :: st) P) : X w mX11_gather d Q 2 ls st P := X_iconst (M := mX11_gather) (dX11_gather_2) (by decide) k
theorem dX11_gather_3 : decode cX11_gather 3 = .ok (.istore_n 3, 1) := by decide +kernel
theorem sX11_gather_3 {l0 l1 l2 l3 l4 : Option Value} {x : Int32} (hn : xnl l2 = true) (k : X w mX11_gather d Q 4 [l0, l1, l2, some (.int x), l4] st P) : X w mX11_gather d Q 3 [l0, l1, l2, l3, l4] (.int x :: st) P := X_istore_n (M := mX11_gather) (dX11_gather_3) rfl (by decide) rfl (xnl_p (ls := [l0, l1, l2, l3, l4]) (j := 2) rfl hn) k
theorem dX11_gather_4 : decode cX11_gather 4 = .ok (.iload_n 3, 1) := by decide +kernel
theorem sX11_gather_4 {l0 l1 l2 l4 : Option Value} {x : Int32} (k : X w mX11_gather d Q 5 [l0, l1, l2, some (.int x), l4] (.int x :: st) P) : X w mX11_gather d Q 4 [l0, l1, l2, some (.int x), l4] st P := X_iload_n (M := mX11_gather) (dX11_gather_4) rfl rfl k
theorem dX11_gather_5 : decode cX11_gather 5 = .ok (.aload_n 0, 1) := by decide +kernel
theorem sX11_gather_5 {l1 l2 l3 l4 : Option Value} {x : Nat} (k : X w mX11_gather d Q 6 [some (.ref x), l1, l2, l3, l4] (.ref x :: st) P) : X w mX11_gather d Q 5 [some (.ref x), l1, l2, l3, l4] st P := X_aload_n (M := mX11_gather) (dX11_gather_5) rfl rfl k
theorem dX11_gather_6 : decode cX11_gather 6 = .ok (.getfield 35, 3) := by decide +kernel
theorem sX11_gather_6 {a : Nat} {fs : List Value} {v : Nat} (hP : P.1 a = some (xO 9 fs)) (hv : fs[11]? = some (.ref v)) (k : X w mX11_gather d Q 9 ls (.ref v :: st) P) : X w mX11_gather d Q 6 ls (.ref a :: st) P := X_get (M := mX11_gather) (j := 11) (T := TX11) (dX11_gather_6) rfl (by decide) x_in11 xw_412 hP hv k
theorem dX11_gather_9 : decode cX11_gather 9 = .ok (.aload_n 0, 1) := by decide +kernel
theorem sX11_gather_9 {l1 l2 l3 l4 : Option Value} {x : Nat} (k : X w mX11_gather d Q 10 [some (.ref x), l1, l2, l3, l4] (.ref x :: st) P) : X w mX11_gather d Q 9 [some (.ref x), l1, l2, l3, l4] st P := X_aload_n (M := mX11_gather) (dX11_gather_9) rfl rfl k
theorem dX11_gather_10 : decode cX11_gather 10 = .ok (.getfield 226, 3) := by decide +kernel
theorem sX11_gather_10 {a : Nat} {fs : List Value} {v : Int32} (hP : P.1 a = some (xO 9 fs)) (hv : fs[3]? = some (.int v)) (k : X w mX11_gather d Q 13 ls (.int v :: st) P) : X w mX11_gather d Q 10 ls (.ref a :: st) P := X_get (M := mX11_gather) (j := 3) (T := TX11) (dX11_gather_10) rfl (by decide) x_in11 xw_521 hP hv k
theorem dX11_gather_13 : decode cX11_gather 13 = .ok (.iaload, 1) := by decide +kernel
theorem sX11_gather_13 {a n : Nat} {f : Nat → Int32} {i : Int32} (hP : P.1 a = some (xA 0 n f)) (hi : vp_in i n) (k : X w mX11_gather d Q 14 ls (.int (f i.toNatClampNeg) :: st) P) : X w mX11_gather d Q 13 ls (.int i :: .ref a :: st) P := X_iald (M := mX11_gather) (dX11_gather_13) hP hi k
theorem dX11_gather_14 : decode cX11_gather 14 = .ok (.if_icmp .ge 92, 3) := by decide +kernel
theorem sX11_gather_14 {x y : Int32} (kt : y ≤ x → X w mX11_gather d Q 106 ls st P) (kf : ¬ y ≤ x → X w mX11_gather d Q 17 ls st P) : X w mX11_gather d Q 14 ls (.int y :: .int x :: st) P := X_icmp_ge (M := mX11_gather) (dX11_gather_14) (by decide) kt kf
theorem dX11_gather_17 : decode cX11_gather 17 = .ok (.aload_n 0, 1) := by decide +kernel
theorem sX11_gather_17 {l1 l2 l3 l4 : Option Value} {x : Nat} (k : X w mX11_gather d Q 18 [some (.ref x), l1, l2, l3, l4] (.ref x :: st) P) : X w mX11_gather d Q 17 [some (.ref x), l1, l2, l3, l4] st P := X_aload_n (M := mX11_gather) (dX11_gather_17) rfl rfl k
theorem dX11_gather_18 : decode cX11_gather 18 = .ok (.bipush 12, 2) := by decide +kernel
theorem sX11_gather_18 (k : X w mX11_gather d Q 20 ls (.int (12 : Int32) :: st) P) : X w mX11_gather d Q 18 ls st P := X_bipush (M := mX11_gather) (dX11_gather_18) (by decide) k
theorem dX11_gather_20 : decode cX11_gather 20 = .ok (.aload_n 0, 1) := by decide +kernel
theorem sX11_gather_20 {l1 l2 l3 l4 : Option Value} {x : Nat} (k : X w mX11_gather d Q 21 [some (.ref x), l1, l2, l3, l4] (.ref x :: st) P) : X w mX11_gather d Q 20 [some (.ref x), l1, l2, l3, l4] st P := X_aload_n (M := mX11_gather) (dX11_gather_20) rfl rfl k
theorem dX11_gather_21 : decode cX11_gather 21 = .ok (.getfield 226, 3) := by decide +kernel
theorem sX11_gather_21 {a : Nat} {fs : List Value} {v : Int32} (hP : P.1 a = some (xO 9 fs)) (hv : fs[3]? = some (.int v)) (k : X w mX11_gather d Q 24 ls (.int v :: st) P) : X w mX11_gather d Q 21 ls (.ref a :: st) P := X_get (M := mX11_gather) (j := 3) (T := TX11) (dX11_gather_21) rfl (by decide) x_in11 xw_521 hP hv k
theorem dX11_gather_24 : decode cX11_gather 24 = .ok (.imul, 1) := by decide +kernel
theorem sX11_gather_24 {x y : Int32} (k : X w mX11_gather d Q 25 ls (.int (x * y) :: st) P) : X w mX11_gather d Q 24 ls (.int y :: .int x :: st) P := X_imul (M := mX11_gather) (dX11_gather_24) k
theorem dX11_gather_25 : decode cX11_gather 25 = .ok (.iload_n 1, 1) := by decide +kernel
theorem sX11_gather_25 {l0 l2 l3 l4 : Option Value} {x : Int32} (k : X w mX11_gather d Q 26 [l0, some (.int x), l2, l3, l4] (.int x :: st) P) : X w mX11_gather d Q 25 [l0, some (.int x), l2, l3, l4] st P := X_iload_n (M := mX11_gather) (dX11_gather_25) rfl rfl k
theorem dX11_gather_26 : decode cX11_gather 26 = .ok (.iadd, 1) := by decide +kernel
theorem sX11_gather_26 {x y : Int32} (k : X w mX11_gather d Q 27 ls (.int (x + y) :: st) P) : X w mX11_gather d Q 26 ls (.int y :: .int x :: st) P := X_iadd (M := mX11_gather) (dX11_gather_26) k
theorem dX11_gather_27 : decode cX11_gather 27 = .ok (.bipush 12, 2) := by decide +kernel
theorem sX11_gather_27 (k : X w mX11_gather d Q 29 ls (.int (12 : Int32) :: st) P) : X w mX11_gather d Q 27 ls st P := X_bipush (M := mX11_gather) (dX11_gather_27) (by decide) k
theorem dX11_gather_29 : decode cX11_gather 29 = .ok (.aload_n 0, 1) := by decide +kernel
theorem sX11_gather_29 {l1 l2 l3 l4 : Option Value} {x : Nat} (k : X w mX11_gather d Q 30 [some (.ref x), l1, l2, l3, l4] (.ref x :: st) P) : X w mX11_gather d Q 29 [some (.ref x), l1, l2, l3, l4] st P := X_aload_n (M := mX11_gather) (dX11_gather_29) rfl rfl k
theorem dX11_gather_30 : decode cX11_gather 30 = .ok (.getfield 226, 3) := by decide +kernel
theorem sX11_gather_30 {a : Nat} {fs : List Value} {v : Int32} (hP : P.1 a = some (xO 9 fs)) (hv : fs[3]? = some (.int v)) (k : X w mX11_gather d Q 33 ls (.int v :: st) P) : X w mX11_gather d Q 30 ls (.ref a :: st) P := X_get (M := mX11_gather) (j := 3) (T := TX11) (dX11_gather_30) rfl (by decide) x_in11 xw_521 hP hv k
theorem dX11_gather_33 : decode cX11_gather 33 = .ok (.imul, 1) := by decide +kernel
theorem sX11_gather_33 {x y : Int32} (k : X w mX11_gather d Q 34 ls (.int (x * y) :: st) P) : X w mX11_gather d Q 33 ls (.int y :: .int x :: st) P := X_imul (M := mX11_gather) (dX11_gather_33) k
theorem dX11_gather_34 : decode cX11_gather 34 = .ok (.iload_n 3, 1) := by decide +kernel
theorem sX11_gather_34 {l0 l1 l2 l4 : Option Value} {x : Int32} (k : X w mX11_gather d Q 35 [l0, l1, l2, some (.int x), l4] (.int x :: st) P) : X w mX11_gather d Q 34 [l0, l1, l2, some (.int x), l4] st P := X_iload_n (M := mX11_gather) (dX11_gather_34) rfl rfl k
theorem dX11_gather_35 : decode cX11_gather 35 = .ok (.iadd, 1) := by decide +kernel
theorem sX11_gather_35 {x y : Int32} (k : X w mX11_gather d Q 36 ls (.int (x + y) :: st) P) : X w mX11_gather d Q 35 ls (.int y :: .int x :: st) P := X_iadd (M := mX11_gather) (dX11_gather_35) k
theorem dX11_gather_36 : decode cX11_gather 36 = .ok (.invokevirtual 270, 3) := by decide +kernel
theorem sX11_gather_36_g {b : Nat} {fs : List Value} {a0 : Int32} {a1 : Int32} {Qc : Outcome → xH → Prop} (hst : (st.map fun v => v.category).sum ≤ 8) (hP : P.1 b = some (xO 9 fs)) (hC : xC w d mX11_find [.ref b, .int a0, .int a1] P Qc) (kr : ∀ v P1, Qc (.returned v) P1 → X w mX11_gather (d + 1) Q 39 ls (v.toList ++ st) P1) (kt : ∀ q P1, Qc (.threw q) P1 → Xt w mX11_gather (d + 1) Q 36 ls st P1 q) : X w mX11_gather (d + 1) Q 36 ls (.int a1 :: .int a0 :: .ref b :: st) P := X_callV (M := mX11_gather) (MC := mX11_find) (As := [.int a0, .int a1]) (T := TX11) (dX11_gather_36) calX11_find xw_555 xw_556 xw_557 rfl rfl hP hC hst kr kt
theorem sX11_gather_36 {b : Nat} {fs : List Value} {a0 : Int32} {a1 : Int32} {r : Int32} {P1 : xH} (hst : (st.map fun v => v.category).sum ≤ 8) (hP : P.1 b = some (xO 9 fs)) (hC : xC w d mX11_find [.ref b, .int a0, .int a1] P (xRet (some (.int r)) P1)) (k : X w mX11_gather (d + 1) Q 39 ls (.int r :: st) P1) : X w mX11_gather (d + 1) Q 36 ls (.int a1 :: .int a0 :: .ref b :: st) P := X_callV (M := mX11_gather) (MC := mX11_find) (As := [.int a0, .int a1]) (T := TX11) (dX11_gather_36) calX11_find xw_555 xw_556 xw_557 rfl rfl hP hC hst (fun v P2 h => by obtain ⟨h1, rfl⟩ := h; cases h1; exact k) (fun q P2 h => by cases h.1)
theorem sX11_gather_36_r {b : Nat} {fs : List Value} {a0 : Int32} {a1 : Int32} {r : Int32} {Rp : xH → Prop} (hst : (st.map fun v => v.category).sum ≤ 8) (hP : P.1 b = some (xO 9 fs)) (hC : xC w d mX11_find [.ref b, .int a0, .int a1] P (xRl (some (.int r)) Rp)) (k : ∀ P1, Rp P1 → X w mX11_gather (d + 1) Q 39 ls (.int r :: st) P1) : X w mX11_gather (d + 1) Q 36 ls (.int a1 :: .int a0 :: .ref b :: st) P := X_callV (M := mX11_gather) (MC := mX11_find) (As := [.int a0, .int a1]) (T := TX11) (dX11_gather_36) calX11_find xw_555 xw_556 xw_557 rfl rfl hP hC hst (fun v P2 h => by obtain ⟨h1, hR⟩ := h; cases h1; exact k P2 hR) (fun q P2 h => by cases h.1)
theorem sX11_gather_36_t {b : Nat} {fs : List Value} {a0 : Int32} {a1 : Int32} {q : Nat} {P1 : xH} (hst : (st.map fun v => v.category).sum ≤ 8) (hP : P.1 b = some (xO 9 fs)) (hC : xC w d mX11_find [.ref b, .int a0, .int a1] P (xThr q P1)) (hq : Q (.threw q) P1) : X w mX11_gather (d + 1) Q 36 ls (.int a1 :: .int a0 :: .ref b :: st) P := X_callV (M := mX11_gather) (MC := mX11_find) (As := [.int a0, .int a1]) (T := TX11) (dX11_gather_36) calX11_find xw_555 xw_556 xw_557 rfl rfl hP hC hst (fun v P2 h => by cases h.1) (fun q2 P2 h => by obtain ⟨h1, rfl⟩ := h; cases h1; exact Xt_out rfl hq)
theorem dX11_gather_39 : decode cX11_gather 39 = .ok (.ifCond .eq 61, 3) := by decide +kernel
theorem sX11_gather_39 {x : Int32} (kt : x = 0 → X w mX11_gather d Q 100 ls st P) (kf : ¬ x = 0 → X w mX11_gather d Q 42 ls st P) : X w mX11_gather d Q 39 ls (.int x :: st) P := X_if_eq (M := mX11_gather) (dX11_gather_39) (by decide) kt kf
theorem dX11_gather_42 : decode cX11_gather 42 = .ok (.iload_n 2, 1) := by decide +kernel
theorem sX11_gather_42 {l0 l1 l3 l4 : Option Value} {x : Int32} (k : X w mX11_gather d Q 43 [l0, l1, some (.int x), l3, l4] (.int x :: st) P) : X w mX11_gather d Q 42 [l0, l1, some (.int x), l3, l4] st P := X_iload_n (M := mX11_gather) (dX11_gather_42) rfl rfl k
theorem dX11_gather_43 : decode cX11_gather 43 = .ok (.istore 4, 2) := by decide +kernel
theorem sX11_gather_43 {l0 l1 l2 l3 l4 : Option Value} {x : Int32} (hn : xnl l3 = true) (k : X w mX11_gather d Q 45 [l0, l1, l2, l3, some (.int x)] st P) : X w mX11_gather d Q 43 [l0, l1, l2, l3, l4] (.int x :: st) P := X_istore (M := mX11_gather) (dX11_gather_43) (by decide) rfl (xnl_p (ls := [l0, l1, l2, l3, l4]) (j := 3) rfl hn) k
theorem dX11_gather_45 : decode cX11_gather 45 = .ok (.iload 4, 2) := by decide +kernel
theorem sX11_gather_45 {l0 l1 l2 l3 : Option Value} {x : Int32} (k : X w mX11_gather d Q 47 [l0, l1, l2, l3, some (.int x)] (.int x :: st) P) : X w mX11_gather d Q 45 [l0, l1, l2, l3, some (.int x)] st P := X_iload (M := mX11_gather) (dX11_gather_45) rfl k
theorem dX11_gather_47 : decode cX11_gather 47 = .ok (.ifCond .le 42, 3) := by decide +kernel
theorem sX11_gather_47 {x : Int32} (kt : x ≤ 0 → X w mX11_gather d Q 89 ls st P) (kf : ¬ x ≤ 0 → X w mX11_gather d Q 50 ls st P) : X w mX11_gather d Q 47 ls (.int x :: st) P := X_if_le (M := mX11_gather) (dX11_gather_47) (by decide) kt kf
theorem dX11_gather_50 : decode cX11_gather 50 = .ok (.aload_n 0, 1) := by decide +kernel
theorem sX11_gather_50 {l1 l2 l3 l4 : Option Value} {x : Nat} (k : X w mX11_gather d Q 51 [some (.ref x), l1, l2, l3, l4] (.ref x :: st) P) : X w mX11_gather d Q 50 [some (.ref x), l1, l2, l3, l4] st P := X_aload_n (M := mX11_gather) (dX11_gather_50) rfl rfl k
theorem dX11_gather_51 : decode cX11_gather 51 = .ok (.iload_n 3, 1) := by decide +kernel
theorem sX11_gather_51 {l0 l1 l2 l4 : Option Value} {x : Int32} (k : X w mX11_gather d Q 52 [l0, l1, l2, some (.int x), l4] (.int x :: st) P) : X w mX11_gather d Q 51 [l0, l1, l2, some (.int x), l4] st P := X_iload_n (M := mX11_gather) (dX11_gather_51) rfl rfl k
theorem dX11_gather_52 : decode cX11_gather 52 = .ok (.aload_n 0, 1) := by decide +kernel
theorem sX11_gather_52 {l1 l2 l3 l4 : Option Value} {x : Nat} (k : X w mX11_gather d Q 53 [some (.ref x), l1, l2, l3, l4] (.ref x :: st) P) : X w mX11_gather d Q 52 [some (.ref x), l1, l2, l3, l4] st P := X_aload_n (M := mX11_gather) (dX11_gather_52) rfl rfl k
theorem dX11_gather_53 : decode cX11_gather 53 = .ok (.getfield 81, 3) := by decide +kernel
theorem sX11_gather_53 {a : Nat} {fs : List Value} {v : Nat} (hP : P.1 a = some (xO 9 fs)) (hv : fs[36]? = some (.ref v)) (k : X w mX11_gather d Q 56 ls (.ref v :: st) P) : X w mX11_gather d Q 53 ls (.ref a :: st) P := X_get (M := mX11_gather) (j := 36) (T := TX11) (dX11_gather_53) rfl (by decide) x_in11 xw_427 hP hv k
theorem dX11_gather_56 : decode cX11_gather 56 = .ok (.iload 4, 2) := by decide +kernel
theorem sX11_gather_56 {l0 l1 l2 l3 : Option Value} {x : Int32} (k : X w mX11_gather d Q 58 [l0, l1, l2, l3, some (.int x)] (.int x :: st) P) : X w mX11_gather d Q 56 [l0, l1, l2, l3, some (.int x)] st P := X_iload (M := mX11_gather) (dX11_gather_56) rfl k
theorem dX11_gather_58 : decode cX11_gather 58 = .ok (.iconst 1, 1) := by decide +kernel
theorem sX11_gather_58 (k : X w mX11_gather d Q 59 ls (.int (1 : Int32) :: st) P) : X w mX11_gather d Q 58 ls st P := X_iconst (M := mX11_gather) (dX11_gather_58) (by decide) k
theorem dX11_gather_59 : decode cX11_gather 59 = .ok (.isub, 1) := by decide +kernel
theorem sX11_gather_59 {x y : Int32} (k : X w mX11_gather d Q 60 ls (.int (x - y) :: st) P) : X w mX11_gather d Q 59 ls (.int y :: .int x :: st) P := X_isub (M := mX11_gather) (dX11_gather_59) k
theorem dX11_gather_60 : decode cX11_gather 60 = .ok (.iaload, 1) := by decide +kernel
theorem sX11_gather_60 {a n : Nat} {f : Nat → Int32} {i : Int32} (hP : P.1 a = some (xA 0 n f)) (hi : vp_in i n) (k : X w mX11_gather d Q 61 ls (.int (f i.toNatClampNeg) :: st) P) : X w mX11_gather d Q 60 ls (.int i :: .ref a :: st) P := X_iald (M := mX11_gather) (dX11_gather_60) hP hi k
theorem dX11_gather_61 : decode cX11_gather 61 = .ok (.invokevirtual 273, 3) := by decide +kernel
theorem sX11_gather_61_g {b : Nat} {fs : List Value} {a0 : Int32} {a1 : Int32} {Qc : Outcome → xH → Prop} (hst : (st.map fun v => v.category).sum ≤ 8) (hP : P.1 b = some (xO 9 fs)) (hC : xC w d mX11_isBefore [.ref b, .int a0, .int a1] P Qc) (kr : ∀ v P1, Qc (.returned v) P1 → X w mX11_gather (d + 1) Q 64 ls (v.toList ++ st) P1) (kt : ∀ q P1, Qc (.threw q) P1 → Xt w mX11_gather (d + 1) Q 61 ls st P1 q) : X w mX11_gather (d + 1) Q 61 ls (.int a1 :: .int a0 :: .ref b :: st) P := X_callV (M := mX11_gather) (MC := mX11_isBefore) (As := [.int a0, .int a1]) (T := TX11) (dX11_gather_61) calX11_isBefore xw_558 xw_559 xw_560 rfl rfl hP hC hst kr kt
theorem sX11_gather_61 {b : Nat} {fs : List Value} {a0 : Int32} {a1 : Int32} {r : Int32} {P1 : xH} (hst : (st.map fun v => v.category).sum ≤ 8) (hP : P.1 b = some (xO 9 fs)) (hC : xC w d mX11_isBefore [.ref b, .int a0, .int a1] P (xRet (some (.int r)) P1)) (k : X w mX11_gather (d + 1) Q 64 ls (.int r :: st) P1) : X w mX11_gather (d + 1) Q 61 ls (.int a1 :: .int a0 :: .ref b :: st) P := X_callV (M := mX11_gather) (MC := mX11_isBefore) (As := [.int a0, .int a1]) (T := TX11) (dX11_gather_61) calX11_isBefore xw_558 xw_559 xw_560 rfl rfl hP hC hst (fun v P2 h => by obtain ⟨h1, rfl⟩ := h; cases h1; exact k) (fun q P2 h => by cases h.1)
theorem sX11_gather_61_r {b : Nat} {fs : List Value} {a0 : Int32} {a1 : Int32} {r : Int32} {Rp : xH → Prop} (hst : (st.map fun v => v.category).sum ≤ 8) (hP : P.1 b = some (xO 9 fs)) (hC : xC w d mX11_isBefore [.ref b, .int a0, .int a1] P (xRl (some (.int r)) Rp)) (k : ∀ P1, Rp P1 → X w mX11_gather (d + 1) Q 64 ls (.int r :: st) P1) : X w mX11_gather (d + 1) Q 61 ls (.int a1 :: .int a0 :: .ref b :: st) P := X_callV (M := mX11_gather) (MC := mX11_isBefore) (As := [.int a0, .int a1]) (T := TX11) (dX11_gather_61) calX11_isBefore xw_558 xw_559 xw_560 rfl rfl hP hC hst (fun v P2 h => by obtain ⟨h1, hR⟩ := h; cases h1; exact k P2 hR) (fun q P2 h => by cases h.1)
theorem sX11_gather_61_t {b : Nat} {fs : List Value} {a0 : Int32} {a1 : Int32} {q : Nat} {P1 : xH} (hst : (st.map fun v => v.category).sum ≤ 8) (hP : P.1 b = some (xO 9 fs)) (hC : xC w d mX11_isBefore [.ref b, .int a0, .int a1] P (xThr q P1)) (hq : Q (.threw q) P1) : X w mX11_gather (d + 1) Q 61 ls (.int a1 :: .int a0 :: .ref b :: st) P := X_callV (M := mX11_gather) (MC := mX11_isBefore) (As := [.int a0, .int a1]) (T := TX11) (dX11_gather_61) calX11_isBefore xw_558 xw_559 xw_560 rfl rfl hP hC hst (fun v P2 h => by cases h.1) (fun q2 P2 h => by obtain ⟨h1, rfl⟩ := h; cases h1; exact Xt_out rfl hq)
theorem dX11_gather_64 : decode cX11_gather 64 = .ok (.ifCond .eq 25, 3) := by decide +kernel
theorem sX11_gather_64 {x : Int32} (kt : x = 0 → X w mX11_gather d Q 89 ls st P) (kf : ¬ x = 0 → X w mX11_gather d Q 67 ls st P) : X w mX11_gather d Q 64 ls (.int x :: st) P := X_if_eq (M := mX11_gather) (dX11_gather_64) (by decide) kt kf
theorem dX11_gather_67 : decode cX11_gather 67 = .ok (.aload_n 0, 1) := by decide +kernel
theorem sX11_gather_67 {l1 l2 l3 l4 : Option Value} {x : Nat} (k : X w mX11_gather d Q 68 [some (.ref x), l1, l2, l3, l4] (.ref x :: st) P) : X w mX11_gather d Q 67 [some (.ref x), l1, l2, l3, l4] st P := X_aload_n (M := mX11_gather) (dX11_gather_67) rfl rfl k
theorem dX11_gather_68 : decode cX11_gather 68 = .ok (.getfield 81, 3) := by decide +kernel
theorem sX11_gather_68 {a : Nat} {fs : List Value} {v : Nat} (hP : P.1 a = some (xO 9 fs)) (hv : fs[36]? = some (.ref v)) (k : X w mX11_gather d Q 71 ls (.ref v :: st) P) : X w mX11_gather d Q 68 ls (.ref a :: st) P := X_get (M := mX11_gather) (j := 36) (T := TX11) (dX11_gather_68) rfl (by decide) x_in11 xw_427 hP hv k
theorem dX11_gather_71 : decode cX11_gather 71 = .ok (.iload 4, 2) := by decide +kernel
theorem sX11_gather_71 {l0 l1 l2 l3 : Option Value} {x : Int32} (k : X w mX11_gather d Q 73 [l0, l1, l2, l3, some (.int x)] (.int x :: st) P) : X w mX11_gather d Q 71 [l0, l1, l2, l3, some (.int x)] st P := X_iload (M := mX11_gather) (dX11_gather_71) rfl k
theorem dX11_gather_73 : decode cX11_gather 73 = .ok (.aload_n 0, 1) := by decide +kernel
theorem sX11_gather_73 {l1 l2 l3 l4 : Option Value} {x : Nat} (k : X w mX11_gather d Q 74 [some (.ref x), l1, l2, l3, l4] (.ref x :: st) P) : X w mX11_gather d Q 73 [some (.ref x), l1, l2, l3, l4] st P := X_aload_n (M := mX11_gather) (dX11_gather_73) rfl rfl k
theorem dX11_gather_74 : decode cX11_gather 74 = .ok (.getfield 81, 3) := by decide +kernel
theorem sX11_gather_74 {a : Nat} {fs : List Value} {v : Nat} (hP : P.1 a = some (xO 9 fs)) (hv : fs[36]? = some (.ref v)) (k : X w mX11_gather d Q 77 ls (.ref v :: st) P) : X w mX11_gather d Q 74 ls (.ref a :: st) P := X_get (M := mX11_gather) (j := 36) (T := TX11) (dX11_gather_74) rfl (by decide) x_in11 xw_427 hP hv k
theorem dX11_gather_77 : decode cX11_gather 77 = .ok (.iload 4, 2) := by decide +kernel
theorem sX11_gather_77 {l0 l1 l2 l3 : Option Value} {x : Int32} (k : X w mX11_gather d Q 79 [l0, l1, l2, l3, some (.int x)] (.int x :: st) P) : X w mX11_gather d Q 77 [l0, l1, l2, l3, some (.int x)] st P := X_iload (M := mX11_gather) (dX11_gather_77) rfl k
theorem dX11_gather_79 : decode cX11_gather 79 = .ok (.iconst 1, 1) := by decide +kernel
theorem sX11_gather_79 (k : X w mX11_gather d Q 80 ls (.int (1 : Int32) :: st) P) : X w mX11_gather d Q 79 ls st P := X_iconst (M := mX11_gather) (dX11_gather_79) (by decide) k
theorem dX11_gather_80 : decode cX11_gather 80 = .ok (.isub, 1) := by decide +kernel
theorem sX11_gather_80 {x y : Int32} (k : X w mX11_gather d Q 81 ls (.int (x - y) :: st) P) : X w mX11_gather d Q 80 ls (.int y :: .int x :: st) P := X_isub (M := mX11_gather) (dX11_gather_80) k
theorem dX11_gather_81 : decode cX11_gather 81 = .ok (.iaload, 1) := by decide +kernel
theorem sX11_gather_81 {a n : Nat} {f : Nat → Int32} {i : Int32} (hP : P.1 a = some (xA 0 n f)) (hi : vp_in i n) (k : X w mX11_gather d Q 82 ls (.int (f i.toNatClampNeg) :: st) P) : X w mX11_gather d Q 81 ls (.int i :: .ref a :: st) P := X_iald (M := mX11_gather) (dX11_gather_81) hP hi k
theorem dX11_gather_82 : decode cX11_gather 82 = .ok (.iastore, 1) := by decide +kernel
theorem sX11_gather_82 {a n : Nat} {f : Nat → Int32} {i x : Int32} (hP : P.1 a = some (xA 0 n f)) (hi : vp_in i n) (k : X w mX11_gather d Q 83 ls st (xs P a (xA 0 n (upd f i.toNatClampNeg x)))) : X w mX11_gather d Q 82 ls (.int x :: .int i :: .ref a :: st) P := X_iast (M := mX11_gather) (dX11_gather_82) hP hi k
theorem dX11_gather_83 : decode cX11_gather 83 = .ok (.iinc 4 (-1), 3) := by decide +kernel
theorem sX11_gather_83 {l0 l1 l2 l3 : Option Value} {x : Int32} (hn : xnl l3 = true) (k : X w mX11_gather d Q 86 [l0, l1, l2, l3, some (.int (x + (-1 : Int32)))] st P) : X w mX11_gather d Q 83 [l0, l1, l2, l3, some (.int x)] st P := X_iinc (M := mX11_gather) (dX11_gather_83) rfl (by rfl) (by decide) rfl (xnl_p (ls := [l0, l1, l2, l3, some (.int x)]) (j := 3) rfl hn) k
theorem dX11_gather_86 : decode cX11_gather 86 = .ok (.goto (-41), 3) := by decide +kernel
theorem sX11_gather_86 (k : X w mX11_gather d Q 45 ls st P) : X w mX11_gather d Q 86 ls st P := X_goto (M := mX11_gather) (dX11_gather_86) (by decide) k
theorem dX11_gather_89 : decode cX11_gather 89 = .ok (.aload_n 0, 1) := by decide +kernel
theorem sX11_gather_89 {l1 l2 l3 l4 : Option Value} {x : Nat} (k : X w mX11_gather d Q 90 [some (.ref x), l1, l2, l3, l4] (.ref x :: st) P) : X w mX11_gather d Q 89 [some (.ref x), l1, l2, l3, l4] st P := X_aload_n (M := mX11_gather) (dX11_gather_89) rfl rfl k
theorem dX11_gather_90 : decode cX11_gather 90 = .ok (.getfield 81, 3) := by decide +kernel
theorem sX11_gather_90 {a : Nat} {fs : List Value} {v : Nat} (hP : P.1 a = some (xO 9 fs)) (hv : fs[36]? = some (.ref v)) (k : X w mX11_gather d Q 93 ls (.ref v :: st) P) : X w mX11_gather d Q 90 ls (.ref a :: st) P := X_get (M := mX11_gather) (j := 36) (T := TX11) (dX11_gather_90) rfl (by decide) x_in11 xw_427 hP hv k
theorem dX11_gather_93 : decode cX11_gather 93 = .ok (.iload 4, 2) := by decide +kernel
theorem sX11_gather_93 {l0 l1 l2 l3 : Option Value} {x : Int32} (k : X w mX11_gather d Q 95 [l0, l1, l2, l3, some (.int x)] (.int x :: st) P) : X w mX11_gather d Q 93 [l0, l1, l2, l3, some (.int x)] st P := X_iload (M := mX11_gather) (dX11_gather_93) rfl k
theorem dX11_gather_95 : decode cX11_gather 95 = .ok (.iload_n 3, 1) := by decide +kernel
theorem sX11_gather_95 {l0 l1 l2 l4 : Option Value} {x : Int32} (k : X w mX11_gather d Q 96 [l0, l1, l2, some (.int x), l4] (.int x :: st) P) : X w mX11_gather d Q 95 [l0, l1, l2, some (.int x), l4] st P := X_iload_n (M := mX11_gather) (dX11_gather_95) rfl rfl k
theorem dX11_gather_96 : decode cX11_gather 96 = .ok (.iastore, 1) := by decide +kernel
theorem sX11_gather_96 {a n : Nat} {f : Nat → Int32} {i x : Int32} (hP : P.1 a = some (xA 0 n f)) (hi : vp_in i n) (k : X w mX11_gather d Q 97 ls st (xs P a (xA 0 n (upd f i.toNatClampNeg x)))) : X w mX11_gather d Q 96 ls (.int x :: .int i :: .ref a :: st) P := X_iast (M := mX11_gather) (dX11_gather_96) hP hi k
theorem dX11_gather_97 : decode cX11_gather 97 = .ok (.iinc 2 1, 3) := by decide +kernel
theorem sX11_gather_97 {l0 l1 l3 l4 : Option Value} {x : Int32} (hn : xnl l1 = true) (k : X w mX11_gather d Q 100 [l0, l1, some (.int (x + (1 : Int32))), l3, l4] st P) : X w mX11_gather d Q 97 [l0, l1, some (.int x), l3, l4] st P := X_iinc (M := mX11_gather) (dX11_gather_97) rfl (by rfl) (by decide) rfl (xnl_p (ls := [l0, l1, some (.int x), l3, l4]) (j := 1) rfl hn) k
theorem dX11_gather_100 : decode cX11_gather 100 = .ok (.iinc 3 1, 3) := by decide +kernel
theorem sX11_gather_100 {l0 l1 l2 l4 : Option Value} {x : Int32} (hn : xnl l2 = true) (k : X w mX11_gather d Q 103 [l0, l1, l2, some (.int (x + (1 : Int32))), l4] st P) : X w mX11_gather d Q 100 [l0, l1, l2, some (.int x), l4] st P := X_iinc (M := mX11_gather) (dX11_gather_100) rfl (by rfl) (by decide) rfl (xnl_p (ls := [l0, l1, l2, some (.int x), l4]) (j := 2) rfl hn) k
theorem dX11_gather_103 : decode cX11_gather 103 = .ok (.goto (-99), 3) := by decide +kernel
theorem sX11_gather_103 (k : X w mX11_gather d Q 4 ls st P) : X w mX11_gather d Q 103 ls st P := X_goto (M := mX11_gather) (dX11_gather_103) (by decide) k
theorem dX11_gather_106 : decode cX11_gather 106 = .ok (.iload_n 2, 1) := by decide +kernel
theorem sX11_gather_106 {l0 l1 l3 l4 : Option Value} {x : Int32} (k : X w mX11_gather d Q 107 [l0, l1, some (.int x), l3, l4] (.int x :: st) P) : X w mX11_gather d Q 106 [l0, l1, some (.int x), l3, l4] st P := X_iload_n (M := mX11_gather) (dX11_gather_106) rfl rfl k
theorem dX11_gather_107 : decode cX11_gather 107 = .ok (.ireturn, 1) := by decide +kernel
theorem sX11_gather_107 {v : Int32} (hq : Q (.returned (some (.int v))) P) : X w mX11_gather d Q 107 ls [.int v] P := X_iret (M := mX11_gather) (dX11_gather_107) rfl hq
theorem dX11_isBefore_0 : decode cX11_isBefore 0 = .ok (.aload_n 0, 1) := by decide +kernel
theorem sX11_isBefore_0 {l1 l2 l3 l4 : Option Value} {x : Nat} (k : X w mX11_isBefore d Q 1 [some (.ref x), l1, l2, l3, l4] (.ref x :: st) P) : X w mX11_isBefore d Q 0 [some (.ref x), l1, l2, l3, l4] st P := X_aload_n (M := mX11_isBefore) (dX11_isBefore_0) rfl rfl k
theorem dX11_isBefore_1 : decode cX11_isBefore 1 = .ok (.getfield 53, 3) := by decide +kernel
theorem sX11_isBefore_1 {a : Nat} {fs : List Value} {v : Nat} (hP : P.1 a = some (xO 9 fs)) (hv : fs[17]? = some (.ref v)) (k : X w mX11_isBefore d Q 4 ls (.ref v :: st) P) : X w mX11_isBefore d Q 1 ls (.ref a :: st) P := X_get (M := mX11_isBefore) (j := 17) (T := TX11) (dX11_isBefore_1) rfl (by decide) x_in11 xw_418 hP hv k
theorem dX11_isBefore_4 : decode cX11_isBefore 4 = .ok (.iconst 3, 1) := by decide +kernel
theorem sX11_isBefore_4 (k : X w mX11_isBefore d Q 5 ls (.int (3 : Int32) :: st) P) : X w mX11_isBefore d Q 4 ls st P := X_iconst (M := mX11_isBefore) (dX11_isBefore_4) (by decide) k
theorem dX11_isBefore_5 : decode cX11_isBefore 5 = .ok (.bipush 12, 2) := by decide +kernel
theorem sX11_isBefore_5 (k : X w mX11_isBefore d Q 7 ls (.int (12 : Int32) :: st) P) : X w mX11_isBefore d Q 5 ls st P := X_bipush (M := mX11_isBefore) (dX11_isBefore_5) (by decide) k
theorem dX11_isBefore_7 : decode cX11_isBefore 7 = .ok (.aload_n 0, 1) := by decide +kernel
theorem sX11_isBefore_7 {l1 l2 l3 l4 : Option Value} {x : Nat} (k : X w mX11_isBefore d Q 8 [some (.ref x), l1, l2, l3, l4] (.ref x :: st) P) : X w mX11_isBefore d Q 7 [some (.ref x), l1, l2, l3, l4] st P := X_aload_n (M := mX11_isBefore) (dX11_isBefore_7) rfl rfl k
theorem dX11_isBefore_8 : decode cX11_isBefore 8 = .ok (.getfield 226, 3) := by decide +kernel
theorem sX11_isBefore_8 {a : Nat} {fs : List Value} {v : Int32} (hP : P.1 a = some (xO 9 fs)) (hv : fs[3]? = some (.int v)) (k : X w mX11_isBefore d Q 11 ls (.int v :: st) P) : X w mX11_isBefore d Q 8 ls (.ref a :: st) P := X_get (M := mX11_isBefore) (j := 3) (T := TX11) (dX11_isBefore_8) rfl (by decide) x_in11 xw_521 hP hv k
theorem dX11_isBefore_11 : decode cX11_isBefore 11 = .ok (.imul, 1) := by decide +kernel
theorem sX11_isBefore_11 {x y : Int32} (k : X w mX11_isBefore d Q 12 ls (.int (x * y) :: st) P) : X w mX11_isBefore d Q 11 ls (.int y :: .int x :: st) P := X_imul (M := mX11_isBefore) (dX11_isBefore_11) k
theorem dX11_isBefore_12 : decode cX11_isBefore 12 = .ok (.iload_n 1, 1) := by decide +kernel
theorem sX11_isBefore_12 {l0 l2 l3 l4 : Option Value} {x : Int32} (k : X w mX11_isBefore d Q 13 [l0, some (.int x), l2, l3, l4] (.int x :: st) P) : X w mX11_isBefore d Q 12 [l0, some (.int x), l2, l3, l4] st P := X_iload_n (M := mX11_isBefore) (dX11_isBefore_12) rfl rfl k
theorem dX11_isBefore_13 : decode cX11_isBefore 13 = .ok (.iadd, 1) := by decide +kernel
theorem sX11_isBefore_13 {x y : Int32} (k : X w mX11_isBefore d Q 14 ls (.int (x + y) :: st) P) : X w mX11_isBefore d Q 13 ls (.int y :: .int x :: st) P := X_iadd (M := mX11_isBefore) (dX11_isBefore_13) k
theorem dX11_isBefore_14 : decode cX11_isBefore 14 = .ok (.imul, 1) := by decide +kernel
theorem sX11_isBefore_14 {x y : Int32} (k : X w mX11_isBefore d Q 15 ls (.int (x * y) :: st) P) : X w mX11_isBefore d Q 14 ls (.int y :: .int x :: st) P := X_imul (M := mX11_isBefore) (dX11_isBefore_14) k
theorem dX11_isBefore_15 : decode cX11_isBefore 15 = .ok (.iaload, 1) := by decide +kernel
theorem sX11_isBefore_15 {a n : Nat} {f : Nat → Int32} {i : Int32} (hP : P.1 a = some (xA 0 n f)) (hi : vp_in i n) (k : X w mX11_isBefore d Q 16 ls (.int (f i.toNatClampNeg) :: st) P) : X w mX11_isBefore d Q 15 ls (.int i :: .ref a :: st) P := X_iald (M := mX11_isBefore) (dX11_isBefore_15) hP hi k
theorem dX11_isBefore_16 : decode cX11_isBefore 16 = .ok (.istore_n 3, 1) := by decide +kernel
theorem sX11_isBefore_16 {l0 l1 l2 l3 l4 : Option Value} {x : Int32} (hn : xnl l2 = true) (k : X w mX11_isBefore d Q 17 [l0, l1, l2, some (.int x), l4] st P) : X w mX11_isBefore d Q 16 [l0, l1, l2, l3, l4] (.int x :: st) P := X_istore_n (M := mX11_isBefore) (dX11_isBefore_16) rfl (by decide) rfl (xnl_p (ls := [l0, l1, l2, l3, l4]) (j := 2) rfl hn) k
theorem dX11_isBefore_17 : decode cX11_isBefore 17 = .ok (.aload_n 0, 1) := by decide +kernel
theorem sX11_isBefore_17 {l1 l2 l3 l4 : Option Value} {x : Nat} (k : X w mX11_isBefore d Q 18 [some (.ref x), l1, l2, l3, l4] (.ref x :: st) P) : X w mX11_isBefore d Q 17 [some (.ref x), l1, l2, l3, l4] st P := X_aload_n (M := mX11_isBefore) (dX11_isBefore_17) rfl rfl k
theorem dX11_isBefore_18 : decode cX11_isBefore 18 = .ok (.getfield 53, 3) := by decide +kernel
theorem sX11_isBefore_18 {a : Nat} {fs : List Value} {v : Nat} (hP : P.1 a = some (xO 9 fs)) (hv : fs[17]? = some (.ref v)) (k : X w mX11_isBefore d Q 21 ls (.ref v :: st) P) : X w mX11_isBefore d Q 18 ls (.ref a :: st) P := X_get (M := mX11_isBefore) (j := 17) (T := TX11) (dX11_isBefore_18) rfl (by decide) x_in11 xw_418 hP hv k
theorem dX11_isBefore_21 : decode cX11_isBefore 21 = .ok (.iconst 3, 1) := by decide +kernel
theorem sX11_isBefore_21 (k : X w mX11_isBefore d Q 22 ls (.int (3 : Int32) :: st) P) : X w mX11_isBefore d Q 21 ls st P := X_iconst (M := mX11_isBefore) (dX11_isBefore_21) (by decide) k
theorem dX11_isBefore_22 : decode cX11_isBefore 22 = .ok (.bipush 12, 2) := by decide +kernel
theorem sX11_isBefore_22 (k : X w mX11_isBefore d Q 24 ls (.int (12 : Int32) :: st) P) : X w mX11_isBefore d Q 22 ls st P := X_bipush (M := mX11_isBefore) (dX11_isBefore_22) (by decide) k
theorem dX11_isBefore_24 : decode cX11_isBefore 24 = .ok (.aload_n 0, 1) := by decide +kernel
theorem sX11_isBefore_24 {l1 l2 l3 l4 : Option Value} {x : Nat} (k : X w mX11_isBefore d Q 25 [some (.ref x), l1, l2, l3, l4] (.ref x :: st) P) : X w mX11_isBefore d Q 24 [some (.ref x), l1, l2, l3, l4] st P := X_aload_n (M := mX11_isBefore) (dX11_isBefore_24) rfl rfl k
theorem dX11_isBefore_25 : decode cX11_isBefore 25 = .ok (.getfield 226, 3) := by decide +kernel
theorem sX11_isBefore_25 {a : Nat} {fs : List Value} {v : Int32} (hP : P.1 a = some (xO 9 fs)) (hv : fs[3]? = some (.int v)) (k : X w mX11_isBefore d Q 28 ls (.int v :: st) P) : X w mX11_isBefore d Q 25 ls (.ref a :: st) P := X_get (M := mX11_isBefore) (j := 3) (T := TX11) (dX11_isBefore_25) rfl (by decide) x_in11 xw_521 hP hv k
theorem dX11_isBefore_28 : decode cX11_isBefore 28 = .ok (.imul, 1) := by decide +kernel
theorem sX11_isBefore_28 {x y : Int32} (k : X w mX11_isBefore d Q 29 ls (.int (x * y) :: st) P) : X w mX11_isBefore d Q 28 ls (.int y :: .int x :: st) P := X_imul (M := mX11_isBefore) (dX11_isBefore_28) k
theorem dX11_isBefore_29 : decode cX11_isBefore 29 = .ok (.iload_n 2, 1) := by decide +kernel
theorem sX11_isBefore_29 {l0 l1 l3 l4 : Option Value} {x : Int32} (k : X w mX11_isBefore d Q 30 [l0, l1, some (.int x), l3, l4] (.int x :: st) P) : X w mX11_isBefore d Q 29 [l0, l1, some (.int x), l3, l4] st P := X_iload_n (M := mX11_isBefore) (dX11_isBefore_29) rfl rfl k
theorem dX11_isBefore_30 : decode cX11_isBefore 30 = .ok (.iadd, 1) := by decide +kernel
theorem sX11_isBefore_30 {x y : Int32} (k : X w mX11_isBefore d Q 31 ls (.int (x + y) :: st) P) : X w mX11_isBefore d Q 30 ls (.int y :: .int x :: st) P := X_iadd (M := mX11_isBefore) (dX11_isBefore_30) k
theorem dX11_isBefore_31 : decode cX11_isBefore 31 = .ok (.imul, 1) := by decide +kernel
theorem sX11_isBefore_31 {x y : Int32} (k : X w mX11_isBefore d Q 32 ls (.int (x * y) :: st) P) : X w mX11_isBefore d Q 31 ls (.int y :: .int x :: st) P := X_imul (M := mX11_isBefore) (dX11_isBefore_31) k
theorem dX11_isBefore_32 : decode cX11_isBefore 32 = .ok (.iaload, 1) := by decide +kernel
theorem sX11_isBefore_32 {a n : Nat} {f : Nat → Int32} {i : Int32} (hP : P.1 a = some (xA 0 n f)) (hi : vp_in i n) (k : X w mX11_isBefore d Q 33 ls (.int (f i.toNatClampNeg) :: st) P) : X w mX11_isBefore d Q 32 ls (.int i :: .ref a :: st) P := X_iald (M := mX11_isBefore) (dX11_isBefore_32) hP hi k
theorem dX11_isBefore_33 : decode cX11_isBefore 33 = .ok (.istore 4, 2) := by decide +kernel
theorem sX11_isBefore_33 {l0 l1 l2 l3 l4 : Option Value} {x : Int32} (hn : xnl l3 = true) (k : X w mX11_isBefore d Q 35 [l0, l1, l2, l3, some (.int x)] st P) : X w mX11_isBefore d Q 33 [l0, l1, l2, l3, l4] (.int x :: st) P := X_istore (M := mX11_isBefore) (dX11_isBefore_33) (by decide) rfl (xnl_p (ls := [l0, l1, l2, l3, l4]) (j := 3) rfl hn) k
theorem dX11_isBefore_35 : decode cX11_isBefore 35 = .ok (.iload_n 3, 1) := by decide +kernel
theorem sX11_isBefore_35 {l0 l1 l2 l4 : Option Value} {x : Int32} (k : X w mX11_isBefore d Q 36 [l0, l1, l2, some (.int x), l4] (.int x :: st) P) : X w mX11_isBefore d Q 35 [l0, l1, l2, some (.int x), l4] st P := X_iload_n (M := mX11_isBefore) (dX11_isBefore_35) rfl rfl k
theorem dX11_isBefore_36 : decode cX11_isBefore 36 = .ok (.iload 4, 2) := by decide +kernel
theorem sX11_isBefore_36 {l0 l1 l2 l3 : Option Value} {x : Int32} (k : X w mX11_isBefore d Q 38 [l0, l1, l2, l3, some (.int x)] (.int x :: st) P) : X w mX11_isBefore d Q 36 [l0, l1, l2, l3, some (.int x)] st P := X_iload (M := mX11_isBefore) (dX11_isBefore_36) rfl k
theorem dX11_isBefore_38 : decode cX11_isBefore 38 = .ok (.if_icmp .eq 17, 3) := by decide +kernel
theorem sX11_isBefore_38 {x y : Int32} (kt : x = y → X w mX11_isBefore d Q 55 ls st P) (kf : ¬ x = y → X w mX11_isBefore d Q 41 ls st P) : X w mX11_isBefore d Q 38 ls (.int y :: .int x :: st) P := X_icmp_eq (M := mX11_isBefore) (dX11_isBefore_38) (by decide) kt kf
theorem dX11_isBefore_41 : decode cX11_isBefore 41 = .ok (.iload_n 3, 1) := by decide +kernel
theorem sX11_isBefore_41 {l0 l1 l2 l4 : Option Value} {x : Int32} (k : X w mX11_isBefore d Q 42 [l0, l1, l2, some (.int x), l4] (.int x :: st) P) : X w mX11_isBefore d Q 41 [l0, l1, l2, some (.int x), l4] st P := X_iload_n (M := mX11_isBefore) (dX11_isBefore_41) rfl rfl k
theorem dX11_isBefore_42 : decode cX11_isBefore 42 = .ok (.iload 4, 2) := by decide +kernel
theorem sX11_isBefore_42 {l0 l1 l2 l3 : Option Value} {x : Int32} (k : X w mX11_isBefore d Q 44 [l0, l1, l2, l3, some (.int x)] (.int x :: st) P) : X w mX11_isBefore d Q 42 [l0, l1, l2, l3, some (.int x)] st P := X_iload (M := mX11_isBefore) (dX11_isBefore_42) rfl k
theorem dX11_isBefore_44 : decode cX11_isBefore 44 = .ok (.if_icmp .ge 7, 3) := by decide +kernel
theorem sX11_isBefore_44 {x y : Int32} (kt : y ≤ x → X w mX11_isBefore d Q 51 ls st P) (kf : ¬ y ≤ x → X w mX11_isBefore d Q 47 ls st P) : X w mX11_isBefore d Q 44 ls (.int y :: .int x :: st) P := X_icmp_ge (M := mX11_isBefore) (dX11_isBefore_44) (by decide) kt kf
theorem dX11_isBefore_47 : decode cX11_isBefore 47 = .ok (.iconst 1, 1) := by decide +kernel
theorem sX11_isBefore_47 (k : X w mX11_isBefore d Q 48 ls (.int (1 : Int32) :: st) P) : X w mX11_isBefore d Q 47 ls st P := X_iconst (M := mX11_isBefore) (dX11_isBefore_47) (by decide) k
theorem dX11_isBefore_48 : decode cX11_isBefore 48 = .ok (.goto 44, 3) := by decide +kernel
theorem sX11_isBefore_48 (k : X w mX11_isBefore d Q 92 ls st P) : X w mX11_isBefore d Q 48 ls st P := X_goto (M := mX11_isBefore) (dX11_isBefore_48) (by decide) k
theorem dX11_isBefore_51 : decode cX11_isBefore 51 = .ok (.iconst 0, 1) := by decide +kernel
theorem sX11_isBefore_51 (k : X w mX11_isBefore d Q 52 ls (.int (0 : Int32) :: st) P) : X w mX11_isBefore d Q 51 ls st P := X_iconst (M := mX11_isBefore) (dX11_isBefore_51) (by decide) k
theorem dX11_isBefore_52 : decode cX11_isBefore 52 = .ok (.goto 40, 3) := by decide +kernel
theorem sX11_isBefore_52 (k : X w mX11_isBefore d Q 92 ls st P) : X w mX11_isBefore d Q 52 ls st P := X_goto (M := mX11_isBefore) (dX11_isBefore_52) (by decide) k
theorem dX11_isBefore_55 : decode cX11_isBefore 55 = .ok (.aload_n 0, 1) := by decide +kernel
theorem sX11_isBefore_55 {l1 l2 l3 l4 : Option Value} {x : Nat} (k : X w mX11_isBefore d Q 56 [some (.ref x), l1, l2, l3, l4] (.ref x :: st) P) : X w mX11_isBefore d Q 55 [some (.ref x), l1, l2, l3, l4] st P := X_aload_n (M := mX11_isBefore) (dX11_isBefore_55) rfl rfl k
theorem dX11_isBefore_56 : decode cX11_isBefore 56 = .ok (.getfield 38, 3) := by decide +kernel
theorem sX11_isBefore_56 {a : Nat} {fs : List Value} {v : Nat} (hP : P.1 a = some (xO 9 fs)) (hv : fs[12]? = some (.ref v)) (k : X w mX11_isBefore d Q 59 ls (.ref v :: st) P) : X w mX11_isBefore d Q 56 ls (.ref a :: st) P := X_get (M := mX11_isBefore) (j := 12) (T := TX11) (dX11_isBefore_56) rfl (by decide) x_in11 xw_413 hP hv k
theorem dX11_isBefore_59 : decode cX11_isBefore 59 = .ok (.bipush 12, 2) := by decide +kernel
theorem sX11_isBefore_59 (k : X w mX11_isBefore d Q 61 ls (.int (12 : Int32) :: st) P) : X w mX11_isBefore d Q 59 ls st P := X_bipush (M := mX11_isBefore) (dX11_isBefore_59) (by decide) k
theorem dX11_isBefore_61 : decode cX11_isBefore 61 = .ok (.aload_n 0, 1) := by decide +kernel
theorem sX11_isBefore_61 {l1 l2 l3 l4 : Option Value} {x : Nat} (k : X w mX11_isBefore d Q 62 [some (.ref x), l1, l2, l3, l4] (.ref x :: st) P) : X w mX11_isBefore d Q 61 [some (.ref x), l1, l2, l3, l4] st P := X_aload_n (M := mX11_isBefore) (dX11_isBefore_61) rfl rfl k
theorem dX11_isBefore_62 : decode cX11_isBefore 62 = .ok (.getfield 226, 3) := by decide +kernel
theorem sX11_isBefore_62 {a : Nat} {fs : List Value} {v : Int32} (hP : P.1 a = some (xO 9 fs)) (hv : fs[3]? = some (.int v)) (k : X w mX11_isBefore d Q 65 ls (.int v :: st) P) : X w mX11_isBefore d Q 62 ls (.ref a :: st) P := X_get (M := mX11_isBefore) (j := 3) (T := TX11) (dX11_isBefore_62) rfl (by decide) x_in11 xw_521 hP hv k
theorem dX11_isBefore_65 : decode cX11_isBefore 65 = .ok (.imul, 1) := by decide +kernel
theorem sX11_isBefore_65 {x y : Int32} (k : X w mX11_isBefore d Q 66 ls (.int (x * y) :: st) P) : X w mX11_isBefore d Q 65 ls (.int y :: .int x :: st) P := X_imul (M := mX11_isBefore) (dX11_isBefore_65) k
theorem dX11_isBefore_66 : decode cX11_isBefore 66 = .ok (.iload_n 1, 1) := by decide +kernel
theorem sX11_isBefore_66 {l0 l2 l3 l4 : Option Value} {x : Int32} (k : X w mX11_isBefore d Q 67 [l0, some (.int x), l2, l3, l4] (.int x :: st) P) : X w mX11_isBefore d Q 66 [l0, some (.int x), l2, l3, l4] st P := X_iload_n (M := mX11_isBefore) (dX11_isBefore_66) rfl rfl k
theorem dX11_isBefore_67 : decode cX11_isBefore 67 = .ok (.iadd, 1) := by decide +kernel
theorem sX11_isBefore_67 {x y : Int32} (k : X w mX11_isBefore d Q 68 ls (.int (x + y) :: st) P) : X w mX11_isBefore d Q 67 ls (.int y :: .int x :: st) P := X_iadd (M := mX11_isBefore) (dX11_isBefore_67) k
theorem dX11_isBefore_68 : decode cX11_isBefore 68 = .ok (.laload, 1) := by decide +kernel
theorem sX11_isBefore_68 {a n : Nat} {f : Nat → Int64} {i : Int32} (hP : P.1 a = some (xJ n f)) (hi : vp_in i n) (k : X w mX11_isBefore d Q 69 ls (.long (f i.toNatClampNeg) :: st) P) : X w mX11_isBefore d Q 68 ls (.int i :: .ref a :: st) P := X_lald (M := mX11_isBefore) (dX11_isBefore_68) hP hi k
theorem dX11_isBefore_69 : decode cX11_isBefore 69 = .ok (.aload_n 0, 1) := by decide +kernel
theorem sX11_isBefore_69 {l1 l2 l3 l4 : Option Value} {x : Nat} (k : X w mX11_isBefore d Q 70 [some (.ref x), l1, l2, l3, l4] (.ref x :: st) P) : X w mX11_isBefore d Q 69 [some (.ref x), l1, l2, l3, l4] st P := X_aload_n (M := mX11_isBefore) (dX11_isBefore_69) rfl rfl k
theorem dX11_isBefore_70 : decode cX11_isBefore 70 = .ok (.getfield 38, 3) := by decide +kernel
theorem sX11_isBefore_70 {a : Nat} {fs : List Value} {v : Nat} (hP : P.1 a = some (xO 9 fs)) (hv : fs[12]? = some (.ref v)) (k : X w mX11_isBefore d Q 73 ls (.ref v :: st) P) : X w mX11_isBefore d Q 70 ls (.ref a :: st) P := X_get (M := mX11_isBefore) (j := 12) (T := TX11) (dX11_isBefore_70) rfl (by decide) x_in11 xw_413 hP hv k
theorem dX11_isBefore_73 : decode cX11_isBefore 73 = .ok (.bipush 12, 2) := by decide +kernel
theorem sX11_isBefore_73 (k : X w mX11_isBefore d Q 75 ls (.int (12 : Int32) :: st) P) : X w mX11_isBefore d Q 73 ls st P := X_bipush (M := mX11_isBefore) (dX11_isBefore_73) (by decide) k
theorem dX11_isBefore_75 : decode cX11_isBefore 75 = .ok (.aload_n 0, 1) := by decide +kernel
theorem sX11_isBefore_75 {l1 l2 l3 l4 : Option Value} {x : Nat} (k : X w mX11_isBefore d Q 76 [some (.ref x), l1, l2, l3, l4] (.ref x :: st) P) : X w mX11_isBefore d Q 75 [some (.ref x), l1, l2, l3, l4] st P := X_aload_n (M := mX11_isBefore) (dX11_isBefore_75) rfl rfl k
theorem dX11_isBefore_76 : decode cX11_isBefore 76 = .ok (.getfield 226, 3) := by decide +kernel
theorem sX11_isBefore_76 {a : Nat} {fs : List Value} {v : Int32} (hP : P.1 a = some (xO 9 fs)) (hv : fs[3]? = some (.int v)) (k : X w mX11_isBefore d Q 79 ls (.int v :: st) P) : X w mX11_isBefore d Q 76 ls (.ref a :: st) P := X_get (M := mX11_isBefore) (j := 3) (T := TX11) (dX11_isBefore_76) rfl (by decide) x_in11 xw_521 hP hv k
theorem dX11_isBefore_79 : decode cX11_isBefore 79 = .ok (.imul, 1) := by decide +kernel
theorem sX11_isBefore_79 {x y : Int32} (k : X w mX11_isBefore d Q 80 ls (.int (x * y) :: st) P) : X w mX11_isBefore d Q 79 ls (.int y :: .int x :: st) P := X_imul (M := mX11_isBefore) (dX11_isBefore_79) k
theorem dX11_isBefore_80 : decode cX11_isBefore 80 = .ok (.iload_n 2, 1) := by decide +kernel
theorem sX11_isBefore_80 {l0 l1 l3 l4 : Option Value} {x : Int32} (k : X w mX11_isBefore d Q 81 [l0, l1, some (.int x), l3, l4] (.int x :: st) P) : X w mX11_isBefore d Q 80 [l0, l1, some (.int x), l3, l4] st P := X_iload_n (M := mX11_isBefore) (dX11_isBefore_80) rfl rfl k
theorem dX11_isBefore_81 : decode cX11_isBefore 81 = .ok (.iadd, 1) := by decide +kernel
theorem sX11_isBefore_81 {x y : Int32} (k : X w mX11_isBefore d Q 82 ls (.int (x + y) :: st) P) : X w mX11_isBefore d Q 81 ls (.int y :: .int x :: st) P := X_iadd (M := mX11_isBefore) (dX11_isBefore_81) k
theorem dX11_isBefore_82 : decode cX11_isBefore 82 = .ok (.laload, 1) := by decide +kernel
theorem sX11_isBefore_82 {a n : Nat} {f : Nat → Int64} {i : Int32} (hP : P.1 a = some (xJ n f)) (hi : vp_in i n) (k : X w mX11_isBefore d Q 83 ls (.long (f i.toNatClampNeg) :: st) P) : X w mX11_isBefore d Q 82 ls (.int i :: .ref a :: st) P := X_lald (M := mX11_isBefore) (dX11_isBefore_82) hP hi k
theorem dX11_isBefore_83 : decode cX11_isBefore 83 = .ok (.lcmp, 1) := by decide +kernel
theorem sX11_isBefore_83 {x y : Int64} (k : X w mX11_isBefore d Q 84 ls (.int (lg_cmp x y) :: st) P) : X w mX11_isBefore d Q 83 ls (.long y :: .long x :: st) P := X_lcmp (M := mX11_isBefore) (dX11_isBefore_83) k
theorem dX11_isBefore_84 : decode cX11_isBefore 84 = .ok (.ifCond .ge 7, 3) := by decide +kernel
theorem sX11_isBefore_84 {x : Int32} (kt : 0 ≤ x → X w mX11_isBefore d Q 91 ls st P) (kf : ¬ 0 ≤ x → X w mX11_isBefore d Q 87 ls st P) : X w mX11_isBefore d Q 84 ls (.int x :: st) P := X_if_ge (M := mX11_isBefore) (dX11_isBefore_84) (by decide) kt kf
theorem dX11_isBefore_87 : decode cX11_isBefore 87 = .ok (.iconst 1, 1) := by decide +kernel
theorem sX11_isBefore_87 (k : X w mX11_isBefore d Q 88 ls (.int (1 : Int32) :: st) P) : X w mX11_isBefore d Q 87 ls st P := X_iconst (M := mX11_isBefore) (dX11_isBefore_87) (by decide) k
theorem dX11_isBefore_88 : decode cX11_isBefore 88 = .ok (.goto 4, 3) := by decide +kernel
theorem sX11_isBefore_88 (k : X w mX11_isBefore d Q 92 ls st P) : X w mX11_isBefore d Q 88 ls st P := X_goto (M := mX11_isBefore) (dX11_isBefore_88) (by decide) k
theorem dX11_isBefore_91 : decode cX11_isBefore 91 = .ok (.iconst 0, 1) := by decide +kernel
theorem sX11_isBefore_91 (k : X w mX11_isBefore d Q 92 ls (.int (0 : Int32) :: st) P) : X w mX11_isBefore d Q 91 ls st P := X_iconst (M := mX11_isBefore) (dX11_isBefore_91) (by decide) k
theorem dX11_isBefore_92 : decode cX11_isBefore 92 = .ok (.ireturn, 1) := by decide +kernel
theorem sX11_isBefore_92 {v : Int32} (hb : v = 0 ∨ v = 1) (hq : Q (.returned (some (.int v))) P) : X w mX11_isBefore d Q 92 ls [.int v] P := X_zret (M := mX11_isBefore) (ty := .boolean) (dX11_isBefore_92) rfl (xz_n hb) hq
theorem dX11_family_0 : decode cX11_family 0 = .ok (.aload_n 0, 1) := by decide +kernel
theorem sX11_family_0 {l1 l2 : Option Value} {x : Nat} (k : X w mX11_family d Q 1 [some (.ref x), l1, l2] (.ref x :: st) P) : X w mX11_family d Q 0 [some (.ref x), l1, l2] st P := X_aload_n (M := mX11_family) (dX11_family_0) rfl rfl k
theorem dX11_family_1 : decode cX11_family 1 = .ok (.aload_n 0, 1) := by decide +kernel
theorem sX11_family_1 {l1 l2 : Option Value} {x : Nat} (k : X w mX11_family d Q 2 [some (.ref x), l1, l2] (.ref x :: st) P) : X w mX11_family d Q 1 [some (.ref x), l1, l2] st P := X_aload_n (M := mX11_family) (dX11_family_1) rfl rfl k
theorem dX11_family_2 : decode cX11_family 2 = .ok (.iload_n 1, 1) := by decide +kernel
theorem sX11_family_2 {l0 l2 : Option Value} {x : Int32} (k : X w mX11_family d Q 3 [l0, some (.int x), l2] (.int x :: st) P) : X w mX11_family d Q 2 [l0, some (.int x), l2] st P := X_iload_n (M := mX11_family) (dX11_family_2) rfl rfl k
theorem dX11_family_3 : decode cX11_family 3 = .ok (.invokevirtual 238, 3) := by decide +kernel
theorem sX11_family_3_g {b : Nat} {fs : List Value} {a0 : Int32} {Qc : Outcome → xH → Prop} (hst : (st.map fun v => v.category).sum ≤ 8) (hP : P.1 b = some (xO 9 fs)) (hC : xC w d mX11_isCell [.ref b, .int a0] P Qc) (kr : ∀ v P1, Qc (.returned v) P1 → X w mX11_family (d + 1) Q 6 ls (v.toList ++ st) P1) (kt : ∀ q P1, Qc (.threw q) P1 → Xt w mX11_family (d + 1) Q 3 ls st P1 q) : X w mX11_family (d + 1) Q 3 ls (.int a0 :: .ref b :: st) P := X_callV (M := mX11_family) (MC := mX11_isCell) (As := [.int a0]) (T := TX11) (dX11_family_3) calX11_isCell xw_530 xw_531 xw_532 rfl rfl hP hC hst kr kt
theorem sX11_family_3 {b : Nat} {fs : List Value} {a0 : Int32} {r : Int32} {P1 : xH} (hst : (st.map fun v => v.category).sum ≤ 8) (hP : P.1 b = some (xO 9 fs)) (hC : xC w d mX11_isCell [.ref b, .int a0] P (xRet (some (.int r)) P1)) (k : X w mX11_family (d + 1) Q 6 ls (.int r :: st) P1) : X w mX11_family (d + 1) Q 3 ls (.int a0 :: .ref b :: st) P := X_callV (M := mX11_family) (MC := mX11_isCell) (As := [.int a0]) (T := TX11) (dX11_family_3) calX11_isCell xw_530 xw_531 xw_532 rfl rfl hP hC hst (fun v P2 h => by obtain ⟨h1, rfl⟩ := h; cases h1; exact k) (fun q P2 h => by cases h.1)
theorem sX11_family_3_r {b : Nat} {fs : List Value} {a0 : Int32} {r : Int32} {Rp : xH → Prop} (hst : (st.map fun v => v.category).sum ≤ 8) (hP : P.1 b = some (xO 9 fs)) (hC : xC w d mX11_isCell [.ref b, .int a0] P (xRl (some (.int r)) Rp)) (k : ∀ P1, Rp P1 → X w mX11_family (d + 1) Q 6 ls (.int r :: st) P1) : X w mX11_family (d + 1) Q 3 ls (.int a0 :: .ref b :: st) P := X_callV (M := mX11_family) (MC := mX11_isCell) (As := [.int a0]) (T := TX11) (dX11_family_3) calX11_isCell xw_530 xw_531 xw_532 rfl rfl hP hC hst (fun v P2 h => by obtain ⟨h1, hR⟩ := h; cases h1; exact k P2 hR) (fun q P2 h => by cases h.1)
theorem sX11_family_3_t {b : Nat} {fs : List Value} {a0 : Int32} {q : Nat} {P1 : xH} (hst : (st.map fun v => v.category).sum ≤ 8) (hP : P.1 b = some (xO 9 fs)) (hC : xC w d mX11_isCell [.ref b, .int a0] P (xThr q P1)) (hq : Q (.threw q) P1) : X w mX11_family (d + 1) Q 3 ls (.int a0 :: .ref b :: st) P := X_callV (M := mX11_family) (MC := mX11_isCell) (As := [.int a0]) (T := TX11) (dX11_family_3) calX11_isCell xw_530 xw_531 xw_532 rfl rfl hP hC hst (fun v P2 h => by cases h.1) (fun q2 P2 h => by obtain ⟨h1, rfl⟩ := h; cases h1; exact Xt_out rfl hq)
theorem dX11_family_6 : decode cX11_family 6 = .ok (.ifCond .eq 7, 3) := by decide +kernel
theorem sX11_family_6 {x : Int32} (kt : x = 0 → X w mX11_family d Q 13 ls st P) (kf : ¬ x = 0 → X w mX11_family d Q 9 ls st P) : X w mX11_family d Q 6 ls (.int x :: st) P := X_if_eq (M := mX11_family) (dX11_family_6) (by decide) kt kf
theorem dX11_family_9 : decode cX11_family 9 = .ok (.iload_n 2, 1) := by decide +kernel
theorem sX11_family_9 {l0 l1 : Option Value} {x : Int32} (k : X w mX11_family d Q 10 [l0, l1, some (.int x)] (.int x :: st) P) : X w mX11_family d Q 9 [l0, l1, some (.int x)] st P := X_iload_n (M := mX11_family) (dX11_family_9) rfl rfl k
theorem dX11_family_10 : decode cX11_family 10 = .ok (.ifCond .ge 7, 3) := by decide +kernel
theorem sX11_family_10 {x : Int32} (kt : 0 ≤ x → X w mX11_family d Q 17 ls st P) (kf : ¬ 0 ≤ x → X w mX11_family d Q 13 ls st P) : X w mX11_family d Q 10 ls (.int x :: st) P := X_if_ge (M := mX11_family) (dX11_family_10) (by decide) kt kf
theorem dX11_family_13 : decode cX11_family 13 = .ok (.iconst 1, 1) := by decide +kernel
theorem sX11_family_13 (k : X w mX11_family d Q 14 ls (.int (1 : Int32) :: st) P) : X w mX11_family d Q 13 ls st P := X_iconst (M := mX11_family) (dX11_family_13) (by decide) k
theorem dX11_family_14 : decode cX11_family 14 = .ok (.goto 4, 3) := by decide +kernel
theorem sX11_family_14 (k : X w mX11_family d Q 18 ls st P) : X w mX11_family d Q 14 ls st P := X_goto (M := mX11_family) (dX11_family_14) (by decide) k
theorem dX11_family_17 : decode cX11_family 17 = .ok (.iconst 0, 1) := by decide +kernel
theorem sX11_family_17 (k : X w mX11_family d Q 18 ls (.int (0 : Int32) :: st) P) : X w mX11_family d Q 17 ls st P := X_iconst (M := mX11_family) (dX11_family_17) (by decide) k
theorem dX11_family_18 : decode cX11_family 18 = .ok (.putfield 84, 3) := by decide +kernel
theorem sX11_family_18 {a : Nat} {fs : List Value} {v : Int32} (hP : P.1 a = some (xO 9 fs)) (hl : 0 < fs.length) (k : X w mX11_family d Q 21 ls st (xs P a (xO 9 (fs.set 0 (.int v))))) : X w mX11_family d Q 18 ls (.int v :: .ref a :: st) P := X_put (M := mX11_family) (j := 0) (T := TX11) (dX11_family_18) rfl (by decide) x_c11 xw_428 rfl hP rfl rfl hl k
theorem dX11_family_21 : decode cX11_family 21 = .ok (.aload_n 0, 1) := by decide +kernel
theorem sX11_family_21 {l1 l2 : Option Value} {x : Nat} (k : X w mX11_family d Q 22 [some (.ref x), l1, l2] (.ref x :: st) P) : X w mX11_family d Q 21 [some (.ref x), l1, l2] st P := X_aload_n (M := mX11_family) (dX11_family_21) rfl rfl k
theorem dX11_family_22 : decode cX11_family 22 = .ok (.getfield 84, 3) := by decide +kernel
theorem sX11_family_22 {a : Nat} {fs : List Value} {v : Int32} (hP : P.1 a = some (xO 9 fs)) (hv : fs[0]? = some (.int v)) (k : X w mX11_family d Q 25 ls (.int v :: st) P) : X w mX11_family d Q 22 ls (.ref a :: st) P := X_get (M := mX11_family) (j := 0) (T := TX11) (dX11_family_22) rfl (by decide) x_in11 xw_428 hP hv k
theorem dX11_family_25 : decode cX11_family 25 = .ok (.ifCond .le 5, 3) := by decide +kernel
theorem sX11_family_25 {x : Int32} (kt : x ≤ 0 → X w mX11_family d Q 30 ls st P) (kf : ¬ x ≤ 0 → X w mX11_family d Q 28 ls st P) : X w mX11_family d Q 25 ls (.int x :: st) P := X_if_le (M := mX11_family) (dX11_family_25) (by decide) kt kf
theorem dX11_family_28 : decode cX11_family 28 = .ok (.iconst 0, 1) := by decide +kernel
theorem sX11_family_28 (k : X w mX11_family d Q 29 ls (.int (0 : Int32) :: st) P) : X w mX11_family d Q 28 ls st P := X_iconst (M := mX11_family) (dX11_family_28) (by decide) k
theorem dX11_family_29 : decode cX11_family 29 = .ok (.ireturn, 1) := by decide +kernel
theorem sX11_family_29 {v : Int32} (hq : Q (.returned (some (.int v))) P) : X w mX11_family d Q 29 ls [.int v] P := X_iret (M := mX11_family) (dX11_family_29) rfl hq
theorem dX11_family_30 : decode cX11_family 30 = .ok (.iload_n 2, 1) := by decide +kernel
theorem sX11_family_30 {l0 l1 : Option Value} {x : Int32} (k : X w mX11_family d Q 31 [l0, l1, some (.int x)] (.int x :: st) P) : X w mX11_family d Q 30 [l0, l1, some (.int x)] st P := X_iload_n (M := mX11_family) (dX11_family_30) rfl rfl k
theorem dX11_family_31 : decode cX11_family 31 = .ok (.aload_n 0, 1) := by decide +kernel
theorem sX11_family_31 {l1 l2 : Option Value} {x : Nat} (k : X w mX11_family d Q 32 [some (.ref x), l1, l2] (.ref x :: st) P) : X w mX11_family d Q 31 [some (.ref x), l1, l2] st P := X_aload_n (M := mX11_family) (dX11_family_31) rfl rfl k
theorem dX11_family_32 : decode cX11_family 32 = .ok (.iload_n 1, 1) := by decide +kernel
theorem sX11_family_32 {l0 l2 : Option Value} {x : Int32} (k : X w mX11_family d Q 33 [l0, some (.int x), l2] (.int x :: st) P) : X w mX11_family d Q 32 [l0, some (.int x), l2] st P := X_iload_n (M := mX11_family) (dX11_family_32) rfl rfl k
theorem dX11_family_33 : decode cX11_family 33 = .ok (.invokevirtual 276, 3) := by decide +kernel
theorem sX11_family_33_g {b : Nat} {fs : List Value} {a0 : Int32} {Qc : Outcome → xH → Prop} (hst : (st.map fun v => v.category).sum ≤ 8) (hP : P.1 b = some (xO 9 fs)) (hC : xC w d mX11_gather [.ref b, .int a0] P Qc) (kr : ∀ v P1, Qc (.returned v) P1 → X w mX11_family (d + 1) Q 36 ls (v.toList ++ st) P1) (kt : ∀ q P1, Qc (.threw q) P1 → Xt w mX11_family (d + 1) Q 33 ls st P1 q) : X w mX11_family (d + 1) Q 33 ls (.int a0 :: .ref b :: st) P := X_callV (M := mX11_family) (MC := mX11_gather) (As := [.int a0]) (T := TX11) (dX11_family_33) calX11_gather xw_561 xw_562 xw_563 rfl rfl hP hC hst kr kt
theorem sX11_family_33 {b : Nat} {fs : List Value} {a0 : Int32} {r : Int32} {P1 : xH} (hst : (st.map fun v => v.category).sum ≤ 8) (hP : P.1 b = some (xO 9 fs)) (hC : xC w d mX11_gather [.ref b, .int a0] P (xRet (some (.int r)) P1)) (k : X w mX11_family (d + 1) Q 36 ls (.int r :: st) P1) : X w mX11_family (d + 1) Q 33 ls (.int a0 :: .ref b :: st) P := X_callV (M := mX11_family) (MC := mX11_gather) (As := [.int a0]) (T := TX11) (dX11_family_33) calX11_gather xw_561 xw_562 xw_563 rfl rfl hP hC hst (fun v P2 h => by obtain ⟨h1, rfl⟩ := h; cases h1; exact k) (fun q P2 h => by cases h.1)
theorem sX11_family_33_r {b : Nat} {fs : List Value} {a0 : Int32} {r : Int32} {Rp : xH → Prop} (hst : (st.map fun v => v.category).sum ≤ 8) (hP : P.1 b = some (xO 9 fs)) (hC : xC w d mX11_gather [.ref b, .int a0] P (xRl (some (.int r)) Rp)) (k : ∀ P1, Rp P1 → X w mX11_family (d + 1) Q 36 ls (.int r :: st) P1) : X w mX11_family (d + 1) Q 33 ls (.int a0 :: .ref b :: st) P := X_callV (M := mX11_family) (MC := mX11_gather) (As := [.int a0]) (T := TX11) (dX11_family_33) calX11_gather xw_561 xw_562 xw_563 rfl rfl hP hC hst (fun v P2 h => by obtain ⟨h1, hR⟩ := h; cases h1; exact k P2 hR) (fun q P2 h => by cases h.1)
theorem sX11_family_33_t {b : Nat} {fs : List Value} {a0 : Int32} {q : Nat} {P1 : xH} (hst : (st.map fun v => v.category).sum ≤ 8) (hP : P.1 b = some (xO 9 fs)) (hC : xC w d mX11_gather [.ref b, .int a0] P (xThr q P1)) (hq : Q (.threw q) P1) : X w mX11_family (d + 1) Q 33 ls (.int a0 :: .ref b :: st) P := X_callV (M := mX11_family) (MC := mX11_gather) (As := [.int a0]) (T := TX11) (dX11_family_33) calX11_gather xw_561 xw_562 xw_563 rfl rfl hP hC hst (fun v P2 h => by cases h.1) (fun q2 P2 h => by obtain ⟨h1, rfl⟩ := h; cases h1; exact Xt_out rfl hq)
theorem dX11_family_36 : decode cX11_family 36 = .ok (.if_icmp .ge 12, 3) := by decide +kernel
theorem sX11_family_36 {x y : Int32} (kt : y ≤ x → X w mX11_family d Q 48 ls st P) (kf : ¬ y ≤ x → X w mX11_family d Q 39 ls st P) : X w mX11_family d Q 36 ls (.int y :: .int x :: st) P := X_icmp_ge (M := mX11_family) (dX11_family_36) (by decide) kt kf
theorem dX11_family_39 : decode cX11_family 39 = .ok (.aload_n 0, 1) := by decide +kernel
theorem sX11_family_39 {l1 l2 : Option Value} {x : Nat} (k : X w mX11_family d Q 40 [some (.ref x), l1, l2] (.ref x :: st) P) : X w mX11_family d Q 39 [some (.ref x), l1, l2] st P := X_aload_n (M := mX11_family) (dX11_family_39) rfl rfl k
theorem dX11_family_40 : decode cX11_family 40 = .ok (.getfield 81, 3) := by decide +kernel
theorem sX11_family_40 {a : Nat} {fs : List Value} {v : Nat} (hP : P.1 a = some (xO 9 fs)) (hv : fs[36]? = some (.ref v)) (k : X w mX11_family d Q 43 ls (.ref v :: st) P) : X w mX11_family d Q 40 ls (.ref a :: st) P := X_get (M := mX11_family) (j := 36) (T := TX11) (dX11_family_40) rfl (by decide) x_in11 xw_427 hP hv k
theorem dX11_family_43 : decode cX11_family 43 = .ok (.iload_n 2, 1) := by decide +kernel
theorem sX11_family_43 {l0 l1 : Option Value} {x : Int32} (k : X w mX11_family d Q 44 [l0, l1, some (.int x)] (.int x :: st) P) : X w mX11_family d Q 43 [l0, l1, some (.int x)] st P := X_iload_n (M := mX11_family) (dX11_family_43) rfl rfl k
theorem dX11_family_44 : decode cX11_family 44 = .ok (.iaload, 1) := by decide +kernel
theorem sX11_family_44 {a n : Nat} {f : Nat → Int32} {i : Int32} (hP : P.1 a = some (xA 0 n f)) (hi : vp_in i n) (k : X w mX11_family d Q 45 ls (.int (f i.toNatClampNeg) :: st) P) : X w mX11_family d Q 44 ls (.int i :: .ref a :: st) P := X_iald (M := mX11_family) (dX11_family_44) hP hi k
theorem dX11_family_45 : decode cX11_family 45 = .ok (.goto 4, 3) := by decide +kernel
theorem sX11_family_45 (k : X w mX11_family d Q 49 ls st P) : X w mX11_family d Q 45 ls st P := X_goto (M := mX11_family) (dX11_family_45) (by decide) k
theorem dX11_family_48 : decode cX11_family 48 = .ok (.iconst (-1), 1) := by decide +kernel
theorem sX11_family_48 (k : X w mX11_family d Q 49 ls (.int (-1 : Int32) :: st) P) : X w mX11_family d Q 48 ls st P := X_iconst (M := mX11_family) (dX11_family_48) (by decide) k
theorem dX11_family_49 : decode cX11_family 49 = .ok (.ireturn, 1) := by decide +kernel
theorem sX11_family_49 {v : Int32} (hq : Q (.returned (some (.int v))) P) : X w mX11_family d Q 49 ls [.int v] P := X_iret (M := mX11_family) (dX11_family_49) rfl hq
theorem dX11_best_0 : decode cX11_best 0 = .ok (.aload_n 0, 1) := by decide +kernel
theorem sX11_best_0 {l1 l2 l3 l4 l5 l6 : Option Value} {x : Nat} (k : X w mX11_best d Q 1 [some (.ref x), l1, l2, l3, l4, l5, l6] (.ref x :: st) P) : X w mX11_best d Q 0 [some (.ref x), l1, l2, l3, l4, l5, l6] st P := X_aload_n (M := mX11_best) (dX11_best_0) rfl rfl k
theorem dX11_best_1 : decode cX11_best 1 = .ok (.aload_n 0, 1) := by decide +kernel
theorem sX11_best_1 {l1 l2 l3 l4 l5 l6 : Option Value} {x : Nat} (k : X w mX11_best d Q 2 [some (.ref x), l1, l2, l3, l4, l5, l6] (.ref x :: st) P) : X w mX11_best d Q 1 [some (.ref x), l1, l2, l3, l4, l5, l6] st P := X_aload_n (M := mX11_best) (dX11_best_1) rfl rfl k
theorem dX11_best_2 : decode cX11_best 2 = .ok (.iload_n 1, 1) := by decide +kernel
theorem sX11_best_2 {l0 l2 l3 l4 l5 l6 : Option Value} {x : Int32} (k : X w mX11_best d Q 3 [l0, some (.int x), l2, l3, l4, l5, l6] (.int x :: st) P) : X w mX11_best d Q 2 [l0, some (.int x), l2, l3, l4, l5, l6] st P := X_iload_n (M := mX11_best) (dX11_best_2) rfl rfl k
theorem dX11_best_3 : decode cX11_best 3 = .ok (.invokevirtual 238, 3) := by decide +kernel
theorem sX11_best_3_g {b : Nat} {fs : List Value} {a0 : Int32} {Qc : Outcome → xH → Prop} (hst : (st.map fun v => v.category).sum ≤ 8) (hP : P.1 b = some (xO 9 fs)) (hC : xC w d mX11_isCell [.ref b, .int a0] P Qc) (kr : ∀ v P1, Qc (.returned v) P1 → X w mX11_best (d + 1) Q 6 ls (v.toList ++ st) P1) (kt : ∀ q P1, Qc (.threw q) P1 → Xt w mX11_best (d + 1) Q 3 ls st P1 q) : X w mX11_best (d + 1) Q 3 ls (.int a0 :: .ref b :: st) P := X_callV (M := mX11_best) (MC := mX11_isCell) (As := [.int a0]) (T := TX11) (dX11_best_3) calX11_isCell xw_530 xw_531 xw_532 rfl rfl hP hC hst kr kt
theorem sX11_best_3 {b : Nat} {fs : List Value} {a0 : Int32} {r : Int32} {P1 : xH} (hst : (st.map fun v => v.category).sum ≤ 8) (hP : P.1 b = some (xO 9 fs)) (hC : xC w d mX11_isCell [.ref b, .int a0] P (xRet (some (.int r)) P1)) (k : X w mX11_best (d + 1) Q 6 ls (.int r :: st) P1) : X w mX11_best (d + 1) Q 3 ls (.int a0 :: .ref b :: st) P := X_callV (M := mX11_best) (MC := mX11_isCell) (As := [.int a0]) (T := TX11) (dX11_best_3) calX11_isCell xw_530 xw_531 xw_532 rfl rfl hP hC hst (fun v P2 h => by obtain ⟨h1, rfl⟩ := h; cases h1; exact k) (fun q P2 h => by cases h.1)
theorem sX11_best_3_r {b : Nat} {fs : List Value} {a0 : Int32} {r : Int32} {Rp : xH → Prop} (hst : (st.map fun v => v.category).sum ≤ 8) (hP : P.1 b = some (xO 9 fs)) (hC : xC w d mX11_isCell [.ref b, .int a0] P (xRl (some (.int r)) Rp)) (k : ∀ P1, Rp P1 → X w mX11_best (d + 1) Q 6 ls (.int r :: st) P1) : X w mX11_best (d + 1) Q 3 ls (.int a0 :: .ref b :: st) P := X_callV (M := mX11_best) (MC := mX11_isCell) (As := [.int a0]) (T := TX11) (dX11_best_3) calX11_isCell xw_530 xw_531 xw_532 rfl rfl hP hC hst (fun v P2 h => by obtain ⟨h1, hR⟩ := h; cases h1; exact k P2 hR) (fun q P2 h => by cases h.1)
theorem sX11_best_3_t {b : Nat} {fs : List Value} {a0 : Int32} {q : Nat} {P1 : xH} (hst : (st.map fun v => v.category).sum ≤ 8) (hP : P.1 b = some (xO 9 fs)) (hC : xC w d mX11_isCell [.ref b, .int a0] P (xThr q P1)) (hq : Q (.threw q) P1) : X w mX11_best (d + 1) Q 3 ls (.int a0 :: .ref b :: st) P := X_callV (M := mX11_best) (MC := mX11_isCell) (As := [.int a0]) (T := TX11) (dX11_best_3) calX11_isCell xw_530 xw_531 xw_532 rfl rfl hP hC hst (fun v P2 h => by cases h.1) (fun q2 P2 h => by obtain ⟨h1, rfl⟩ := h; cases h1; exact Xt_out rfl hq)
theorem dX11_best_6 : decode cX11_best 6 = .ok (.ifCond .ne 7, 3) := by decide +kernel
theorem sX11_best_6 {x : Int32} (kt : ¬ x = 0 → X w mX11_best d Q 13 ls st P) (kf : x = 0 → X w mX11_best d Q 9 ls st P) : X w mX11_best d Q 6 ls (.int x :: st) P := X_if_ne (M := mX11_best) (dX11_best_6) (by decide) kt kf
theorem dX11_best_9 : decode cX11_best 9 = .ok (.iconst 1, 1) := by decide +kernel
theorem sX11_best_9 (k : X w mX11_best d Q 10 ls (.int (1 : Int32) :: st) P) : X w mX11_best d Q 9 ls st P := X_iconst (M := mX11_best) (dX11_best_9) (by decide) k
theorem dX11_best_10 : decode cX11_best 10 = .ok (.goto 12, 3) := by decide +kernel
theorem sX11_best_10 (k : X w mX11_best d Q 22 ls st P) : X w mX11_best d Q 10 ls st P := X_goto (M := mX11_best) (dX11_best_10) (by decide) k
theorem dX11_best_13 : decode cX11_best 13 = .ok (.iload_n 2, 1) := by decide +kernel
theorem sX11_best_13 {l0 l1 l3 l4 l5 l6 : Option Value} {x : Int32} (k : X w mX11_best d Q 14 [l0, l1, some (.int x), l3, l4, l5, l6] (.int x :: st) P) : X w mX11_best d Q 13 [l0, l1, some (.int x), l3, l4, l5, l6] st P := X_iload_n (M := mX11_best) (dX11_best_13) rfl rfl k
theorem dX11_best_14 : decode cX11_best 14 = .ok (.ifCond .ge 7, 3) := by decide +kernel
theorem sX11_best_14 {x : Int32} (kt : 0 ≤ x → X w mX11_best d Q 21 ls st P) (kf : ¬ 0 ≤ x → X w mX11_best d Q 17 ls st P) : X w mX11_best d Q 14 ls (.int x :: st) P := X_if_ge (M := mX11_best) (dX11_best_14) (by decide) kt kf
theorem dX11_best_17 : decode cX11_best 17 = .ok (.iconst 2, 1) := by decide +kernel
theorem sX11_best_17 (k : X w mX11_best d Q 18 ls (.int (2 : Int32) :: st) P) : X w mX11_best d Q 17 ls st P := X_iconst (M := mX11_best) (dX11_best_17) (by decide) k
theorem dX11_best_18 : decode cX11_best 18 = .ok (.goto 4, 3) := by decide +kernel
theorem sX11_best_18 (k : X w mX11_best d Q 22 ls st P) : X w mX11_best d Q 18 ls st P := X_goto (M := mX11_best) (dX11_best_18) (by decide) k
theorem dX11_best_21 : decode cX11_best 21 = .ok (.iconst 0, 1) := by decide +kernel
theorem sX11_best_21 (k : X w mX11_best d Q 22 ls (.int (0 : Int32) :: st) P) : X w mX11_best d Q 21 ls st P := X_iconst (M := mX11_best) (dX11_best_21) (by decide) k
theorem dX11_best_22 : decode cX11_best 22 = .ok (.putfield 84, 3) := by decide +kernel
theorem sX11_best_22 {a : Nat} {fs : List Value} {v : Int32} (hP : P.1 a = some (xO 9 fs)) (hl : 0 < fs.length) (k : X w mX11_best d Q 25 ls st (xs P a (xO 9 (fs.set 0 (.int v))))) : X w mX11_best d Q 22 ls (.int v :: .ref a :: st) P := X_put (M := mX11_best) (j := 0) (T := TX11) (dX11_best_22) rfl (by decide) x_c11 xw_428 rfl hP rfl rfl hl k
theorem dX11_best_25 : decode cX11_best 25 = .ok (.aload_n 0, 1) := by decide +kernel
theorem sX11_best_25 {l1 l2 l3 l4 l5 l6 : Option Value} {x : Nat} (k : X w mX11_best d Q 26 [some (.ref x), l1, l2, l3, l4, l5, l6] (.ref x :: st) P) : X w mX11_best d Q 25 [some (.ref x), l1, l2, l3, l4, l5, l6] st P := X_aload_n (M := mX11_best) (dX11_best_25) rfl rfl k
theorem dX11_best_26 : decode cX11_best 26 = .ok (.getfield 84, 3) := by decide +kernel
theorem sX11_best_26 {a : Nat} {fs : List Value} {v : Int32} (hP : P.1 a = some (xO 9 fs)) (hv : fs[0]? = some (.int v)) (k : X w mX11_best d Q 29 ls (.int v :: st) P) : X w mX11_best d Q 26 ls (.ref a :: st) P := X_get (M := mX11_best) (j := 0) (T := TX11) (dX11_best_26) rfl (by decide) x_in11 xw_428 hP hv k
theorem dX11_best_29 : decode cX11_best 29 = .ok (.ifCond .le 5, 3) := by decide +kernel
theorem sX11_best_29 {x : Int32} (kt : x ≤ 0 → X w mX11_best d Q 34 ls st P) (kf : ¬ x ≤ 0 → X w mX11_best d Q 32 ls st P) : X w mX11_best d Q 29 ls (.int x :: st) P := X_if_le (M := mX11_best) (dX11_best_29) (by decide) kt kf
theorem dX11_best_32 : decode cX11_best 32 = .ok (.iconst 0, 1) := by decide +kernel
theorem sX11_best_32 (k : X w mX11_best d Q 33 ls (.int (0 : Int32) :: st) P) : X w mX11_best d Q 32 ls st P := X_iconst (M := mX11_best) (dX11_best_32) (by decide) k
theorem dX11_best_33 : decode cX11_best 33 = .ok (.ireturn, 1) := by decide +kernel
theorem sX11_best_33 {v : Int32} (hq : Q (.returned (some (.int v))) P) : X w mX11_best d Q 33 ls [.int v] P := X_iret (M := mX11_best) (dX11_best_33) rfl hq
theorem dX11_best_34 : decode cX11_best 34 = .ok (.aload_n 0, 1) := by decide +kernel
theorem sX11_best_34 {l1 l2 l3 l4 l5 l6 : Option Value} {x : Nat} (k : X w mX11_best d Q 35 [some (.ref x), l1, l2, l3, l4, l5, l6] (.ref x :: st) P) : X w mX11_best d Q 34 [some (.ref x), l1, l2, l3, l4, l5, l6] st P := X_aload_n (M := mX11_best) (dX11_best_34) rfl rfl k
theorem dX11_best_35 : decode cX11_best 35 = .ok (.iload_n 1, 1) := by decide +kernel
theorem sX11_best_35 {l0 l2 l3 l4 l5 l6 : Option Value} {x : Int32} (k : X w mX11_best d Q 36 [l0, some (.int x), l2, l3, l4, l5, l6] (.int x :: st) P) : X w mX11_best d Q 35 [l0, some (.int x), l2, l3, l4, l5, l6] st P := X_iload_n (M := mX11_best) (dX11_best_35) rfl rfl k
theorem dX11_best_36 : decode cX11_best 36 = .ok (.invokevirtual 276, 3) := by decide +kernel
theorem sX11_best_36_g {b : Nat} {fs : List Value} {a0 : Int32} {Qc : Outcome → xH → Prop} (hst : (st.map fun v => v.category).sum ≤ 8) (hP : P.1 b = some (xO 9 fs)) (hC : xC w d mX11_gather [.ref b, .int a0] P Qc) (kr : ∀ v P1, Qc (.returned v) P1 → X w mX11_best (d + 1) Q 39 ls (v.toList ++ st) P1) (kt : ∀ q P1, Qc (.threw q) P1 → Xt w mX11_best (d + 1) Q 36 ls st P1 q) : X w mX11_best (d + 1) Q 36 ls (.int a0 :: .ref b :: st) P := X_callV (M := mX11_best) (MC := mX11_gather) (As := [.int a0]) (T := TX11) (dX11_best_36) calX11_gather xw_561 xw_562 xw_563 rfl rfl hP hC hst kr kt
theorem sX11_best_36 {b : Nat} {fs : List Value} {a0 : Int32} {r : Int32} {P1 : xH} (hst : (st.map fun v => v.category).sum ≤ 8) (hP : P.1 b = some (xO 9 fs)) (hC : xC w d mX11_gather [.ref b, .int a0] P (xRet (some (.int r)) P1)) (k : X w mX11_best (d + 1) Q 39 ls (.int r :: st) P1) : X w mX11_best (d + 1) Q 36 ls (.int a0 :: .ref b :: st) P := X_callV (M := mX11_best) (MC := mX11_gather) (As := [.int a0]) (T := TX11) (dX11_best_36) calX11_gather xw_561 xw_562 xw_563 rfl rfl hP hC hst (fun v P2 h => by obtain ⟨h1, rfl⟩ := h; cases h1; exact k) (fun q P2 h => by cases h.1)
theorem sX11_best_36_r {b : Nat} {fs : List Value} {a0 : Int32} {r : Int32} {Rp : xH → Prop} (hst : (st.map fun v => v.category).sum ≤ 8) (hP : P.1 b = some (xO 9 fs)) (hC : xC w d mX11_gather [.ref b, .int a0] P (xRl (some (.int r)) Rp)) (k : ∀ P1, Rp P1 → X w mX11_best (d + 1) Q 39 ls (.int r :: st) P1) : X w mX11_best (d + 1) Q 36 ls (.int a0 :: .ref b :: st) P := X_callV (M := mX11_best) (MC := mX11_gather) (As := [.int a0]) (T := TX11) (dX11_best_36) calX11_gather xw_561 xw_562 xw_563 rfl rfl hP hC hst (fun v P2 h => by obtain ⟨h1, hR⟩ := h; cases h1; exact k P2 hR) (fun q P2 h => by cases h.1)
theorem sX11_best_36_t {b : Nat} {fs : List Value} {a0 : Int32} {q : Nat} {P1 : xH} (hst : (st.map fun v => v.category).sum ≤ 8) (hP : P.1 b = some (xO 9 fs)) (hC : xC w d mX11_gather [.ref b, .int a0] P (xThr q P1)) (hq : Q (.threw q) P1) : X w mX11_best (d + 1) Q 36 ls (.int a0 :: .ref b :: st) P := X_callV (M := mX11_best) (MC := mX11_gather) (As := [.int a0]) (T := TX11) (dX11_best_36) calX11_gather xw_561 xw_562 xw_563 rfl rfl hP hC hst (fun v P2 h => by cases h.1) (fun q2 P2 h => by obtain ⟨h1, rfl⟩ := h; cases h1; exact Xt_out rfl hq)
theorem dX11_best_39 : decode cX11_best 39 = .ok (.istore_n 3, 1) := by decide +kernel
theorem sX11_best_39 {l0 l1 l2 l3 l4 l5 l6 : Option Value} {x : Int32} (hn : xnl l2 = true) (k : X w mX11_best d Q 40 [l0, l1, l2, some (.int x), l4, l5, l6] st P) : X w mX11_best d Q 39 [l0, l1, l2, l3, l4, l5, l6] (.int x :: st) P := X_istore_n (M := mX11_best) (dX11_best_39) rfl (by decide) rfl (xnl_p (ls := [l0, l1, l2, l3, l4, l5, l6]) (j := 2) rfl hn) k
theorem dX11_best_40 : decode cX11_best 40 = .ok (.iconst (-1), 1) := by decide +kernel
theorem sX11_best_40 (k : X w mX11_best d Q 41 ls (.int (-1 : Int32) :: st) P) : X w mX11_best d Q 40 ls st P := X_iconst (M := mX11_best) (dX11_best_40) (by decide) k
theorem dX11_best_41 : decode cX11_best 41 = .ok (.istore 4, 2) := by decide +kernel
theorem sX11_best_41 {l0 l1 l2 l3 l4 l5 l6 : Option Value} {x : Int32} (hn : xnl l3 = true) (k : X w mX11_best d Q 43 [l0, l1, l2, l3, some (.int x), l5, l6] st P) : X w mX11_best d Q 41 [l0, l1, l2, l3, l4, l5, l6] (.int x :: st) P := X_istore (M := mX11_best) (dX11_best_41) (by decide) rfl (xnl_p (ls := [l0, l1, l2, l3, l4, l5, l6]) (j := 3) rfl hn) k
theorem dX11_best_43 : decode cX11_best 43 = .ok (.iconst 0, 1) := by decide +kernel
theorem sX11_best_43 (k : X w mX11_best d Q 44 ls (.int (0 : Int32) :: st) P) : X w mX11_best d Q 43 ls st P := X_iconst (M := mX11_best) (dX11_best_43) (by decide) k
theorem dX11_best_44 : decode cX11_best 44 = .ok (.istore 5, 2) := by decide +kernel
theorem sX11_best_44 {l0 l1 l2 l3 l4 l5 l6 : Option Value} {x : Int32} (hn : xnl l4 = true) (k : X w mX11_best d Q 46 [l0, l1, l2, l3, l4, some (.int x), l6] st P) : X w mX11_best d Q 44 [l0, l1, l2, l3, l4, l5, l6] (.int x :: st) P := X_istore (M := mX11_best) (dX11_best_44) (by decide) rfl (xnl_p (ls := [l0, l1, l2, l3, l4, l5, l6]) (j := 4) rfl hn) k
theorem dX11_best_46 : decode cX11_best 46 = .ok (.iload 5, 2) := by decide +kernel
theorem sX11_best_46 {l0 l1 l2 l3 l4 l6 : Option Value} {x : Int32} (k : X w mX11_best d Q 48 [l0, l1, l2, l3, l4, some (.int x), l6] (.int x :: st) P) : X w mX11_best d Q 46 [l0, l1, l2, l3, l4, some (.int x), l6] st P := X_iload (M := mX11_best) (dX11_best_46) rfl k
theorem dX11_best_48 : decode cX11_best 48 = .ok (.iload_n 3, 1) := by decide +kernel
theorem sX11_best_48 {l0 l1 l2 l4 l5 l6 : Option Value} {x : Int32} (k : X w mX11_best d Q 49 [l0, l1, l2, some (.int x), l4, l5, l6] (.int x :: st) P) : X w mX11_best d Q 48 [l0, l1, l2, some (.int x), l4, l5, l6] st P := X_iload_n (M := mX11_best) (dX11_best_48) rfl rfl k
theorem dX11_best_49 : decode cX11_best 49 = .ok (.if_icmp .ge 89, 3) := by decide +kernel
theorem sX11_best_49 {x y : Int32} (kt : y ≤ x → X w mX11_best d Q 138 ls st P) (kf : ¬ y ≤ x → X w mX11_best d Q 52 ls st P) : X w mX11_best d Q 49 ls (.int y :: .int x :: st) P := X_icmp_ge (M := mX11_best) (dX11_best_49) (by decide) kt kf
theorem dX11_best_52 : decode cX11_best 52 = .ok (.bipush 12, 2) := by decide +kernel
theorem sX11_best_52 (k : X w mX11_best d Q 54 ls (.int (12 : Int32) :: st) P) : X w mX11_best d Q 52 ls st P := X_bipush (M := mX11_best) (dX11_best_52) (by decide) k
theorem dX11_best_54 : decode cX11_best 54 = .ok (.aload_n 0, 1) := by decide +kernel
theorem sX11_best_54 {l1 l2 l3 l4 l5 l6 : Option Value} {x : Nat} (k : X w mX11_best d Q 55 [some (.ref x), l1, l2, l3, l4, l5, l6] (.ref x :: st) P) : X w mX11_best d Q 54 [some (.ref x), l1, l2, l3, l4, l5, l6] st P := X_aload_n (M := mX11_best) (dX11_best_54) rfl rfl k
theorem dX11_best_55 : decode cX11_best 55 = .ok (.getfield 226, 3) := by decide +kernel
theorem sX11_best_55 {a : Nat} {fs : List Value} {v : Int32} (hP : P.1 a = some (xO 9 fs)) (hv : fs[3]? = some (.int v)) (k : X w mX11_best d Q 58 ls (.int v :: st) P) : X w mX11_best d Q 55 ls (.ref a :: st) P := X_get (M := mX11_best) (j := 3) (T := TX11) (dX11_best_55) rfl (by decide) x_in11 xw_521 hP hv k
theorem dX11_best_58 : decode cX11_best 58 = .ok (.imul, 1) := by decide +kernel
theorem sX11_best_58 {x y : Int32} (k : X w mX11_best d Q 59 ls (.int (x * y) :: st) P) : X w mX11_best d Q 58 ls (.int y :: .int x :: st) P := X_imul (M := mX11_best) (dX11_best_58) k
theorem dX11_best_59 : decode cX11_best 59 = .ok (.aload_n 0, 1) := by decide +kernel
theorem sX11_best_59 {l1 l2 l3 l4 l5 l6 : Option Value} {x : Nat} (k : X w mX11_best d Q 60 [some (.ref x), l1, l2, l3, l4, l5, l6] (.ref x :: st) P) : X w mX11_best d Q 59 [some (.ref x), l1, l2, l3, l4, l5, l6] st P := X_aload_n (M := mX11_best) (dX11_best_59) rfl rfl k
theorem dX11_best_60 : decode cX11_best 60 = .ok (.getfield 81, 3) := by decide +kernel
theorem sX11_best_60 {a : Nat} {fs : List Value} {v : Nat} (hP : P.1 a = some (xO 9 fs)) (hv : fs[36]? = some (.ref v)) (k : X w mX11_best d Q 63 ls (.ref v :: st) P) : X w mX11_best d Q 60 ls (.ref a :: st) P := X_get (M := mX11_best) (j := 36) (T := TX11) (dX11_best_60) rfl (by decide) x_in11 xw_427 hP hv k
theorem dX11_best_63 : decode cX11_best 63 = .ok (.iload 5, 2) := by decide +kernel
theorem sX11_best_63 {l0 l1 l2 l3 l4 l6 : Option Value} {x : Int32} (k : X w mX11_best d Q 65 [l0, l1, l2, l3, l4, some (.int x), l6] (.int x :: st) P) : X w mX11_best d Q 63 [l0, l1, l2, l3, l4, some (.int x), l6] st P := X_iload (M := mX11_best) (dX11_best_63) rfl k
theorem dX11_best_65 : decode cX11_best 65 = .ok (.iaload, 1) := by decide +kernel
theorem sX11_best_65 {a n : Nat} {f : Nat → Int32} {i : Int32} (hP : P.1 a = some (xA 0 n f)) (hi : vp_in i n) (k : X w mX11_best d Q 66 ls (.int (f i.toNatClampNeg) :: st) P) : X w mX11_best d Q 65 ls (.int i :: .ref a :: st) P := X_iald (M := mX11_best) (dX11_best_65) hP hi k
theorem dX11_best_66 : decode cX11_best 66 = .ok (.iadd, 1) := by decide +kernel
theorem sX11_best_66 {x y : Int32} (k : X w mX11_best d Q 67 ls (.int (x + y) :: st) P) : X w mX11_best d Q 66 ls (.int y :: .int x :: st) P := X_iadd (M := mX11_best) (dX11_best_66) k
theorem dX11_best_67 : decode cX11_best 67 = .ok (.istore 6, 2) := by decide +kernel
theorem sX11_best_67 {l0 l1 l2 l3 l4 l5 l6 : Option Value} {x : Int32} (hn : xnl l5 = true) (k : X w mX11_best d Q 69 [l0, l1, l2, l3, l4, l5, some (.int x)] st P) : X w mX11_best d Q 67 [l0, l1, l2, l3, l4, l5, l6] (.int x :: st) P := X_istore (M := mX11_best) (dX11_best_67) (by decide) rfl (xnl_p (ls := [l0, l1, l2, l3, l4, l5, l6]) (j := 5) rfl hn) k
theorem dX11_best_69 : decode cX11_best 69 = .ok (.aload_n 0, 1) := by decide +kernel
theorem sX11_best_69 {l1 l2 l3 l4 l5 l6 : Option Value} {x : Nat} (k : X w mX11_best d Q 70 [some (.ref x), l1, l2, l3, l4, l5, l6] (.ref x :: st) P) : X w mX11_best d Q 69 [some (.ref x), l1, l2, l3, l4, l5, l6] st P := X_aload_n (M := mX11_best) (dX11_best_69) rfl rfl k
theorem dX11_best_70 : decode cX11_best 70 = .ok (.getfield 53, 3) := by decide +kernel
theorem sX11_best_70 {a : Nat} {fs : List Value} {v : Nat} (hP : P.1 a = some (xO 9 fs)) (hv : fs[17]? = some (.ref v)) (k : X w mX11_best d Q 73 ls (.ref v :: st) P) : X w mX11_best d Q 70 ls (.ref a :: st) P := X_get (M := mX11_best) (j := 17) (T := TX11) (dX11_best_70) rfl (by decide) x_in11 xw_418 hP hv k
theorem dX11_best_73 : decode cX11_best 73 = .ok (.iconst 3, 1) := by decide +kernel
theorem sX11_best_73 (k : X w mX11_best d Q 74 ls (.int (3 : Int32) :: st) P) : X w mX11_best d Q 73 ls st P := X_iconst (M := mX11_best) (dX11_best_73) (by decide) k
theorem dX11_best_74 : decode cX11_best 74 = .ok (.iload 6, 2) := by decide +kernel
theorem sX11_best_74 {l0 l1 l2 l3 l4 l5 : Option Value} {x : Int32} (k : X w mX11_best d Q 76 [l0, l1, l2, l3, l4, l5, some (.int x)] (.int x :: st) P) : X w mX11_best d Q 74 [l0, l1, l2, l3, l4, l5, some (.int x)] st P := X_iload (M := mX11_best) (dX11_best_74) rfl k
theorem dX11_best_76 : decode cX11_best 76 = .ok (.imul, 1) := by decide +kernel
theorem sX11_best_76 {x y : Int32} (k : X w mX11_best d Q 77 ls (.int (x * y) :: st) P) : X w mX11_best d Q 76 ls (.int y :: .int x :: st) P := X_imul (M := mX11_best) (dX11_best_76) k
theorem dX11_best_77 : decode cX11_best 77 = .ok (.iconst 1, 1) := by decide +kernel
theorem sX11_best_77 (k : X w mX11_best d Q 78 ls (.int (1 : Int32) :: st) P) : X w mX11_best d Q 77 ls st P := X_iconst (M := mX11_best) (dX11_best_77) (by decide) k
theorem dX11_best_78 : decode cX11_best 78 = .ok (.iadd, 1) := by decide +kernel
theorem sX11_best_78 {x y : Int32} (k : X w mX11_best d Q 79 ls (.int (x + y) :: st) P) : X w mX11_best d Q 78 ls (.int y :: .int x :: st) P := X_iadd (M := mX11_best) (dX11_best_78) k
theorem dX11_best_79 : decode cX11_best 79 = .ok (.iaload, 1) := by decide +kernel
theorem sX11_best_79 {a n : Nat} {f : Nat → Int32} {i : Int32} (hP : P.1 a = some (xA 0 n f)) (hi : vp_in i n) (k : X w mX11_best d Q 80 ls (.int (f i.toNatClampNeg) :: st) P) : X w mX11_best d Q 79 ls (.int i :: .ref a :: st) P := X_iald (M := mX11_best) (dX11_best_79) hP hi k
theorem dX11_best_80 : decode cX11_best 80 = .ok (.iload_n 2, 1) := by decide +kernel
theorem sX11_best_80 {l0 l1 l3 l4 l5 l6 : Option Value} {x : Int32} (k : X w mX11_best d Q 81 [l0, l1, some (.int x), l3, l4, l5, l6] (.int x :: st) P) : X w mX11_best d Q 80 [l0, l1, some (.int x), l3, l4, l5, l6] st P := X_iload_n (M := mX11_best) (dX11_best_80) rfl rfl k
theorem dX11_best_81 : decode cX11_best 81 = .ok (.if_icmp .lt 51, 3) := by decide +kernel
theorem sX11_best_81 {x y : Int32} (kt : x < y → X w mX11_best d Q 132 ls st P) (kf : ¬ x < y → X w mX11_best d Q 84 ls st P) : X w mX11_best d Q 81 ls (.int y :: .int x :: st) P := X_icmp_lt (M := mX11_best) (dX11_best_81) (by decide) kt kf
theorem dX11_best_84 : decode cX11_best 84 = .ok (.iload 4, 2) := by decide +kernel
theorem sX11_best_84 {l0 l1 l2 l3 l5 l6 : Option Value} {x : Int32} (k : X w mX11_best d Q 86 [l0, l1, l2, l3, some (.int x), l5, l6] (.int x :: st) P) : X w mX11_best d Q 84 [l0, l1, l2, l3, some (.int x), l5, l6] st P := X_iload (M := mX11_best) (dX11_best_84) rfl k
theorem dX11_best_86 : decode cX11_best 86 = .ok (.iconst (-1), 1) := by decide +kernel
theorem sX11_best_86 (k : X w mX11_best d Q 87 ls (.int (-1 : Int32) :: st) P) : X w mX11_best d Q 86 ls st P := X_iconst (M := mX11_best) (dX11_best_86) (by decide) k
theorem dX11_best_87 : decode cX11_best 87 = .ok (.if_icmp .eq 36, 3) := by decide +kernel
theorem sX11_best_87 {x y : Int32} (kt : x = y → X w mX11_best d Q 123 ls st P) (kf : ¬ x = y → X w mX11_best d Q 90 ls st P) : X w mX11_best d Q 87 ls (.int y :: .int x :: st) P := X_icmp_eq (M := mX11_best) (dX11_best_87) (by decide) kt kf
theorem dX11_best_90 : decode cX11_best 90 = .ok (.aload_n 0, 1) := by decide +kernel
theorem sX11_best_90 {l1 l2 l3 l4 l5 l6 : Option Value} {x : Nat} (k : X w mX11_best d Q 91 [some (.ref x), l1, l2, l3, l4, l5, l6] (.ref x :: st) P) : X w mX11_best d Q 90 [some (.ref x), l1, l2, l3, l4, l5, l6] st P := X_aload_n (M := mX11_best) (dX11_best_90) rfl rfl k
theorem dX11_best_91 : decode cX11_best 91 = .ok (.getfield 53, 3) := by decide +kernel
theorem sX11_best_91 {a : Nat} {fs : List Value} {v : Nat} (hP : P.1 a = some (xO 9 fs)) (hv : fs[17]? = some (.ref v)) (k : X w mX11_best d Q 94 ls (.ref v :: st) P) : X w mX11_best d Q 91 ls (.ref a :: st) P := X_get (M := mX11_best) (j := 17) (T := TX11) (dX11_best_91) rfl (by decide) x_in11 xw_418 hP hv k
theorem dX11_best_94 : decode cX11_best 94 = .ok (.iconst 3, 1) := by decide +kernel
theorem sX11_best_94 (k : X w mX11_best d Q 95 ls (.int (3 : Int32) :: st) P) : X w mX11_best d Q 94 ls st P := X_iconst (M := mX11_best) (dX11_best_94) (by decide) k
theorem dX11_best_95 : decode cX11_best 95 = .ok (.iload 6, 2) := by decide +kernel
theorem sX11_best_95 {l0 l1 l2 l3 l4 l5 : Option Value} {x : Int32} (k : X w mX11_best d Q 97 [l0, l1, l2, l3, l4, l5, some (.int x)] (.int x :: st) P) : X w mX11_best d Q 95 [l0, l1, l2, l3, l4, l5, some (.int x)] st P := X_iload (M := mX11_best) (dX11_best_95) rfl k
theorem dX11_best_97 : decode cX11_best 97 = .ok (.imul, 1) := by decide +kernel
theorem sX11_best_97 {x y : Int32} (k : X w mX11_best d Q 98 ls (.int (x * y) :: st) P) : X w mX11_best d Q 97 ls (.int y :: .int x :: st) P := X_imul (M := mX11_best) (dX11_best_97) k
theorem dX11_best_98 : decode cX11_best 98 = .ok (.iconst 2, 1) := by decide +kernel
theorem sX11_best_98 (k : X w mX11_best d Q 99 ls (.int (2 : Int32) :: st) P) : X w mX11_best d Q 98 ls st P := X_iconst (M := mX11_best) (dX11_best_98) (by decide) k
theorem dX11_best_99 : decode cX11_best 99 = .ok (.iadd, 1) := by decide +kernel
theorem sX11_best_99 {x y : Int32} (k : X w mX11_best d Q 100 ls (.int (x + y) :: st) P) : X w mX11_best d Q 99 ls (.int y :: .int x :: st) P := X_iadd (M := mX11_best) (dX11_best_99) k
theorem dX11_best_100 : decode cX11_best 100 = .ok (.iaload, 1) := by decide +kernel
theorem sX11_best_100 {a n : Nat} {f : Nat → Int32} {i : Int32} (hP : P.1 a = some (xA 0 n f)) (hi : vp_in i n) (k : X w mX11_best d Q 101 ls (.int (f i.toNatClampNeg) :: st) P) : X w mX11_best d Q 100 ls (.int i :: .ref a :: st) P := X_iald (M := mX11_best) (dX11_best_100) hP hi k
theorem dX11_best_101 : decode cX11_best 101 = .ok (.aload_n 0, 1) := by decide +kernel
theorem sX11_best_101 {l1 l2 l3 l4 l5 l6 : Option Value} {x : Nat} (k : X w mX11_best d Q 102 [some (.ref x), l1, l2, l3, l4, l5, l6] (.ref x :: st) P) : X w mX11_best d Q 101 [some (.ref x), l1, l2, l3, l4, l5, l6] st P := X_aload_n (M := mX11_best) (dX11_best_101) rfl rfl k
theorem dX11_best_102 : decode cX11_best 102 = .ok (.getfield 53, 3) := by decide +kernel
theorem sX11_best_102 {a : Nat} {fs : List Value} {v : Nat} (hP : P.1 a = some (xO 9 fs)) (hv : fs[17]? = some (.ref v)) (k : X w mX11_best d Q 105 ls (.ref v :: st) P) : X w mX11_best d Q 102 ls (.ref a :: st) P := X_get (M := mX11_best) (j := 17) (T := TX11) (dX11_best_102) rfl (by decide) x_in11 xw_418 hP hv k
theorem dX11_best_105 : decode cX11_best 105 = .ok (.iconst 3, 1) := by decide +kernel
theorem sX11_best_105 (k : X w mX11_best d Q 106 ls (.int (3 : Int32) :: st) P) : X w mX11_best d Q 105 ls st P := X_iconst (M := mX11_best) (dX11_best_105) (by decide) k
theorem dX11_best_106 : decode cX11_best 106 = .ok (.bipush 12, 2) := by decide +kernel
theorem sX11_best_106 (k : X w mX11_best d Q 108 ls (.int (12 : Int32) :: st) P) : X w mX11_best d Q 106 ls st P := X_bipush (M := mX11_best) (dX11_best_106) (by decide) k
theorem dX11_best_108 : decode cX11_best 108 = .ok (.aload_n 0, 1) := by decide +kernel
theorem sX11_best_108 {l1 l2 l3 l4 l5 l6 : Option Value} {x : Nat} (k : X w mX11_best d Q 109 [some (.ref x), l1, l2, l3, l4, l5, l6] (.ref x :: st) P) : X w mX11_best d Q 108 [some (.ref x), l1, l2, l3, l4, l5, l6] st P := X_aload_n (M := mX11_best) (dX11_best_108) rfl rfl k
theorem dX11_best_109 : decode cX11_best 109 = .ok (.getfield 226, 3) := by decide +kernel
theorem sX11_best_109 {a : Nat} {fs : List Value} {v : Int32} (hP : P.1 a = some (xO 9 fs)) (hv : fs[3]? = some (.int v)) (k : X w mX11_best d Q 112 ls (.int v :: st) P) : X w mX11_best d Q 109 ls (.ref a :: st) P := X_get (M := mX11_best) (j := 3) (T := TX11) (dX11_best_109) rfl (by decide) x_in11 xw_521 hP hv k
theorem dX11_best_112 : decode cX11_best 112 = .ok (.imul, 1) := by decide +kernel
theorem sX11_best_112 {x y : Int32} (k : X w mX11_best d Q 113 ls (.int (x * y) :: st) P) : X w mX11_best d Q 112 ls (.int y :: .int x :: st) P := X_imul (M := mX11_best) (dX11_best_112) k
theorem dX11_best_113 : decode cX11_best 113 = .ok (.iload 4, 2) := by decide +kernel
theorem sX11_best_113 {l0 l1 l2 l3 l5 l6 : Option Value} {x : Int32} (k : X w mX11_best d Q 115 [l0, l1, l2, l3, some (.int x), l5, l6] (.int x :: st) P) : X w mX11_best d Q 113 [l0, l1, l2, l3, some (.int x), l5, l6] st P := X_iload (M := mX11_best) (dX11_best_113) rfl k
theorem dX11_best_115 : decode cX11_best 115 = .ok (.iadd, 1) := by decide +kernel
theorem sX11_best_115 {x y : Int32} (k : X w mX11_best d Q 116 ls (.int (x + y) :: st) P) : X w mX11_best d Q 115 ls (.int y :: .int x :: st) P := X_iadd (M := mX11_best) (dX11_best_115) k
theorem dX11_best_116 : decode cX11_best 116 = .ok (.imul, 1) := by decide +kernel
theorem sX11_best_116 {x y : Int32} (k : X w mX11_best d Q 117 ls (.int (x * y) :: st) P) : X w mX11_best d Q 116 ls (.int y :: .int x :: st) P := X_imul (M := mX11_best) (dX11_best_116) k
theorem dX11_best_117 : decode cX11_best 117 = .ok (.iconst 2, 1) := by decide +kernel
theorem sX11_best_117 (k : X w mX11_best d Q 118 ls (.int (2 : Int32) :: st) P) : X w mX11_best d Q 117 ls st P := X_iconst (M := mX11_best) (dX11_best_117) (by decide) k
theorem dX11_best_118 : decode cX11_best 118 = .ok (.iadd, 1) := by decide +kernel
theorem sX11_best_118 {x y : Int32} (k : X w mX11_best d Q 119 ls (.int (x + y) :: st) P) : X w mX11_best d Q 118 ls (.int y :: .int x :: st) P := X_iadd (M := mX11_best) (dX11_best_118) k
theorem dX11_best_119 : decode cX11_best 119 = .ok (.iaload, 1) := by decide +kernel
theorem sX11_best_119 {a n : Nat} {f : Nat → Int32} {i : Int32} (hP : P.1 a = some (xA 0 n f)) (hi : vp_in i n) (k : X w mX11_best d Q 120 ls (.int (f i.toNatClampNeg) :: st) P) : X w mX11_best d Q 119 ls (.int i :: .ref a :: st) P := X_iald (M := mX11_best) (dX11_best_119) hP hi k
theorem dX11_best_120 : decode cX11_best 120 = .ok (.if_icmp .ge 12, 3) := by decide +kernel
theorem sX11_best_120 {x y : Int32} (kt : y ≤ x → X w mX11_best d Q 132 ls st P) (kf : ¬ y ≤ x → X w mX11_best d Q 123 ls st P) : X w mX11_best d Q 120 ls (.int y :: .int x :: st) P := X_icmp_ge (M := mX11_best) (dX11_best_120) (by decide) kt kf
theorem dX11_best_123 : decode cX11_best 123 = .ok (.aload_n 0, 1) := by decide +kernel
theorem sX11_best_123 {l1 l2 l3 l4 l5 l6 : Option Value} {x : Nat} (k : X w mX11_best d Q 124 [some (.ref x), l1, l2, l3, l4, l5, l6] (.ref x :: st) P) : X w mX11_best d Q 123 [some (.ref x), l1, l2, l3, l4, l5, l6] st P := X_aload_n (M := mX11_best) (dX11_best_123) rfl rfl k
theorem dX11_best_124 : decode cX11_best 124 = .ok (.getfield 81, 3) := by decide +kernel
theorem sX11_best_124 {a : Nat} {fs : List Value} {v : Nat} (hP : P.1 a = some (xO 9 fs)) (hv : fs[36]? = some (.ref v)) (k : X w mX11_best d Q 127 ls (.ref v :: st) P) : X w mX11_best d Q 124 ls (.ref a :: st) P := X_get (M := mX11_best) (j := 36) (T := TX11) (dX11_best_124) rfl (by decide) x_in11 xw_427 hP hv k
theorem dX11_best_127 : decode cX11_best 127 = .ok (.iload 5, 2) := by decide +kernel
theorem sX11_best_127 {l0 l1 l2 l3 l4 l6 : Option Value} {x : Int32} (k : X w mX11_best d Q 129 [l0, l1, l2, l3, l4, some (.int x), l6] (.int x :: st) P) : X w mX11_best d Q 127 [l0, l1, l2, l3, l4, some (.int x), l6] st P := X_iload (M := mX11_best) (dX11_best_127) rfl k
theorem dX11_best_129 : decode cX11_best 129 = .ok (.iaload, 1) := by decide +kernel
theorem sX11_best_129 {a n : Nat} {f : Nat → Int32} {i : Int32} (hP : P.1 a = some (xA 0 n f)) (hi : vp_in i n) (k : X w mX11_best d Q 130 ls (.int (f i.toNatClampNeg) :: st) P) : X w mX11_best d Q 129 ls (.int i :: .ref a :: st) P := X_iald (M := mX11_best) (dX11_best_129) hP hi k
theorem dX11_best_130 : decode cX11_best 130 = .ok (.istore 4, 2) := by decide +kernel
theorem sX11_best_130 {l0 l1 l2 l3 l4 l5 l6 : Option Value} {x : Int32} (hn : xnl l3 = true) (k : X w mX11_best d Q 132 [l0, l1, l2, l3, some (.int x), l5, l6] st P) : X w mX11_best d Q 130 [l0, l1, l2, l3, l4, l5, l6] (.int x :: st) P := X_istore (M := mX11_best) (dX11_best_130) (by decide) rfl (xnl_p (ls := [l0, l1, l2, l3, l4, l5, l6]) (j := 3) rfl hn) k
theorem dX11_best_132 : decode cX11_best 132 = .ok (.iinc 5 1, 3) := by decide +kernel
theorem sX11_best_132 {l0 l1 l2 l3 l4 l6 : Option Value} {x : Int32} (hn : xnl l4 = true) (k : X w mX11_best d Q 135 [l0, l1, l2, l3, l4, some (.int (x + (1 : Int32))), l6] st P) : X w mX11_best d Q 132 [l0, l1, l2, l3, l4, some (.int x), l6] st P := X_iinc (M := mX11_best) (dX11_best_132) rfl (by rfl) (by decide) rfl (xnl_p (ls := [l0, l1, l2, l3, l4, some (.int x), l6]) (j := 4) rfl hn) k
theorem dX11_best_135 : decode cX11_best 135 = .ok (.goto (-89), 3) := by decide +kernel
theorem sX11_best_135 (k : X w mX11_best d Q 46 ls st P) : X w mX11_best d Q 135 ls st P := X_goto (M := mX11_best) (dX11_best_135) (by decide) k
theorem dX11_best_138 : decode cX11_best 138 = .ok (.iload 4, 2) := by decide +kernel
theorem sX11_best_138 {l0 l1 l2 l3 l5 l6 : Option Value} {x : Int32} (k : X w mX11_best d Q 140 [l0, l1, l2, l3, some (.int x), l5, l6] (.int x :: st) P) : X w mX11_best d Q 138 [l0, l1, l2, l3, some (.int x), l5, l6] st P := X_iload (M := mX11_best) (dX11_best_138) rfl k
theorem dX11_best_140 : decode cX11_best 140 = .ok (.ireturn, 1) := by decide +kernel
theorem sX11_best_140 {v : Int32} (hq : Q (.returned (some (.int v))) P) : X w mX11_best d Q 140 ls [.int v] P := X_iret (M := mX11_best) (dX11_best_140) rfl hq
theorem dX11_letter_0 : decode cX11_letter 0 = .ok (.bipush 12, 2) := by decide +kernel
theorem sX11_letter_0 (k : X w mX11_letter d Q 2 ls (.int (12 : Int32) :: st) P) : X w mX11_letter d Q 0 ls st P := X_bipush (M := mX11_letter) (dX11_letter_0) (by decide) k
theorem dX11_letter_2 : decode cX11_letter 2 = .ok (.aload_n 0, 1) := by decide +kernel
theorem sX11_letter_2 {l1 l2 l3 l4 l5 l6 l7 : Option Value} {x : Nat} (k : X w mX11_letter d Q 3 [some (.ref x), l1, l2, l3, l4, l5, l6, l7] (.ref x :: st) P) : X w mX11_letter d Q 2 [some (.ref x), l1, l2, l3, l4, l5, l6, l7] st P := X_aload_n (M := mX11_letter) (dX11_letter_2) rfl rfl k
theorem dX11_letter_3 : decode cX11_letter 3 = .ok (.getfield 226, 3) := by decide +kernel
theorem sX11_letter_3 {a : Nat} {fs : List Value} {v : Int32} (hP : P.1 a = some (xO 9 fs)) (hv : fs[3]? = some (.int v)) (k : X w mX11_letter d Q 6 ls (.int v :: st) P) : X w mX11_letter d Q 3 ls (.ref a :: st) P := X_get (M := mX11_letter) (j := 3) (T := TX11) (dX11_letter_3) rfl (by decide) x_in11 xw_521 hP hv k
theorem dX11_letter_6 : decode cX11_letter 6 = .ok (.imul, 1) := by decide +kernel
theorem sX11_letter_6 {x y : Int32} (k : X w mX11_letter d Q 7 ls (.int (x * y) :: st) P) : X w mX11_letter d Q 6 ls (.int y :: .int x :: st) P := X_imul (M := mX11_letter) (dX11_letter_6) k
theorem dX11_letter_7 : decode cX11_letter 7 = .ok (.iload_n 1, 1) := by decide +kernel
theorem sX11_letter_7 {l0 l2 l3 l4 l5 l6 l7 : Option Value} {x : Int32} (k : X w mX11_letter d Q 8 [l0, some (.int x), l2, l3, l4, l5, l6, l7] (.int x :: st) P) : X w mX11_letter d Q 7 [l0, some (.int x), l2, l3, l4, l5, l6, l7] st P := X_iload_n (M := mX11_letter) (dX11_letter_7) rfl rfl k
theorem dX11_letter_8 : decode cX11_letter 8 = .ok (.iadd, 1) := by decide +kernel
theorem sX11_letter_8 {x y : Int32} (k : X w mX11_letter d Q 9 ls (.int (x + y) :: st) P) : X w mX11_letter d Q 8 ls (.int y :: .int x :: st) P := X_iadd (M := mX11_letter) (dX11_letter_8) k
theorem dX11_letter_9 : decode cX11_letter 9 = .ok (.istore 4, 2) := by decide +kernel
theorem sX11_letter_9 {l0 l1 l2 l3 l4 l5 l6 l7 : Option Value} {x : Int32} (hn : xnl l3 = true) (k : X w mX11_letter d Q 11 [l0, l1, l2, l3, some (.int x), l5, l6, l7] st P) : X w mX11_letter d Q 9 [l0, l1, l2, l3, l4, l5, l6, l7] (.int x :: st) P := X_istore (M := mX11_letter) (dX11_letter_9) (by decide) rfl (xnl_p (ls := [l0, l1, l2, l3, l4, l5, l6, l7]) (j := 3) rfl hn) k
theorem dX11_letter_11 : decode cX11_letter 11 = .ok (.aload_n 0, 1) := by decide +kernel
theorem sX11_letter_11 {l1 l2 l3 l4 l5 l6 l7 : Option Value} {x : Nat} (k : X w mX11_letter d Q 12 [some (.ref x), l1, l2, l3, l4, l5, l6, l7] (.ref x :: st) P) : X w mX11_letter d Q 11 [some (.ref x), l1, l2, l3, l4, l5, l6, l7] st P := X_aload_n (M := mX11_letter) (dX11_letter_11) rfl rfl k
theorem dX11_letter_12 : decode cX11_letter 12 = .ok (.aload_n 0, 1) := by decide +kernel
theorem sX11_letter_12 {l1 l2 l3 l4 l5 l6 l7 : Option Value} {x : Nat} (k : X w mX11_letter d Q 13 [some (.ref x), l1, l2, l3, l4, l5, l6, l7] (.ref x :: st) P) : X w mX11_letter d Q 12 [some (.ref x), l1, l2, l3, l4, l5, l6, l7] st P := X_aload_n (M := mX11_letter) (dX11_letter_12) rfl rfl k
theorem dX11_letter_13 : decode cX11_letter 13 = .ok (.iload_n 1, 1) := by decide +kernel
theorem sX11_letter_13 {l0 l2 l3 l4 l5 l6 l7 : Option Value} {x : Int32} (k : X w mX11_letter d Q 14 [l0, some (.int x), l2, l3, l4, l5, l6, l7] (.int x :: st) P) : X w mX11_letter d Q 13 [l0, some (.int x), l2, l3, l4, l5, l6, l7] st P := X_iload_n (M := mX11_letter) (dX11_letter_13) rfl rfl k
theorem dX11_letter_14 : decode cX11_letter 14 = .ok (.invokevirtual 238, 3) := by decide +kernel
theorem sX11_letter_14_g {b : Nat} {fs : List Value} {a0 : Int32} {Qc : Outcome → xH → Prop} (hst : (st.map fun v => v.category).sum ≤ 8) (hP : P.1 b = some (xO 9 fs)) (hC : xC w d mX11_isCell [.ref b, .int a0] P Qc) (kr : ∀ v P1, Qc (.returned v) P1 → X w mX11_letter (d + 1) Q 17 ls (v.toList ++ st) P1) (kt : ∀ q P1, Qc (.threw q) P1 → Xt w mX11_letter (d + 1) Q 14 ls st P1 q) : X w mX11_letter (d + 1) Q 14 ls (.int a0 :: .ref b :: st) P := X_callV (M := mX11_letter) (MC := mX11_isCell) (As := [.int a0]) (T := TX11) (dX11_letter_14) calX11_isCell xw_530 xw_531 xw_532 rfl rfl hP hC hst kr kt
theorem sX11_letter_14 {b : Nat} {fs : List Value} {a0 : Int32} {r : Int32} {P1 : xH} (hst : (st.map fun v => v.category).sum ≤ 8) (hP : P.1 b = some (xO 9 fs)) (hC : xC w d mX11_isCell [.ref b, .int a0] P (xRet (some (.int r)) P1)) (k : X w mX11_letter (d + 1) Q 17 ls (.int r :: st) P1) : X w mX11_letter (d + 1) Q 14 ls (.int a0 :: .ref b :: st) P := X_callV (M := mX11_letter) (MC := mX11_isCell) (As := [.int a0]) (T := TX11) (dX11_letter_14) calX11_isCell xw_530 xw_531 xw_532 rfl rfl hP hC hst (fun v P2 h => by obtain ⟨h1, rfl⟩ := h; cases h1; exact k) (fun q P2 h => by cases h.1)
theorem sX11_letter_14_r {b : Nat} {fs : List Value} {a0 : Int32} {r : Int32} {Rp : xH → Prop} (hst : (st.map fun v => v.category).sum ≤ 8) (hP : P.1 b = some (xO 9 fs)) (hC : xC w d mX11_isCell [.ref b, .int a0] P (xRl (some (.int r)) Rp)) (k : ∀ P1, Rp P1 → X w mX11_letter (d + 1) Q 17 ls (.int r :: st) P1) : X w mX11_letter (d + 1) Q 14 ls (.int a0 :: .ref b :: st) P := X_callV (M := mX11_letter) (MC := mX11_isCell) (As := [.int a0]) (T := TX11) (dX11_letter_14) calX11_isCell xw_530 xw_531 xw_532 rfl rfl hP hC hst (fun v P2 h => by obtain ⟨h1, hR⟩ := h; cases h1; exact k P2 hR) (fun q P2 h => by cases h.1)
theorem sX11_letter_14_t {b : Nat} {fs : List Value} {a0 : Int32} {q : Nat} {P1 : xH} (hst : (st.map fun v => v.category).sum ≤ 8) (hP : P.1 b = some (xO 9 fs)) (hC : xC w d mX11_isCell [.ref b, .int a0] P (xThr q P1)) (hq : Q (.threw q) P1) : X w mX11_letter (d + 1) Q 14 ls (.int a0 :: .ref b :: st) P := X_callV (M := mX11_letter) (MC := mX11_isCell) (As := [.int a0]) (T := TX11) (dX11_letter_14) calX11_isCell xw_530 xw_531 xw_532 rfl rfl hP hC hst (fun v P2 h => by cases h.1) (fun q2 P2 h => by obtain ⟨h1, rfl⟩ := h; cases h1; exact Xt_out rfl hq)
theorem dX11_letter_17 : decode cX11_letter 17 = .ok (.ifCond .eq 31, 3) := by decide +kernel
theorem sX11_letter_17 {x : Int32} (kt : x = 0 → X w mX11_letter d Q 48 ls st P) (kf : ¬ x = 0 → X w mX11_letter d Q 20 ls st P) : X w mX11_letter d Q 17 ls (.int x :: st) P := X_if_eq (M := mX11_letter) (dX11_letter_17) (by decide) kt kf
theorem dX11_letter_20 : decode cX11_letter 20 = .ok (.iload_n 2, 1) := by decide +kernel
theorem sX11_letter_20 {l0 l1 l3 l4 l5 l6 l7 : Option Value} {x : Int32} (k : X w mX11_letter d Q 21 [l0, l1, some (.int x), l3, l4, l5, l6, l7] (.int x :: st) P) : X w mX11_letter d Q 20 [l0, l1, some (.int x), l3, l4, l5, l6, l7] st P := X_iload_n (M := mX11_letter) (dX11_letter_20) rfl rfl k
theorem dX11_letter_21 : decode cX11_letter 21 = .ok (.iconst (-1), 1) := by decide +kernel
theorem sX11_letter_21 (k : X w mX11_letter d Q 22 ls (.int (-1 : Int32) :: st) P) : X w mX11_letter d Q 21 ls st P := X_iconst (M := mX11_letter) (dX11_letter_21) (by decide) k
theorem dX11_letter_22 : decode cX11_letter 22 = .ok (.if_icmp .lt 26, 3) := by decide +kernel
theorem sX11_letter_22 {x y : Int32} (kt : x < y → X w mX11_letter d Q 48 ls st P) (kf : ¬ x < y → X w mX11_letter d Q 25 ls st P) : X w mX11_letter d Q 22 ls (.int y :: .int x :: st) P := X_icmp_lt (M := mX11_letter) (dX11_letter_22) (by decide) kt kf
theorem dX11_letter_25 : decode cX11_letter 25 = .ok (.iload_n 2, 1) := by decide +kernel
theorem sX11_letter_25 {l0 l1 l3 l4 l5 l6 l7 : Option Value} {x : Int32} (k : X w mX11_letter d Q 26 [l0, l1, some (.int x), l3, l4, l5, l6, l7] (.int x :: st) P) : X w mX11_letter d Q 25 [l0, l1, some (.int x), l3, l4, l5, l6, l7] st P := X_iload_n (M := mX11_letter) (dX11_letter_25) rfl rfl k
theorem dX11_letter_26 : decode cX11_letter 26 = .ok (.aload_n 0, 1) := by decide +kernel
theorem sX11_letter_26 {l1 l2 l3 l4 l5 l6 l7 : Option Value} {x : Nat} (k : X w mX11_letter d Q 27 [some (.ref x), l1, l2, l3, l4, l5, l6, l7] (.ref x :: st) P) : X w mX11_letter d Q 26 [some (.ref x), l1, l2, l3, l4, l5, l6, l7] st P := X_aload_n (M := mX11_letter) (dX11_letter_26) rfl rfl k
theorem dX11_letter_27 : decode cX11_letter 27 = .ok (.getfield 47, 3) := by decide +kernel
theorem sX11_letter_27 {a : Nat} {fs : List Value} {v : Nat} (hP : P.1 a = some (xO 9 fs)) (hv : fs[15]? = some (.ref v)) (k : X w mX11_letter d Q 30 ls (.ref v :: st) P) : X w mX11_letter d Q 27 ls (.ref a :: st) P := X_get (M := mX11_letter) (j := 15) (T := TX11) (dX11_letter_27) rfl (by decide) x_in11 xw_416 hP hv k
theorem dX11_letter_30 : decode cX11_letter 30 = .ok (.iload 4, 2) := by decide +kernel
theorem sX11_letter_30 {l0 l1 l2 l3 l5 l6 l7 : Option Value} {x : Int32} (k : X w mX11_letter d Q 32 [l0, l1, l2, l3, some (.int x), l5, l6, l7] (.int x :: st) P) : X w mX11_letter d Q 30 [l0, l1, l2, l3, some (.int x), l5, l6, l7] st P := X_iload (M := mX11_letter) (dX11_letter_30) rfl k
theorem dX11_letter_32 : decode cX11_letter 32 = .ok (.iaload, 1) := by decide +kernel
theorem sX11_letter_32 {a n : Nat} {f : Nat → Int32} {i : Int32} (hP : P.1 a = some (xA 0 n f)) (hi : vp_in i n) (k : X w mX11_letter d Q 33 ls (.int (f i.toNatClampNeg) :: st) P) : X w mX11_letter d Q 32 ls (.int i :: .ref a :: st) P := X_iald (M := mX11_letter) (dX11_letter_32) hP hi k
theorem dX11_letter_33 : decode cX11_letter 33 = .ok (.aload_n 0, 1) := by decide +kernel
theorem sX11_letter_33 {l1 l2 l3 l4 l5 l6 l7 : Option Value} {x : Nat} (k : X w mX11_letter d Q 34 [some (.ref x), l1, l2, l3, l4, l5, l6, l7] (.ref x :: st) P) : X w mX11_letter d Q 33 [some (.ref x), l1, l2, l3, l4, l5, l6, l7] st P := X_aload_n (M := mX11_letter) (dX11_letter_33) rfl rfl k
theorem dX11_letter_34 : decode cX11_letter 34 = .ok (.getfield 50, 3) := by decide +kernel
theorem sX11_letter_34 {a : Nat} {fs : List Value} {v : Nat} (hP : P.1 a = some (xO 9 fs)) (hv : fs[16]? = some (.ref v)) (k : X w mX11_letter d Q 37 ls (.ref v :: st) P) : X w mX11_letter d Q 34 ls (.ref a :: st) P := X_get (M := mX11_letter) (j := 16) (T := TX11) (dX11_letter_34) rfl (by decide) x_in11 xw_417 hP hv k
theorem dX11_letter_37 : decode cX11_letter 37 = .ok (.iload 4, 2) := by decide +kernel
theorem sX11_letter_37 {l0 l1 l2 l3 l5 l6 l7 : Option Value} {x : Int32} (k : X w mX11_letter d Q 39 [l0, l1, l2, l3, some (.int x), l5, l6, l7] (.int x :: st) P) : X w mX11_letter d Q 37 [l0, l1, l2, l3, some (.int x), l5, l6, l7] st P := X_iload (M := mX11_letter) (dX11_letter_37) rfl k
theorem dX11_letter_39 : decode cX11_letter 39 = .ok (.iaload, 1) := by decide +kernel
theorem sX11_letter_39 {a n : Nat} {f : Nat → Int32} {i : Int32} (hP : P.1 a = some (xA 0 n f)) (hi : vp_in i n) (k : X w mX11_letter d Q 40 ls (.int (f i.toNatClampNeg) :: st) P) : X w mX11_letter d Q 39 ls (.int i :: .ref a :: st) P := X_iald (M := mX11_letter) (dX11_letter_39) hP hi k
theorem dX11_letter_40 : decode cX11_letter 40 = .ok (.iadd, 1) := by decide +kernel
theorem sX11_letter_40 {x y : Int32} (k : X w mX11_letter d Q 41 ls (.int (x + y) :: st) P) : X w mX11_letter d Q 40 ls (.int y :: .int x :: st) P := X_iadd (M := mX11_letter) (dX11_letter_40) k
theorem dX11_letter_41 : decode cX11_letter 41 = .ok (.if_icmp .ge 7, 3) := by decide +kernel
theorem sX11_letter_41 {x y : Int32} (kt : y ≤ x → X w mX11_letter d Q 48 ls st P) (kf : ¬ y ≤ x → X w mX11_letter d Q 44 ls st P) : X w mX11_letter d Q 41 ls (.int y :: .int x :: st) P := X_icmp_ge (M := mX11_letter) (dX11_letter_41) (by decide) kt kf
theorem dX11_letter_44 : decode cX11_letter 44 = .ok (.iload_n 3, 1) := by decide +kernel
theorem sX11_letter_44 {l0 l1 l2 l4 l5 l6 l7 : Option Value} {x : Int32} (k : X w mX11_letter d Q 45 [l0, l1, l2, some (.int x), l4, l5, l6, l7] (.int x :: st) P) : X w mX11_letter d Q 44 [l0, l1, l2, some (.int x), l4, l5, l6, l7] st P := X_iload_n (M := mX11_letter) (dX11_letter_44) rfl rfl k
theorem dX11_letter_45 : decode cX11_letter 45 = .ok (.ifCond .ge 7, 3) := by decide +kernel
theorem sX11_letter_45 {x : Int32} (kt : 0 ≤ x → X w mX11_letter d Q 52 ls st P) (kf : ¬ 0 ≤ x → X w mX11_letter d Q 48 ls st P) : X w mX11_letter d Q 45 ls (.int x :: st) P := X_if_ge (M := mX11_letter) (dX11_letter_45) (by decide) kt kf
theorem dX11_letter_48 : decode cX11_letter 48 = .ok (.iconst 1, 1) := by decide +kernel
theorem sX11_letter_48 (k : X w mX11_letter d Q 49 ls (.int (1 : Int32) :: st) P) : X w mX11_letter d Q 48 ls st P := X_iconst (M := mX11_letter) (dX11_letter_48) (by decide) k
theorem dX11_letter_49 : decode cX11_letter 49 = .ok (.goto 4, 3) := by decide +kernel
theorem sX11_letter_49 (k : X w mX11_letter d Q 53 ls st P) : X w mX11_letter d Q 49 ls st P := X_goto (M := mX11_letter) (dX11_letter_49) (by decide) k
theorem dX11_letter_52 : decode cX11_letter 52 = .ok (.iconst 0, 1) := by decide +kernel
theorem sX11_letter_52 (k : X w mX11_letter d Q 53 ls (.int (0 : Int32) :: st) P) : X w mX11_letter d Q 52 ls st P := X_iconst (M := mX11_letter) (dX11_letter_52) (by decide) k
theorem dX11_letter_53 : decode cX11_letter 53 = .ok (.putfield 84, 3) := by decide +kernel
theorem sX11_letter_53 {a : Nat} {fs : List Value} {v : Int32} (hP : P.1 a = some (xO 9 fs)) (hl : 0 < fs.length) (k : X w mX11_letter d Q 56 ls st (xs P a (xO 9 (fs.set 0 (.int v))))) : X w mX11_letter d Q 53 ls (.int v :: .ref a :: st) P := X_put (M := mX11_letter) (j := 0) (T := TX11) (dX11_letter_53) rfl (by decide) x_c11 xw_428 rfl hP rfl rfl hl k
theorem dX11_letter_56 : decode cX11_letter 56 = .ok (.aload_n 0, 1) := by decide +kernel
theorem sX11_letter_56 {l1 l2 l3 l4 l5 l6 l7 : Option Value} {x : Nat} (k : X w mX11_letter d Q 57 [some (.ref x), l1, l2, l3, l4, l5, l6, l7] (.ref x :: st) P) : X w mX11_letter d Q 56 [some (.ref x), l1, l2, l3, l4, l5, l6, l7] st P := X_aload_n (M := mX11_letter) (dX11_letter_56) rfl rfl k
theorem dX11_letter_57 : decode cX11_letter 57 = .ok (.getfield 84, 3) := by decide +kernel
theorem sX11_letter_57 {a : Nat} {fs : List Value} {v : Int32} (hP : P.1 a = some (xO 9 fs)) (hv : fs[0]? = some (.int v)) (k : X w mX11_letter d Q 60 ls (.int v :: st) P) : X w mX11_letter d Q 57 ls (.ref a :: st) P := X_get (M := mX11_letter) (j := 0) (T := TX11) (dX11_letter_57) rfl (by decide) x_in11 xw_428 hP hv k
theorem dX11_letter_60 : decode cX11_letter 60 = .ok (.ifCond .le 5, 3) := by decide +kernel
theorem sX11_letter_60 {x : Int32} (kt : x ≤ 0 → X w mX11_letter d Q 65 ls st P) (kf : ¬ x ≤ 0 → X w mX11_letter d Q 63 ls st P) : X w mX11_letter d Q 60 ls (.int x :: st) P := X_if_le (M := mX11_letter) (dX11_letter_60) (by decide) kt kf
theorem dX11_letter_63 : decode cX11_letter 63 = .ok (.iconst 0, 1) := by decide +kernel
theorem sX11_letter_63 (k : X w mX11_letter d Q 64 ls (.int (0 : Int32) :: st) P) : X w mX11_letter d Q 63 ls st P := X_iconst (M := mX11_letter) (dX11_letter_63) (by decide) k
theorem dX11_letter_64 : decode cX11_letter 64 = .ok (.ireturn, 1) := by decide +kernel
theorem sX11_letter_64 {v : Int32} (hq : Q (.returned (some (.int v))) P) : X w mX11_letter d Q 64 ls [.int v] P := X_iret (M := mX11_letter) (dX11_letter_64) rfl hq
theorem dX11_letter_65 : decode cX11_letter 65 = .ok (.iload_n 2, 1) := by decide +kernel
theorem sX11_letter_65 {l0 l1 l3 l4 l5 l6 l7 : Option Value} {x : Int32} (k : X w mX11_letter d Q 66 [l0, l1, some (.int x), l3, l4, l5, l6, l7] (.int x :: st) P) : X w mX11_letter d Q 65 [l0, l1, some (.int x), l3, l4, l5, l6, l7] st P := X_iload_n (M := mX11_letter) (dX11_letter_65) rfl rfl k
theorem dX11_letter_66 : decode cX11_letter 66 = .ok (.iconst (-1), 1) := by decide +kernel
theorem sX11_letter_66 (k : X w mX11_letter d Q 67 ls (.int (-1 : Int32) :: st) P) : X w mX11_letter d Q 66 ls st P := X_iconst (M := mX11_letter) (dX11_letter_66) (by decide) k
theorem dX11_letter_67 : decode cX11_letter 67 = .ok (.if_icmp .ne 13, 3) := by decide +kernel
theorem sX11_letter_67 {x y : Int32} (kt : ¬ x = y → X w mX11_letter d Q 80 ls st P) (kf : x = y → X w mX11_letter d Q 70 ls st P) : X w mX11_letter d Q 67 ls (.int y :: .int x :: st) P := X_icmp_ne (M := mX11_letter) (dX11_letter_67) (by decide) kt kf
theorem dX11_letter_70 : decode cX11_letter 70 = .ok (.aload_n 0, 1) := by decide +kernel
theorem sX11_letter_70 {l1 l2 l3 l4 l5 l6 l7 : Option Value} {x : Nat} (k : X w mX11_letter d Q 71 [some (.ref x), l1, l2, l3, l4, l5, l6, l7] (.ref x :: st) P) : X w mX11_letter d Q 70 [some (.ref x), l1, l2, l3, l4, l5, l6, l7] st P := X_aload_n (M := mX11_letter) (dX11_letter_70) rfl rfl k
theorem dX11_letter_71 : decode cX11_letter 71 = .ok (.getfield 38, 3) := by decide +kernel
theorem sX11_letter_71 {a : Nat} {fs : List Value} {v : Nat} (hP : P.1 a = some (xO 9 fs)) (hv : fs[12]? = some (.ref v)) (k : X w mX11_letter d Q 74 ls (.ref v :: st) P) : X w mX11_letter d Q 71 ls (.ref a :: st) P := X_get (M := mX11_letter) (j := 12) (T := TX11) (dX11_letter_71) rfl (by decide) x_in11 xw_413 hP hv k
theorem dX11_letter_74 : decode cX11_letter 74 = .ok (.iload 4, 2) := by decide +kernel
theorem sX11_letter_74 {l0 l1 l2 l3 l5 l6 l7 : Option Value} {x : Int32} (k : X w mX11_letter d Q 76 [l0, l1, l2, l3, some (.int x), l5, l6, l7] (.int x :: st) P) : X w mX11_letter d Q 74 [l0, l1, l2, l3, some (.int x), l5, l6, l7] st P := X_iload (M := mX11_letter) (dX11_letter_74) rfl k
theorem dX11_letter_76 : decode cX11_letter 76 = .ok (.laload, 1) := by decide +kernel
theorem sX11_letter_76 {a n : Nat} {f : Nat → Int64} {i : Int32} (hP : P.1 a = some (xJ n f)) (hi : vp_in i n) (k : X w mX11_letter d Q 77 ls (.long (f i.toNatClampNeg) :: st) P) : X w mX11_letter d Q 76 ls (.int i :: .ref a :: st) P := X_lald (M := mX11_letter) (dX11_letter_76) hP hi k
theorem dX11_letter_77 : decode cX11_letter 77 = .ok (.goto 52, 3) := by decide +kernel
theorem sX11_letter_77 (k : X w mX11_letter d Q 129 ls st P) : X w mX11_letter d Q 77 ls st P := X_goto (M := mX11_letter) (dX11_letter_77) (by decide) k
theorem dX11_letter_80 : decode cX11_letter 80 = .ok (.iload_n 2, 1) := by decide +kernel
theorem sX11_letter_80 {l0 l1 l3 l4 l5 l6 l7 : Option Value} {x : Int32} (k : X w mX11_letter d Q 81 [l0, l1, some (.int x), l3, l4, l5, l6, l7] (.int x :: st) P) : X w mX11_letter d Q 80 [l0, l1, some (.int x), l3, l4, l5, l6, l7] st P := X_iload_n (M := mX11_letter) (dX11_letter_80) rfl rfl k
theorem dX11_letter_81 : decode cX11_letter 81 = .ok (.aload_n 0, 1) := by decide +kernel
theorem sX11_letter_81 {l1 l2 l3 l4 l5 l6 l7 : Option Value} {x : Nat} (k : X w mX11_letter d Q 82 [some (.ref x), l1, l2, l3, l4, l5, l6, l7] (.ref x :: st) P) : X w mX11_letter d Q 81 [some (.ref x), l1, l2, l3, l4, l5, l6, l7] st P := X_aload_n (M := mX11_letter) (dX11_letter_81) rfl rfl k
theorem dX11_letter_82 : decode cX11_letter 82 = .ok (.getfield 47, 3) := by decide +kernel
theorem sX11_letter_82 {a : Nat} {fs : List Value} {v : Nat} (hP : P.1 a = some (xO 9 fs)) (hv : fs[15]? = some (.ref v)) (k : X w mX11_letter d Q 85 ls (.ref v :: st) P) : X w mX11_letter d Q 82 ls (.ref a :: st) P := X_get (M := mX11_letter) (j := 15) (T := TX11) (dX11_letter_82) rfl (by decide) x_in11 xw_416 hP hv k
theorem dX11_letter_85 : decode cX11_letter 85 = .ok (.iload 4, 2) := by decide +kernel
theorem sX11_letter_85 {l0 l1 l2 l3 l5 l6 l7 : Option Value} {x : Int32} (k : X w mX11_letter d Q 87 [l0, l1, l2, l3, some (.int x), l5, l6, l7] (.int x :: st) P) : X w mX11_letter d Q 85 [l0, l1, l2, l3, some (.int x), l5, l6, l7] st P := X_iload (M := mX11_letter) (dX11_letter_85) rfl k
theorem dX11_letter_87 : decode cX11_letter 87 = .ok (.iaload, 1) := by decide +kernel
theorem sX11_letter_87 {a n : Nat} {f : Nat → Int32} {i : Int32} (hP : P.1 a = some (xA 0 n f)) (hi : vp_in i n) (k : X w mX11_letter d Q 88 ls (.int (f i.toNatClampNeg) :: st) P) : X w mX11_letter d Q 87 ls (.int i :: .ref a :: st) P := X_iald (M := mX11_letter) (dX11_letter_87) hP hi k
theorem dX11_letter_88 : decode cX11_letter 88 = .ok (.if_icmp .ge 18, 3) := by decide +kernel
theorem sX11_letter_88 {x y : Int32} (kt : y ≤ x → X w mX11_letter d Q 106 ls st P) (kf : ¬ y ≤ x → X w mX11_letter d Q 91 ls st P) : X w mX11_letter d Q 88 ls (.int y :: .int x :: st) P := X_icmp_ge (M := mX11_letter) (dX11_letter_88) (by decide) kt kf
theorem dX11_letter_91 : decode cX11_letter 91 = .ok (.aload_n 0, 1) := by decide +kernel
theorem sX11_letter_91 {l1 l2 l3 l4 l5 l6 l7 : Option Value} {x : Nat} (k : X w mX11_letter d Q 92 [some (.ref x), l1, l2, l3, l4, l5, l6, l7] (.ref x :: st) P) : X w mX11_letter d Q 91 [some (.ref x), l1, l2, l3, l4, l5, l6, l7] st P := X_aload_n (M := mX11_letter) (dX11_letter_91) rfl rfl k
theorem dX11_letter_92 : decode cX11_letter 92 = .ok (.getfield 44, 3) := by decide +kernel
theorem sX11_letter_92 {a : Nat} {fs : List Value} {v : Nat} (hP : P.1 a = some (xO 9 fs)) (hv : fs[14]? = some (.ref v)) (k : X w mX11_letter d Q 95 ls (.ref v :: st) P) : X w mX11_letter d Q 92 ls (.ref a :: st) P := X_get (M := mX11_letter) (j := 14) (T := TX11) (dX11_letter_92) rfl (by decide) x_in11 xw_415 hP hv k
theorem dX11_letter_95 : decode cX11_letter 95 = .ok (.bipush 9, 2) := by decide +kernel
theorem sX11_letter_95 (k : X w mX11_letter d Q 97 ls (.int (9 : Int32) :: st) P) : X w mX11_letter d Q 95 ls st P := X_bipush (M := mX11_letter) (dX11_letter_95) (by decide) k
theorem dX11_letter_97 : decode cX11_letter 97 = .ok (.iload 4, 2) := by decide +kernel
theorem sX11_letter_97 {l0 l1 l2 l3 l5 l6 l7 : Option Value} {x : Int32} (k : X w mX11_letter d Q 99 [l0, l1, l2, l3, some (.int x), l5, l6, l7] (.int x :: st) P) : X w mX11_letter d Q 97 [l0, l1, l2, l3, some (.int x), l5, l6, l7] st P := X_iload (M := mX11_letter) (dX11_letter_97) rfl k
theorem dX11_letter_99 : decode cX11_letter 99 = .ok (.imul, 1) := by decide +kernel
theorem sX11_letter_99 {x y : Int32} (k : X w mX11_letter d Q 100 ls (.int (x * y) :: st) P) : X w mX11_letter d Q 99 ls (.int y :: .int x :: st) P := X_imul (M := mX11_letter) (dX11_letter_99) k
theorem dX11_letter_100 : decode cX11_letter 100 = .ok (.iload_n 2, 1) := by decide +kernel
theorem sX11_letter_100 {l0 l1 l3 l4 l5 l6 l7 : Option Value} {x : Int32} (k : X w mX11_letter d Q 101 [l0, l1, some (.int x), l3, l4, l5, l6, l7] (.int x :: st) P) : X w mX11_letter d Q 100 [l0, l1, some (.int x), l3, l4, l5, l6, l7] st P := X_iload_n (M := mX11_letter) (dX11_letter_100) rfl rfl k
theorem dX11_letter_101 : decode cX11_letter 101 = .ok (.iadd, 1) := by decide +kernel
theorem sX11_letter_101 {x y : Int32} (k : X w mX11_letter d Q 102 ls (.int (x + y) :: st) P) : X w mX11_letter d Q 101 ls (.int y :: .int x :: st) P := X_iadd (M := mX11_letter) (dX11_letter_101) k
theorem dX11_letter_102 : decode cX11_letter 102 = .ok (.laload, 1) := by decide +kernel
theorem sX11_letter_102 {a n : Nat} {f : Nat → Int64} {i : Int32} (hP : P.1 a = some (xJ n f)) (hi : vp_in i n) (k : X w mX11_letter d Q 103 ls (.long (f i.toNatClampNeg) :: st) P) : X w mX11_letter d Q 102 ls (.int i :: .ref a :: st) P := X_lald (M := mX11_letter) (dX11_letter_102) hP hi k
theorem dX11_letter_103 : decode cX11_letter 103 = .ok (.goto 26, 3) := by decide +kernel
theorem sX11_letter_103 (k : X w mX11_letter d Q 129 ls st P) : X w mX11_letter d Q 103 ls st P := X_goto (M := mX11_letter) (dX11_letter_103) (by decide) k
theorem dX11_letter_106 : decode cX11_letter 106 = .ok (.aload_n 0, 1) := by decide +kernel
theorem sX11_letter_106 {l1 l2 l3 l4 l5 l6 l7 : Option Value} {x : Nat} (k : X w mX11_letter d Q 107 [some (.ref x), l1, l2, l3, l4, l5, l6, l7] (.ref x :: st) P) : X w mX11_letter d Q 106 [some (.ref x), l1, l2, l3, l4, l5, l6, l7] st P := X_aload_n (M := mX11_letter) (dX11_letter_106) rfl rfl k
theorem dX11_letter_107 : decode cX11_letter 107 = .ok (.getfield 44, 3) := by decide +kernel
theorem sX11_letter_107 {a : Nat} {fs : List Value} {v : Nat} (hP : P.1 a = some (xO 9 fs)) (hv : fs[14]? = some (.ref v)) (k : X w mX11_letter d Q 110 ls (.ref v :: st) P) : X w mX11_letter d Q 107 ls (.ref a :: st) P := X_get (M := mX11_letter) (j := 14) (T := TX11) (dX11_letter_107) rfl (by decide) x_in11 xw_415 hP hv k
theorem dX11_letter_110 : decode cX11_letter 110 = .ok (.bipush 9, 2) := by decide +kernel
theorem sX11_letter_110 (k : X w mX11_letter d Q 112 ls (.int (9 : Int32) :: st) P) : X w mX11_letter d Q 110 ls st P := X_bipush (M := mX11_letter) (dX11_letter_110) (by decide) k
theorem dX11_letter_112 : decode cX11_letter 112 = .ok (.iload 4, 2) := by decide +kernel
theorem sX11_letter_112 {l0 l1 l2 l3 l5 l6 l7 : Option Value} {x : Int32} (k : X w mX11_letter d Q 114 [l0, l1, l2, l3, some (.int x), l5, l6, l7] (.int x :: st) P) : X w mX11_letter d Q 112 [l0, l1, l2, l3, some (.int x), l5, l6, l7] st P := X_iload (M := mX11_letter) (dX11_letter_112) rfl k
theorem dX11_letter_114 : decode cX11_letter 114 = .ok (.imul, 1) := by decide +kernel
theorem sX11_letter_114 {x y : Int32} (k : X w mX11_letter d Q 115 ls (.int (x * y) :: st) P) : X w mX11_letter d Q 114 ls (.int y :: .int x :: st) P := X_imul (M := mX11_letter) (dX11_letter_114) k
theorem dX11_letter_115 : decode cX11_letter 115 = .ok (.bipush 6, 2) := by decide +kernel
theorem sX11_letter_115 (k : X w mX11_letter d Q 117 ls (.int (6 : Int32) :: st) P) : X w mX11_letter d Q 115 ls st P := X_bipush (M := mX11_letter) (dX11_letter_115) (by decide) k
theorem dX11_letter_117 : decode cX11_letter 117 = .ok (.iadd, 1) := by decide +kernel
theorem sX11_letter_117 {x y : Int32} (k : X w mX11_letter d Q 118 ls (.int (x + y) :: st) P) : X w mX11_letter d Q 117 ls (.int y :: .int x :: st) P := X_iadd (M := mX11_letter) (dX11_letter_117) k
theorem dX11_letter_118 : decode cX11_letter 118 = .ok (.iload_n 2, 1) := by decide +kernel
theorem sX11_letter_118 {l0 l1 l3 l4 l5 l6 l7 : Option Value} {x : Int32} (k : X w mX11_letter d Q 119 [l0, l1, some (.int x), l3, l4, l5, l6, l7] (.int x :: st) P) : X w mX11_letter d Q 118 [l0, l1, some (.int x), l3, l4, l5, l6, l7] st P := X_iload_n (M := mX11_letter) (dX11_letter_118) rfl rfl k
theorem dX11_letter_119 : decode cX11_letter 119 = .ok (.iadd, 1) := by decide +kernel
theorem sX11_letter_119 {x y : Int32} (k : X w mX11_letter d Q 120 ls (.int (x + y) :: st) P) : X w mX11_letter d Q 119 ls (.int y :: .int x :: st) P := X_iadd (M := mX11_letter) (dX11_letter_119) k
theorem dX11_letter_120 : decode cX11_letter 120 = .ok (.aload_n 0, 1) := by decide +kernel
theorem sX11_letter_120 {l1 l2 l3 l4 l5 l6 l7 : Option Value} {x : Nat} (k : X w mX11_letter d Q 121 [some (.ref x), l1, l2, l3, l4, l5, l6, l7] (.ref x :: st) P) : X w mX11_letter d Q 120 [some (.ref x), l1, l2, l3, l4, l5, l6, l7] st P := X_aload_n (M := mX11_letter) (dX11_letter_120) rfl rfl k
theorem dX11_letter_121 : decode cX11_letter 121 = .ok (.getfield 47, 3) := by decide +kernel
theorem sX11_letter_121 {a : Nat} {fs : List Value} {v : Nat} (hP : P.1 a = some (xO 9 fs)) (hv : fs[15]? = some (.ref v)) (k : X w mX11_letter d Q 124 ls (.ref v :: st) P) : X w mX11_letter d Q 121 ls (.ref a :: st) P := X_get (M := mX11_letter) (j := 15) (T := TX11) (dX11_letter_121) rfl (by decide) x_in11 xw_416 hP hv k
theorem dX11_letter_124 : decode cX11_letter 124 = .ok (.iload 4, 2) := by decide +kernel
theorem sX11_letter_124 {l0 l1 l2 l3 l5 l6 l7 : Option Value} {x : Int32} (k : X w mX11_letter d Q 126 [l0, l1, l2, l3, some (.int x), l5, l6, l7] (.int x :: st) P) : X w mX11_letter d Q 124 [l0, l1, l2, l3, some (.int x), l5, l6, l7] st P := X_iload (M := mX11_letter) (dX11_letter_124) rfl k
theorem dX11_letter_126 : decode cX11_letter 126 = .ok (.iaload, 1) := by decide +kernel
theorem sX11_letter_126 {a n : Nat} {f : Nat → Int32} {i : Int32} (hP : P.1 a = some (xA 0 n f)) (hi : vp_in i n) (k : X w mX11_letter d Q 127 ls (.int (f i.toNatClampNeg) :: st) P) : X w mX11_letter d Q 126 ls (.int i :: .ref a :: st) P := X_iald (M := mX11_letter) (dX11_letter_126) hP hi k
theorem dX11_letter_127 : decode cX11_letter 127 = .ok (.isub, 1) := by decide +kernel
theorem sX11_letter_127 {x y : Int32} (k : X w mX11_letter d Q 128 ls (.int (x - y) :: st) P) : X w mX11_letter d Q 127 ls (.int y :: .int x :: st) P := X_isub (M := mX11_letter) (dX11_letter_127) k
theorem dX11_letter_128 : decode cX11_letter 128 = .ok (.laload, 1) := by decide +kernel
theorem sX11_letter_128 {a n : Nat} {f : Nat → Int64} {i : Int32} (hP : P.1 a = some (xJ n f)) (hi : vp_in i n) (k : X w mX11_letter d Q 129 ls (.long (f i.toNatClampNeg) :: st) P) : X w mX11_letter d Q 128 ls (.int i :: .ref a :: st) P := X_lald (M := mX11_letter) (dX11_letter_128) hP hi k
theorem dX11_letter_129 : decode cX11_letter 129 = .ok (.lstore 5, 2) := by decide +kernel
theorem sX11_letter_129 {l0 l1 l2 l3 l4 l5 l6 l7 : Option Value} {x : Int64} (hn : xnl l4 = true) (k : X w mX11_letter d Q 131 [l0, l1, l2, l3, l4, some (.long x), none, l7] st P) : X w mX11_letter d Q 129 [l0, l1, l2, l3, l4, l5, l6, l7] (.long x :: st) P := X_lstore (M := mX11_letter) (dX11_letter_129) (by decide) rfl (xnl_p (ls := [l0, l1, l2, l3, l4, l5, l6, l7]) (j := 4) rfl hn) k
theorem dX11_letter_131 : decode cX11_letter 131 = .ok (.iload_n 3, 1) := by decide +kernel
theorem sX11_letter_131 {l0 l1 l2 l4 l5 l6 l7 : Option Value} {x : Int32} (k : X w mX11_letter d Q 132 [l0, l1, l2, some (.int x), l4, l5, l6, l7] (.int x :: st) P) : X w mX11_letter d Q 131 [l0, l1, l2, some (.int x), l4, l5, l6, l7] st P := X_iload_n (M := mX11_letter) (dX11_letter_131) rfl rfl k
theorem dX11_letter_132 : decode cX11_letter 132 = .ok (.bipush 8, 2) := by decide +kernel
theorem sX11_letter_132 (k : X w mX11_letter d Q 134 ls (.int (8 : Int32) :: st) P) : X w mX11_letter d Q 132 ls st P := X_bipush (M := mX11_letter) (dX11_letter_132) (by decide) k
theorem dX11_letter_134 : decode cX11_letter 134 = .ok (.if_icmp .ge 21, 3) := by decide +kernel
theorem sX11_letter_134 {x y : Int32} (kt : y ≤ x → X w mX11_letter d Q 155 ls st P) (kf : ¬ y ≤ x → X w mX11_letter d Q 137 ls st P) : X w mX11_letter d Q 134 ls (.int y :: .int x :: st) P := X_icmp_ge (M := mX11_letter) (dX11_letter_134) (by decide) kt kf
theorem dX11_letter_137 : decode cX11_letter 137 = .ok (.lload 5, 2) := by decide +kernel
theorem sX11_letter_137 {l0 l1 l2 l3 l4 l6 l7 : Option Value} {x : Int64} (k : X w mX11_letter d Q 139 [l0, l1, l2, l3, l4, some (.long x), l6, l7] (.long x :: st) P) : X w mX11_letter d Q 137 [l0, l1, l2, l3, l4, some (.long x), l6, l7] st P := X_lload (M := mX11_letter) (dX11_letter_137) rfl k
theorem dX11_letter_139 : decode cX11_letter 139 = .ok (.bipush 56, 2) := by decide +kernel
theorem sX11_letter_139 (k : X w mX11_letter d Q 141 ls (.int (56 : Int32) :: st) P) : X w mX11_letter d Q 139 ls st P := X_bipush (M := mX11_letter) (dX11_letter_139) (by decide) k
theorem dX11_letter_141 : decode cX11_letter 141 = .ok (.bipush 8, 2) := by decide +kernel
theorem sX11_letter_141 (k : X w mX11_letter d Q 143 ls (.int (8 : Int32) :: st) P) : X w mX11_letter d Q 141 ls st P := X_bipush (M := mX11_letter) (dX11_letter_141) (by decide) k
theorem dX11_letter_143 : decode cX11_letter 143 = .ok (.iload_n 3, 1) := by decide +kernel
theorem sX11_letter_143 {l0 l1 l2 l4 l5 l6 l7 : Option Value} {x : Int32} (k : X w mX11_letter d Q 144 [l0, l1, l2, some (.int x), l4, l5, l6, l7] (.int x :: st) P) : X w mX11_letter d Q 143 [l0, l1, l2, some (.int x), l4, l5, l6, l7] st P := X_iload_n (M := mX11_letter) (dX11_letter_143) rfl rfl k
theorem dX11_letter_144 : decode cX11_letter 144 = .ok (.imul, 1) := by decide +kernel
theorem sX11_letter_144 {x y : Int32} (k : X w mX11_letter d Q 145 ls (.int (x * y) :: st) P) : X w mX11_letter d Q 144 ls (.int y :: .int x :: st) P := X_imul (M := mX11_letter) (dX11_letter_144) k
theorem dX11_letter_145 : decode cX11_letter 145 = .ok (.isub, 1) := by decide +kernel
theorem sX11_letter_145 {x y : Int32} (k : X w mX11_letter d Q 146 ls (.int (x - y) :: st) P) : X w mX11_letter d Q 145 ls (.int y :: .int x :: st) P := X_isub (M := mX11_letter) (dX11_letter_145) k
theorem dX11_letter_146 : decode cX11_letter 146 = .ok (.lshr, 1) := by decide +kernel
theorem sX11_letter_146 {x : Int64} {y : Int32} (k : X w mX11_letter d Q 147 ls (.long (x >>> (y.toInt64 &&& 63)) :: st) P) : X w mX11_letter d Q 146 ls (.int y :: .long x :: st) P := X_lshr (M := mX11_letter) (dX11_letter_146) k
theorem dX11_letter_147 : decode cX11_letter 147 = .ok (.ldc2_w 279, 3) := by decide +kernel
theorem sX11_letter_147 (k : X w mX11_letter d Q 150 ls (.long (255 : Int64) :: st) P) : X w mX11_letter d Q 147 ls st P := X_ldc2 (M := mX11_letter) (dX11_letter_147) xw_564 k
theorem dX11_letter_150 : decode cX11_letter 150 = .ok (.land, 1) := by decide +kernel
theorem sX11_letter_150 {x y : Int64} (k : X w mX11_letter d Q 151 ls (.long (x &&& y) :: st) P) : X w mX11_letter d Q 150 ls (.long y :: .long x :: st) P := X_land (M := mX11_letter) (dX11_letter_150) k
theorem dX11_letter_151 : decode cX11_letter 151 = .ok (.l2i, 1) := by decide +kernel
theorem sX11_letter_151 {x : Int64} (k : X w mX11_letter d Q 152 ls (.int x.toInt32 :: st) P) : X w mX11_letter d Q 151 ls (.long x :: st) P := X_l2i (M := mX11_letter) (dX11_letter_151) k
theorem dX11_letter_152 : decode cX11_letter 152 = .ok (.goto 4, 3) := by decide +kernel
theorem sX11_letter_152 (k : X w mX11_letter d Q 156 ls st P) : X w mX11_letter d Q 152 ls st P := X_goto (M := mX11_letter) (dX11_letter_152) (by decide) k
theorem dX11_letter_155 : decode cX11_letter 155 = .ok (.iconst 0, 1) := by decide +kernel
theorem sX11_letter_155 (k : X w mX11_letter d Q 156 ls (.int (0 : Int32) :: st) P) : X w mX11_letter d Q 155 ls st P := X_iconst (M := mX11_letter) (dX11_letter_155) (by decide) k
theorem dX11_letter_156 : decode cX11_letter 156 = .ok (.istore 7, 2) := by decide +kernel
theorem sX11_letter_156 {l0 l1 l2 l3 l4 l5 l6 l7 : Option Value} {x : Int32} (hn : xnl l6 = true) (k : X w mX11_letter d Q 158 [l0, l1, l2, l3, l4, l5, l6, some (.int x)] st P) : X w mX11_letter d Q 156 [l0, l1, l2, l3, l4, l5, l6, l7] (.int x :: st) P := X_istore (M := mX11_letter) (dX11_letter_156) (by decide) rfl (xnl_p (ls := [l0, l1, l2, l3, l4, l5, l6, l7]) (j := 6) rfl hn) k
theorem dX11_letter_158 : decode cX11_letter 158 = .ok (.iload 7, 2) := by decide +kernel
theorem sX11_letter_158 {l0 l1 l2 l3 l4 l5 l6 : Option Value} {x : Int32} (k : X w mX11_letter d Q 160 [l0, l1, l2, l3, l4, l5, l6, some (.int x)] (.int x :: st) P) : X w mX11_letter d Q 158 [l0, l1, l2, l3, l4, l5, l6, some (.int x)] st P := X_iload (M := mX11_letter) (dX11_letter_158) rfl k
theorem dX11_letter_160 : decode cX11_letter 160 = .ok (.ifCond .ne 7, 3) := by decide +kernel
theorem sX11_letter_160 {x : Int32} (kt : ¬ x = 0 → X w mX11_letter d Q 167 ls st P) (kf : x = 0 → X w mX11_letter d Q 163 ls st P) : X w mX11_letter d Q 160 ls (.int x :: st) P := X_if_ne (M := mX11_letter) (dX11_letter_160) (by decide) kt kf
theorem dX11_letter_163 : decode cX11_letter 163 = .ok (.iconst (-1), 1) := by decide +kernel
theorem sX11_letter_163 (k : X w mX11_letter d Q 164 ls (.int (-1 : Int32) :: st) P) : X w mX11_letter d Q 163 ls st P := X_iconst (M := mX11_letter) (dX11_letter_163) (by decide) k
theorem dX11_letter_164 : decode cX11_letter 164 = .ok (.goto 5, 3) := by decide +kernel
theorem sX11_letter_164 (k : X w mX11_letter d Q 169 ls st P) : X w mX11_letter d Q 164 ls st P := X_goto (M := mX11_letter) (dX11_letter_164) (by decide) k
theorem dX11_letter_167 : decode cX11_letter 167 = .ok (.iload 7, 2) := by decide +kernel
theorem sX11_letter_167 {l0 l1 l2 l3 l4 l5 l6 : Option Value} {x : Int32} (k : X w mX11_letter d Q 169 [l0, l1, l2, l3, l4, l5, l6, some (.int x)] (.int x :: st) P) : X w mX11_letter d Q 167 [l0, l1, l2, l3, l4, l5, l6, some (.int x)] st P := X_iload (M := mX11_letter) (dX11_letter_167) rfl k
theorem dX11_letter_169 : decode cX11_letter 169 = .ok (.ireturn, 1) := by decide +kernel
theorem sX11_letter_169 {v : Int32} (hq : Q (.returned (some (.int v))) P) : X w mX11_letter d Q 169 ls [.int v] P := X_iret (M := mX11_letter) (dX11_letter_169) rfl hq
theorem dX11_count_0 : decode cX11_count 0 = .ok (.aload_n 0, 1) := by decide +kernel
theorem sX11_count_0 {l1 : Option Value} {x : Nat} (k : X w mX11_count d Q 1 [some (.ref x), l1] (.ref x :: st) P) : X w mX11_count d Q 0 [some (.ref x), l1] st P := X_aload_n (M := mX11_count) (dX11_count_0) rfl rfl k
theorem dX11_count_1 : decode cX11_count 1 = .ok (.iload_n 1, 1) := by decide +kernel
theorem sX11_count_1 {l0 : Option Value} {x : Int32} (k : X w mX11_count d Q 2 [l0, some (.int x)] (.int x :: st) P) : X w mX11_count d Q 1 [l0, some (.int x)] st P := X_iload_n (M := mX11_count) (dX11_count_1) rfl rfl k
theorem dX11_count_2 : decode cX11_count 2 = .ok (.ifCond .lt 8, 3) := by decide +kernel
theorem sX11_count_2 {x : Int32} (kt : x < 0 → X w mX11_count d Q 10 ls st P) (kf : ¬ x < 0 → X w mX11_count d Q 5 ls st P) : X w mX11_count d Q 2 ls (.int x :: st) P := X_if_lt (M := mX11_count) (dX11_count_2) (by decide) kt kf
theorem dX11_count_5 : decode cX11_count 5 = .ok (.iload_n 1, 1) := by decide +kernel
theorem sX11_count_5 {l0 : Option Value} {x : Int32} (k : X w mX11_count d Q 6 [l0, some (.int x)] (.int x :: st) P) : X w mX11_count d Q 5 [l0, some (.int x)] st P := X_iload_n (M := mX11_count) (dX11_count_5) rfl rfl k
theorem dX11_count_6 : decode cX11_count 6 = .ok (.iconst 2, 1) := by decide +kernel
theorem sX11_count_6 (k : X w mX11_count d Q 7 ls (.int (2 : Int32) :: st) P) : X w mX11_count d Q 6 ls st P := X_iconst (M := mX11_count) (dX11_count_6) (by decide) k
theorem dX11_count_7 : decode cX11_count 7 = .ok (.if_icmp .le 7, 3) := by decide +kernel
theorem sX11_count_7 {x y : Int32} (kt : x ≤ y → X w mX11_count d Q 14 ls st P) (kf : ¬ x ≤ y → X w mX11_count d Q 10 ls st P) : X w mX11_count d Q 7 ls (.int y :: .int x :: st) P := X_icmp_le (M := mX11_count) (dX11_count_7) (by decide) kt kf
theorem dX11_count_10 : decode cX11_count 10 = .ok (.iconst 1, 1) := by decide +kernel
theorem sX11_count_10 (k : X w mX11_count d Q 11 ls (.int (1 : Int32) :: st) P) : X w mX11_count d Q 10 ls st P := X_iconst (M := mX11_count) (dX11_count_10) (by decide) k
theorem dX11_count_11 : decode cX11_count 11 = .ok (.goto 4, 3) := by decide +kernel
theorem sX11_count_11 (k : X w mX11_count d Q 15 ls st P) : X w mX11_count d Q 11 ls st P := X_goto (M := mX11_count) (dX11_count_11) (by decide) k
theorem dX11_count_14 : decode cX11_count 14 = .ok (.iconst 0, 1) := by decide +kernel
theorem sX11_count_14 (k : X w mX11_count d Q 15 ls (.int (0 : Int32) :: st) P) : X w mX11_count d Q 14 ls st P := X_iconst (M := mX11_count) (dX11_count_14) (by decide) k
theorem dX11_count_15 : decode cX11_count 15 = .ok (.putfield 84, 3) := by decide +kernel
theorem sX11_count_15 {a : Nat} {fs : List Value} {v : Int32} (hP : P.1 a = some (xO 9 fs)) (hl : 0 < fs.length) (k : X w mX11_count d Q 18 ls st (xs P a (xO 9 (fs.set 0 (.int v))))) : X w mX11_count d Q 15 ls (.int v :: .ref a :: st) P := X_put (M := mX11_count) (j := 0) (T := TX11) (dX11_count_15) rfl (by decide) x_c11 xw_428 rfl hP rfl rfl hl k
theorem dX11_count_18 : decode cX11_count 18 = .ok (.aload_n 0, 1) := by decide +kernel
theorem sX11_count_18 {l1 : Option Value} {x : Nat} (k : X w mX11_count d Q 19 [some (.ref x), l1] (.ref x :: st) P) : X w mX11_count d Q 18 [some (.ref x), l1] st P := X_aload_n (M := mX11_count) (dX11_count_18) rfl rfl k
theorem dX11_count_19 : decode cX11_count 19 = .ok (.getfield 84, 3) := by decide +kernel
theorem sX11_count_19 {a : Nat} {fs : List Value} {v : Int32} (hP : P.1 a = some (xO 9 fs)) (hv : fs[0]? = some (.int v)) (k : X w mX11_count d Q 22 ls (.int v :: st) P) : X w mX11_count d Q 19 ls (.ref a :: st) P := X_get (M := mX11_count) (j := 0) (T := TX11) (dX11_count_19) rfl (by decide) x_in11 xw_428 hP hv k
theorem dX11_count_22 : decode cX11_count 22 = .ok (.ifCond .le 7, 3) := by decide +kernel
theorem sX11_count_22 {x : Int32} (kt : x ≤ 0 → X w mX11_count d Q 29 ls st P) (kf : ¬ x ≤ 0 → X w mX11_count d Q 25 ls st P) : X w mX11_count d Q 22 ls (.int x :: st) P := X_if_le (M := mX11_count) (dX11_count_22) (by decide) kt kf
theorem dX11_count_25 : decode cX11_count 25 = .ok (.iconst 0, 1) := by decide +kernel
theorem sX11_count_25 (k : X w mX11_count d Q 26 ls (.int (0 : Int32) :: st) P) : X w mX11_count d Q 25 ls st P := X_iconst (M := mX11_count) (dX11_count_25) (by decide) k
theorem dX11_count_26 : decode cX11_count 26 = .ok (.goto 40, 3) := by decide +kernel
theorem sX11_count_26 (k : X w mX11_count d Q 66 ls st P) : X w mX11_count d Q 26 ls st P := X_goto (M := mX11_count) (dX11_count_26) (by decide) k
theorem dX11_count_29 : decode cX11_count 29 = .ok (.iload_n 1, 1) := by decide +kernel
theorem sX11_count_29 {l0 : Option Value} {x : Int32} (k : X w mX11_count d Q 30 [l0, some (.int x)] (.int x :: st) P) : X w mX11_count d Q 29 [l0, some (.int x)] st P := X_iload_n (M := mX11_count) (dX11_count_29) rfl rfl k
theorem dX11_count_30 : decode cX11_count 30 = .ok (.ifCond .ne 15, 3) := by decide +kernel
theorem sX11_count_30 {x : Int32} (kt : ¬ x = 0 → X w mX11_count d Q 45 ls st P) (kf : x = 0 → X w mX11_count d Q 33 ls st P) : X w mX11_count d Q 30 ls (.int x :: st) P := X_if_ne (M := mX11_count) (dX11_count_30) (by decide) kt kf
theorem dX11_count_33 : decode cX11_count 33 = .ok (.aload_n 0, 1) := by decide +kernel
theorem sX11_count_33 {l1 : Option Value} {x : Nat} (k : X w mX11_count d Q 34 [some (.ref x), l1] (.ref x :: st) P) : X w mX11_count d Q 33 [some (.ref x), l1] st P := X_aload_n (M := mX11_count) (dX11_count_33) rfl rfl k
theorem dX11_count_34 : decode cX11_count 34 = .ok (.getfield 35, 3) := by decide +kernel
theorem sX11_count_34 {a : Nat} {fs : List Value} {v : Nat} (hP : P.1 a = some (xO 9 fs)) (hv : fs[11]? = some (.ref v)) (k : X w mX11_count d Q 37 ls (.ref v :: st) P) : X w mX11_count d Q 34 ls (.ref a :: st) P := X_get (M := mX11_count) (j := 11) (T := TX11) (dX11_count_34) rfl (by decide) x_in11 xw_412 hP hv k
theorem dX11_count_37 : decode cX11_count 37 = .ok (.aload_n 0, 1) := by decide +kernel
theorem sX11_count_37 {l1 : Option Value} {x : Nat} (k : X w mX11_count d Q 38 [some (.ref x), l1] (.ref x :: st) P) : X w mX11_count d Q 37 [some (.ref x), l1] st P := X_aload_n (M := mX11_count) (dX11_count_37) rfl rfl k
theorem dX11_count_38 : decode cX11_count 38 = .ok (.getfield 226, 3) := by decide +kernel
theorem sX11_count_38 {a : Nat} {fs : List Value} {v : Int32} (hP : P.1 a = some (xO 9 fs)) (hv : fs[3]? = some (.int v)) (k : X w mX11_count d Q 41 ls (.int v :: st) P) : X w mX11_count d Q 38 ls (.ref a :: st) P := X_get (M := mX11_count) (j := 3) (T := TX11) (dX11_count_38) rfl (by decide) x_in11 xw_521 hP hv k
theorem dX11_count_41 : decode cX11_count 41 = .ok (.iaload, 1) := by decide +kernel
theorem sX11_count_41 {a n : Nat} {f : Nat → Int32} {i : Int32} (hP : P.1 a = some (xA 0 n f)) (hi : vp_in i n) (k : X w mX11_count d Q 42 ls (.int (f i.toNatClampNeg) :: st) P) : X w mX11_count d Q 41 ls (.int i :: .ref a :: st) P := X_iald (M := mX11_count) (dX11_count_41) hP hi k
theorem dX11_count_42 : decode cX11_count 42 = .ok (.goto 24, 3) := by decide +kernel
theorem sX11_count_42 (k : X w mX11_count d Q 66 ls st P) : X w mX11_count d Q 42 ls st P := X_goto (M := mX11_count) (dX11_count_42) (by decide) k
theorem dX11_count_45 : decode cX11_count 45 = .ok (.iload_n 1, 1) := by decide +kernel
theorem sX11_count_45 {l0 : Option Value} {x : Int32} (k : X w mX11_count d Q 46 [l0, some (.int x)] (.int x :: st) P) : X w mX11_count d Q 45 [l0, some (.int x)] st P := X_iload_n (M := mX11_count) (dX11_count_45) rfl rfl k
theorem dX11_count_46 : decode cX11_count 46 = .ok (.iconst 1, 1) := by decide +kernel
theorem sX11_count_46 (k : X w mX11_count d Q 47 ls (.int (1 : Int32) :: st) P) : X w mX11_count d Q 46 ls st P := X_iconst (M := mX11_count) (dX11_count_46) (by decide) k
theorem dX11_count_47 : decode cX11_count 47 = .ok (.if_icmp .ne 15, 3) := by decide +kernel
theorem sX11_count_47 {x y : Int32} (kt : ¬ x = y → X w mX11_count d Q 62 ls st P) (kf : x = y → X w mX11_count d Q 50 ls st P) : X w mX11_count d Q 47 ls (.int y :: .int x :: st) P := X_icmp_ne (M := mX11_count) (dX11_count_47) (by decide) kt kf
theorem dX11_count_50 : decode cX11_count 50 = .ok (.aload_n 0, 1) := by decide +kernel
theorem sX11_count_50 {l1 : Option Value} {x : Nat} (k : X w mX11_count d Q 51 [some (.ref x), l1] (.ref x :: st) P) : X w mX11_count d Q 50 [some (.ref x), l1] st P := X_aload_n (M := mX11_count) (dX11_count_50) rfl rfl k
theorem dX11_count_51 : decode cX11_count 51 = .ok (.getfield 13, 3) := by decide +kernel
theorem sX11_count_51 {a : Nat} {fs : List Value} {v : Nat} (hP : P.1 a = some (xO 9 fs)) (hv : fs[4]? = some (.ref v)) (k : X w mX11_count d Q 54 ls (.ref v :: st) P) : X w mX11_count d Q 51 ls (.ref a :: st) P := X_get (M := mX11_count) (j := 4) (T := TX11) (dX11_count_51) rfl (by decide) x_in11 xw_405 hP hv k
theorem dX11_count_54 : decode cX11_count 54 = .ok (.aload_n 0, 1) := by decide +kernel
theorem sX11_count_54 {l1 : Option Value} {x : Nat} (k : X w mX11_count d Q 55 [some (.ref x), l1] (.ref x :: st) P) : X w mX11_count d Q 54 [some (.ref x), l1] st P := X_aload_n (M := mX11_count) (dX11_count_54) rfl rfl k
theorem dX11_count_55 : decode cX11_count 55 = .ok (.getfield 226, 3) := by decide +kernel
theorem sX11_count_55 {a : Nat} {fs : List Value} {v : Int32} (hP : P.1 a = some (xO 9 fs)) (hv : fs[3]? = some (.int v)) (k : X w mX11_count d Q 58 ls (.int v :: st) P) : X w mX11_count d Q 55 ls (.ref a :: st) P := X_get (M := mX11_count) (j := 3) (T := TX11) (dX11_count_55) rfl (by decide) x_in11 xw_521 hP hv k
theorem dX11_count_58 : decode cX11_count 58 = .ok (.iaload, 1) := by decide +kernel
theorem sX11_count_58 {a n : Nat} {f : Nat → Int32} {i : Int32} (hP : P.1 a = some (xA 0 n f)) (hi : vp_in i n) (k : X w mX11_count d Q 59 ls (.int (f i.toNatClampNeg) :: st) P) : X w mX11_count d Q 58 ls (.int i :: .ref a :: st) P := X_iald (M := mX11_count) (dX11_count_58) hP hi k
theorem dX11_count_59 : decode cX11_count 59 = .ok (.goto 7, 3) := by decide +kernel
theorem sX11_count_59 (k : X w mX11_count d Q 66 ls st P) : X w mX11_count d Q 59 ls st P := X_goto (M := mX11_count) (dX11_count_59) (by decide) k
theorem dX11_count_62 : decode cX11_count 62 = .ok (.aload_n 0, 1) := by decide +kernel
theorem sX11_count_62 {l1 : Option Value} {x : Nat} (k : X w mX11_count d Q 63 [some (.ref x), l1] (.ref x :: st) P) : X w mX11_count d Q 62 [some (.ref x), l1] st P := X_aload_n (M := mX11_count) (dX11_count_62) rfl rfl k
theorem dX11_count_63 : decode cX11_count 63 = .ok (.getfield 92, 3) := by decide +kernel
theorem sX11_count_63 {a : Nat} {fs : List Value} {v : Int32} (hP : P.1 a = some (xO 9 fs)) (hv : fs[1]? = some (.int v)) (k : X w mX11_count d Q 66 ls (.int v :: st) P) : X w mX11_count d Q 63 ls (.ref a :: st) P := X_get (M := mX11_count) (j := 1) (T := TX11) (dX11_count_63) rfl (by decide) x_in11 xw_431 hP hv k
theorem dX11_count_66 : decode cX11_count 66 = .ok (.ireturn, 1) := by decide +kernel
theorem sX11_count_66 {v : Int32} (hq : Q (.returned (some (.int v))) P) : X w mX11_count d Q 66 ls [.int v] P := X_iret (M := mX11_count) (dX11_count_66) rfl hq
end
