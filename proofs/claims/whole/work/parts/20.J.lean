section
variable {w : xWd} {d : Nat} {Q : Outcome → xH → Prop} {ls : List (Option Value)} {st : List Value} {P : xH}
theorem dJ13_bitCount_95d88_0 : decode cJ13_bitCount_95d88 0 = .ok (.lload_n 0, 1) := by decide +kernel
theorem sJ13_bitCount_95d88_0 {l1 : Option Value} {x : Int64} (k : X w mJ13_bitCount_95d88 d Q 1 [some (.long x), l1] (.long x :: st) P) : X w mJ13_bitCount_95d88 d Q 0 [some (.long x), l1] st P := X_lload_n (M := mJ13_bitCount_95d88) (dJ13_bitCount_95d88_0) rfl rfl k
theorem dJ13_bitCount_95d88_1 : decode cJ13_bitCount_95d88 1 = .ok (.lload_n 0, 1) := by decide +kernel
theorem sJ13_bitCount_95d88_1 {l1 : Option Value} {x : Int64} (k : X w mJ13_bitCount_95d88 d Q 2 [some (.long x), l1] (.long x :: st) P) : X w mJ13_bitCount_95d88 d Q 1 [some (.long x), l1] st P := X_lload_n (M := mJ13_bitCount_95d88) (dJ13_bitCount_95d88_1) rfl rfl k
theorem dJ13_bitCount_95d88_2 : decode cJ13_bitCount_95d88 2 = .ok (.iconst 1, 1) := by decide +kernel
theorem sJ13_bitCount_95d88_2 (k : X w mJ13_bitCount_95d88 d Q 3 ls (.int (1 : Int32) :: st) P) : X w mJ13_bitCount_95d88 d Q 2 ls st P := X_iconst (M := mJ13_bitCount_95d88) (dJ13_bitCount_95d88_2) (by decide) k
theorem dJ13_bitCount_95d88_3 : decode cJ13_bitCount_95d88 3 = .ok (.lushr, 1) := by decide +kernel
theorem sJ13_bitCount_95d88_3 {x : Int64} {y : Int32} (k : X w mJ13_bitCount_95d88 d Q 4 ls (.long ((x.toUInt64 >>> (y.toInt64.toUInt64 &&& Int64.toUInt64 63)).toInt64) :: st) P) : X w mJ13_bitCount_95d88 d Q 3 ls (.int y :: .long x :: st) P := X_lushr (M := mJ13_bitCount_95d88) (dJ13_bitCount_95d88_3) k
theorem dJ13_bitCount_95d88_4 : decode cJ13_bitCount_95d88 4 = .ok (.ldc2_w 314, 3) := by decide +kernel
theorem sJ13_bitCount_95d88_4 (k : X w mJ13_bitCount_95d88 d Q 7 ls (.long (6148914691236517205 : Int64) :: st) P) : X w mJ13_bitCount_95d88 d Q 4 ls st P := X_ldc2 (M := mJ13_bitCount_95d88) (dJ13_bitCount_95d88_4) xw_0 k
theorem dJ13_bitCount_95d88_7 : decode cJ13_bitCount_95d88 7 = .ok (.land, 1) := by decide +kernel
theorem sJ13_bitCount_95d88_7 {x y : Int64} (k : X w mJ13_bitCount_95d88 d Q 8 ls (.long (x &&& y) :: st) P) : X w mJ13_bitCount_95d88 d Q 7 ls (.long y :: .long x :: st) P := X_land (M := mJ13_bitCount_95d88) (dJ13_bitCount_95d88_7) k
theorem dJ13_bitCount_95d88_8 : decode cJ13_bitCount_95d88 8 = .ok (.lsub, 1) := by decide +kernel
theorem sJ13_bitCount_95d88_8 {x y : Int64} (k : X w mJ13_bitCount_95d88 d Q 9 ls (.long (x - y) :: st) P) : X w mJ13_bitCount_95d88 d Q 8 ls (.long y :: .long x :: st) P := X_lsub (M := mJ13_bitCount_95d88) (dJ13_bitCount_95d88_8) k
theorem dJ13_bitCount_95d88_9 : decode cJ13_bitCount_95d88 9 = .ok (.lstore_n 0, 1) := by decide +kernel
theorem sJ13_bitCount_95d88_9 {l0 l1 : Option Value} {x : Int64} (k : X w mJ13_bitCount_95d88 d Q 10 [some (.long x), none] st P) : X w mJ13_bitCount_95d88 d Q 9 [l0, l1] (.long x :: st) P := X_lstore_n (M := mJ13_bitCount_95d88) (dJ13_bitCount_95d88_9) rfl (by decide) rfl (fun q hq => by omega) k
theorem dJ13_bitCount_95d88_10 : decode cJ13_bitCount_95d88 10 = .ok (.lload_n 0, 1) := by decide +kernel
theorem sJ13_bitCount_95d88_10 {l1 : Option Value} {x : Int64} (k : X w mJ13_bitCount_95d88 d Q 11 [some (.long x), l1] (.long x :: st) P) : X w mJ13_bitCount_95d88 d Q 10 [some (.long x), l1] st P := X_lload_n (M := mJ13_bitCount_95d88) (dJ13_bitCount_95d88_10) rfl rfl k
theorem dJ13_bitCount_95d88_11 : decode cJ13_bitCount_95d88 11 = .ok (.ldc2_w 316, 3) := by decide +kernel
theorem sJ13_bitCount_95d88_11 (k : X w mJ13_bitCount_95d88 d Q 14 ls (.long (3689348814741910323 : Int64) :: st) P) : X w mJ13_bitCount_95d88 d Q 11 ls st P := X_ldc2 (M := mJ13_bitCount_95d88) (dJ13_bitCount_95d88_11) xw_1 k
theorem dJ13_bitCount_95d88_14 : decode cJ13_bitCount_95d88 14 = .ok (.land, 1) := by decide +kernel
theorem sJ13_bitCount_95d88_14 {x y : Int64} (k : X w mJ13_bitCount_95d88 d Q 15 ls (.long (x &&& y) :: st) P) : X w mJ13_bitCount_95d88 d Q 14 ls (.long y :: .long x :: st) P := X_land (M := mJ13_bitCount_95d88) (dJ13_bitCount_95d88_14) k
theorem dJ13_bitCount_95d88_15 : decode cJ13_bitCount_95d88 15 = .ok (.lload_n 0, 1) := by decide +kernel
theorem sJ13_bitCount_95d88_15 {l1 : Option Value} {x : Int64} (k : X w mJ13_bitCount_95d88 d Q 16 [some (.long x), l1] (.long x :: st) P) : X w mJ13_bitCount_95d88 d Q 15 [some (.long x), l1] st P := X_lload_n (M := mJ13_bitCount_95d88) (dJ13_bitCount_95d88_15) rfl rfl k
theorem dJ13_bitCount_95d88_16 : decode cJ13_bitCount_95d88 16 = .ok (.iconst 2, 1) := by decide +kernel
theorem sJ13_bitCount_95d88_16 (k : X w mJ13_bitCount_95d88 d Q 17 ls (.int (2 : Int32) :: st) P) : X w mJ13_bitCount_95d88 d Q 16 ls st P := X_iconst (M := mJ13_bitCount_95d88) (dJ13_bitCount_95d88_16) (by decide) k
theorem dJ13_bitCount_95d88_17 : decode cJ13_bitCount_95d88 17 = .ok (.lushr, 1) := by decide +kernel
theorem sJ13_bitCount_95d88_17 {x : Int64} {y : Int32} (k : X w mJ13_bitCount_95d88 d Q 18 ls (.long ((x.toUInt64 >>> (y.toInt64.toUInt64 &&& Int64.toUInt64 63)).toInt64) :: st) P) : X w mJ13_bitCount_95d88 d Q 17 ls (.int y :: .long x :: st) P := X_lushr (M := mJ13_bitCount_95d88) (dJ13_bitCount_95d88_17) k
theorem dJ13_bitCount_95d88_18 : decode cJ13_bitCount_95d88 18 = .ok (.ldc2_w 316, 3) := by decide +kernel
theorem sJ13_bitCount_95d88_18 (k : X w mJ13_bitCount_95d88 d Q 21 ls (.long (3689348814741910323 : Int64) :: st) P) : X w mJ13_bitCount_95d88 d Q 18 ls st P := X_ldc2 (M := mJ13_bitCount_95d88) (dJ13_bitCount_95d88_18) xw_1 k
theorem dJ13_bitCount_95d88_21 : decode cJ13_bitCount_95d88 21 = .ok (.land, 1) := by decide +kernel
theorem sJ13_bitCount_95d88_21 {x y : Int64} (k : X w mJ13_bitCount_95d88 d Q 22 ls (.long (x &&& y) :: st) P) : X w mJ13_bitCount_95d88 d Q 21 ls (.long y :: .long x :: st) P := X_land (M := mJ13_bitCount_95d88) (dJ13_bitCount_95d88_21) k
theorem dJ13_bitCount_95d88_22 : decode cJ13_bitCount_95d88 22 = .ok (.ladd, 1) := by decide +kernel
theorem sJ13_bitCount_95d88_22 {x y : Int64} (k : X w mJ13_bitCount_95d88 d Q 23 ls (.long (x + y) :: st) P) : X w mJ13_bitCount_95d88 d Q 22 ls (.long y :: .long x :: st) P := X_ladd (M := mJ13_bitCount_95d88) (dJ13_bitCount_95d88_22) k
theorem dJ13_bitCount_95d88_23 : decode cJ13_bitCount_95d88 23 = .ok (.lstore_n 0, 1) := by decide +kernel
theorem sJ13_bitCount_95d88_23 {l0 l1 : Option Value} {x : Int64} (k : X w mJ13_bitCount_95d88 d Q 24 [some (.long x), none] st P) : X w mJ13_bitCount_95d88 d Q 23 [l0, l1] (.long x :: st) P := X_lstore_n (M := mJ13_bitCount_95d88) (dJ13_bitCount_95d88_23) rfl (by decide) rfl (fun q hq => by omega) k
theorem dJ13_bitCount_95d88_24 : decode cJ13_bitCount_95d88 24 = .ok (.lload_n 0, 1) := by decide +kernel
theorem sJ13_bitCount_95d88_24 {l1 : Option Value} {x : Int64} (k : X w mJ13_bitCount_95d88 d Q 25 [some (.long x), l1] (.long x :: st) P) : X w mJ13_bitCount_95d88 d Q 24 [some (.long x), l1] st P := X_lload_n (M := mJ13_bitCount_95d88) (dJ13_bitCount_95d88_24) rfl rfl k
theorem dJ13_bitCount_95d88_25 : decode cJ13_bitCount_95d88 25 = .ok (.lload_n 0, 1) := by decide +kernel
theorem sJ13_bitCount_95d88_25 {l1 : Option Value} {x : Int64} (k : X w mJ13_bitCount_95d88 d Q 26 [some (.long x), l1] (.long x :: st) P) : X w mJ13_bitCount_95d88 d Q 25 [some (.long x), l1] st P := X_lload_n (M := mJ13_bitCount_95d88) (dJ13_bitCount_95d88_25) rfl rfl k
theorem dJ13_bitCount_95d88_26 : decode cJ13_bitCount_95d88 26 = .ok (.iconst 4, 1) := by decide +kernel
theorem sJ13_bitCount_95d88_26 (k : X w mJ13_bitCount_95d88 d Q 27 ls (.int (4 : Int32) :: st) P) : X w mJ13_bitCount_95d88 d Q 26 ls st P := X_iconst (M := mJ13_bitCount_95d88) (dJ13_bitCount_95d88_26) (by decide) k
theorem dJ13_bitCount_95d88_27 : decode cJ13_bitCount_95d88 27 = .ok (.lushr, 1) := by decide +kernel
theorem sJ13_bitCount_95d88_27 {x : Int64} {y : Int32} (k : X w mJ13_bitCount_95d88 d Q 28 ls (.long ((x.toUInt64 >>> (y.toInt64.toUInt64 &&& Int64.toUInt64 63)).toInt64) :: st) P) : X w mJ13_bitCount_95d88 d Q 27 ls (.int y :: .long x :: st) P := X_lushr (M := mJ13_bitCount_95d88) (dJ13_bitCount_95d88_27) k
theorem dJ13_bitCount_95d88_28 : decode cJ13_bitCount_95d88 28 = .ok (.ladd, 1) := by decide +kernel
theorem sJ13_bitCount_95d88_28 {x y : Int64} (k : X w mJ13_bitCount_95d88 d Q 29 ls (.long (x + y) :: st) P) : X w mJ13_bitCount_95d88 d Q 28 ls (.long y :: .long x :: st) P := X_ladd (M := mJ13_bitCount_95d88) (dJ13_bitCount_95d88_28) k
theorem dJ13_bitCount_95d88_29 : decode cJ13_bitCount_95d88 29 = .ok (.ldc2_w 318, 3) := by decide +kernel
theorem sJ13_bitCount_95d88_29 (k : X w mJ13_bitCount_95d88 d Q 32 ls (.long (1085102592571150095 : Int64) :: st) P) : X w mJ13_bitCount_95d88 d Q 29 ls st P := X_ldc2 (M := mJ13_bitCount_95d88) (dJ13_bitCount_95d88_29) xw_2 k
theorem dJ13_bitCount_95d88_32 : decode cJ13_bitCount_95d88 32 = .ok (.land, 1) := by decide +kernel
theorem sJ13_bitCount_95d88_32 {x y : Int64} (k : X w mJ13_bitCount_95d88 d Q 33 ls (.long (x &&& y) :: st) P) : X w mJ13_bitCount_95d88 d Q 32 ls (.long y :: .long x :: st) P := X_land (M := mJ13_bitCount_95d88) (dJ13_bitCount_95d88_32) k
theorem dJ13_bitCount_95d88_33 : decode cJ13_bitCount_95d88 33 = .ok (.lstore_n 0, 1) := by decide +kernel
theorem sJ13_bitCount_95d88_33 {l0 l1 : Option Value} {x : Int64} (k : X w mJ13_bitCount_95d88 d Q 34 [some (.long x), none] st P) : X w mJ13_bitCount_95d88 d Q 33 [l0, l1] (.long x :: st) P := X_lstore_n (M := mJ13_bitCount_95d88) (dJ13_bitCount_95d88_33) rfl (by decide) rfl (fun q hq => by omega) k
theorem dJ13_bitCount_95d88_34 : decode cJ13_bitCount_95d88 34 = .ok (.lload_n 0, 1) := by decide +kernel
theorem sJ13_bitCount_95d88_34 {l1 : Option Value} {x : Int64} (k : X w mJ13_bitCount_95d88 d Q 35 [some (.long x), l1] (.long x :: st) P) : X w mJ13_bitCount_95d88 d Q 34 [some (.long x), l1] st P := X_lload_n (M := mJ13_bitCount_95d88) (dJ13_bitCount_95d88_34) rfl rfl k
theorem dJ13_bitCount_95d88_35 : decode cJ13_bitCount_95d88 35 = .ok (.lload_n 0, 1) := by decide +kernel
theorem sJ13_bitCount_95d88_35 {l1 : Option Value} {x : Int64} (k : X w mJ13_bitCount_95d88 d Q 36 [some (.long x), l1] (.long x :: st) P) : X w mJ13_bitCount_95d88 d Q 35 [some (.long x), l1] st P := X_lload_n (M := mJ13_bitCount_95d88) (dJ13_bitCount_95d88_35) rfl rfl k
theorem dJ13_bitCount_95d88_36 : decode cJ13_bitCount_95d88 36 = .ok (.bipush 8, 2) := by decide +kernel
theorem sJ13_bitCount_95d88_36 (k : X w mJ13_bitCount_95d88 d Q 38 ls (.int (8 : Int32) :: st) P) : X w mJ13_bitCount_95d88 d Q 36 ls st P := X_bipush (M := mJ13_bitCount_95d88) (dJ13_bitCount_95d88_36) (by decide) k
theorem dJ13_bitCount_95d88_38 : decode cJ13_bitCount_95d88 38 = .ok (.lushr, 1) := by decide +kernel
theorem sJ13_bitCount_95d88_38 {x : Int64} {y : Int32} (k : X w mJ13_bitCount_95d88 d Q 39 ls (.long ((x.toUInt64 >>> (y.toInt64.toUInt64 &&& Int64.toUInt64 63)).toInt64) :: st) P) : X w mJ13_bitCount_95d88 d Q 38 ls (.int y :: .long x :: st) P := X_lushr (M := mJ13_bitCount_95d88) (dJ13_bitCount_95d88_38) k
theorem dJ13_bitCount_95d88_39 : decode cJ13_bitCount_95d88 39 = .ok (.ladd, 1) := by decide +kernel
theorem sJ13_bitCount_95d88_39 {x y : Int64} (k : X w mJ13_bitCount_95d88 d Q 40 ls (.long (x + y) :: st) P) : X w mJ13_bitCount_95d88 d Q 39 ls (.long y :: .long x :: st) P := X_ladd (M := mJ13_bitCount_95d88) (dJ13_bitCount_95d88_39) k
theorem dJ13_bitCount_95d88_40 : decode cJ13_bitCount_95d88 40 = .ok (.lstore_n 0, 1) := by decide +kernel
theorem sJ13_bitCount_95d88_40 {l0 l1 : Option Value} {x : Int64} (k : X w mJ13_bitCount_95d88 d Q 41 [some (.long x), none] st P) : X w mJ13_bitCount_95d88 d Q 40 [l0, l1] (.long x :: st) P := X_lstore_n (M := mJ13_bitCount_95d88) (dJ13_bitCount_95d88_40) rfl (by decide) rfl (fun q hq => by omega) k
theorem dJ13_bitCount_95d88_41 : decode cJ13_bitCount_95d88 41 = .ok (.lload_n 0, 1) := by decide +kernel
theorem sJ13_bitCount_95d88_41 {l1 : Option Value} {x : Int64} (k : X w mJ13_bitCount_95d88 d Q 42 [some (.long x), l1] (.long x :: st) P) : X w mJ13_bitCount_95d88 d Q 41 [some (.long x), l1] st P := X_lload_n (M := mJ13_bitCount_95d88) (dJ13_bitCount_95d88_41) rfl rfl k
theorem dJ13_bitCount_95d88_42 : decode cJ13_bitCount_95d88 42 = .ok (.lload_n 0, 1) := by decide +kernel
theorem sJ13_bitCount_95d88_42 {l1 : Option Value} {x : Int64} (k : X w mJ13_bitCount_95d88 d Q 43 [some (.long x), l1] (.long x :: st) P) : X w mJ13_bitCount_95d88 d Q 42 [some (.long x), l1] st P := X_lload_n (M := mJ13_bitCount_95d88) (dJ13_bitCount_95d88_42) rfl rfl k
theorem dJ13_bitCount_95d88_43 : decode cJ13_bitCount_95d88 43 = .ok (.bipush 16, 2) := by decide +kernel
theorem sJ13_bitCount_95d88_43 (k : X w mJ13_bitCount_95d88 d Q 45 ls (.int (16 : Int32) :: st) P) : X w mJ13_bitCount_95d88 d Q 43 ls st P := X_bipush (M := mJ13_bitCount_95d88) (dJ13_bitCount_95d88_43) (by decide) k
theorem dJ13_bitCount_95d88_45 : decode cJ13_bitCount_95d88 45 = .ok (.lushr, 1) := by decide +kernel
theorem sJ13_bitCount_95d88_45 {x : Int64} {y : Int32} (k : X w mJ13_bitCount_95d88 d Q 46 ls (.long ((x.toUInt64 >>> (y.toInt64.toUInt64 &&& Int64.toUInt64 63)).toInt64) :: st) P) : X w mJ13_bitCount_95d88 d Q 45 ls (.int y :: .long x :: st) P := X_lushr (M := mJ13_bitCount_95d88) (dJ13_bitCount_95d88_45) k
theorem dJ13_bitCount_95d88_46 : decode cJ13_bitCount_95d88 46 = .ok (.ladd, 1) := by decide +kernel
theorem sJ13_bitCount_95d88_46 {x y : Int64} (k : X w mJ13_bitCount_95d88 d Q 47 ls (.long (x + y) :: st) P) : X w mJ13_bitCount_95d88 d Q 46 ls (.long y :: .long x :: st) P := X_ladd (M := mJ13_bitCount_95d88) (dJ13_bitCount_95d88_46) k
theorem dJ13_bitCount_95d88_47 : decode cJ13_bitCount_95d88 47 = .ok (.lstore_n 0, 1) := by decide +kernel
theorem sJ13_bitCount_95d88_47 {l0 l1 : Option Value} {x : Int64} (k : X w mJ13_bitCount_95d88 d Q 48 [some (.long x), none] st P) : X w mJ13_bitCount_95d88 d Q 47 [l0, l1] (.long x :: st) P := X_lstore_n (M := mJ13_bitCount_95d88) (dJ13_bitCount_95d88_47) rfl (by decide) rfl (fun q hq => by omega) k
theorem dJ13_bitCount_95d88_48 : decode cJ13_bitCount_95d88 48 = .ok (.lload_n 0, 1) := by decide +kernel
theorem sJ13_bitCount_95d88_48 {l1 : Option Value} {x : Int64} (k : X w mJ13_bitCount_95d88 d Q 49 [some (.long x), l1] (.long x :: st) P) : X w mJ13_bitCount_95d88 d Q 48 [some (.long x), l1] st P := X_lload_n (M := mJ13_bitCount_95d88) (dJ13_bitCount_95d88_48) rfl rfl k
theorem dJ13_bitCount_95d88_49 : decode cJ13_bitCount_95d88 49 = .ok (.lload_n 0, 1) := by decide +kernel
theorem sJ13_bitCount_95d88_49 {l1 : Option Value} {x : Int64} (k : X w mJ13_bitCount_95d88 d Q 50 [some (.long x), l1] (.long x :: st) P) : X w mJ13_bitCount_95d88 d Q 49 [some (.long x), l1] st P := X_lload_n (M := mJ13_bitCount_95d88) (dJ13_bitCount_95d88_49) rfl rfl k
theorem dJ13_bitCount_95d88_50 : decode cJ13_bitCount_95d88 50 = .ok (.bipush 32, 2) := by decide +kernel
theorem sJ13_bitCount_95d88_50 (k : X w mJ13_bitCount_95d88 d Q 52 ls (.int (32 : Int32) :: st) P) : X w mJ13_bitCount_95d88 d Q 50 ls st P := X_bipush (M := mJ13_bitCount_95d88) (dJ13_bitCount_95d88_50) (by decide) k
theorem dJ13_bitCount_95d88_52 : decode cJ13_bitCount_95d88 52 = .ok (.lushr, 1) := by decide +kernel
theorem sJ13_bitCount_95d88_52 {x : Int64} {y : Int32} (k : X w mJ13_bitCount_95d88 d Q 53 ls (.long ((x.toUInt64 >>> (y.toInt64.toUInt64 &&& Int64.toUInt64 63)).toInt64) :: st) P) : X w mJ13_bitCount_95d88 d Q 52 ls (.int y :: .long x :: st) P := X_lushr (M := mJ13_bitCount_95d88) (dJ13_bitCount_95d88_52) k
theorem dJ13_bitCount_95d88_53 : decode cJ13_bitCount_95d88 53 = .ok (.ladd, 1) := by decide +kernel
theorem sJ13_bitCount_95d88_53 {x y : Int64} (k : X w mJ13_bitCount_95d88 d Q 54 ls (.long (x + y) :: st) P) : X w mJ13_bitCount_95d88 d Q 53 ls (.long y :: .long x :: st) P := X_ladd (M := mJ13_bitCount_95d88) (dJ13_bitCount_95d88_53) k
theorem dJ13_bitCount_95d88_54 : decode cJ13_bitCount_95d88 54 = .ok (.lstore_n 0, 1) := by decide +kernel
theorem sJ13_bitCount_95d88_54 {l0 l1 : Option Value} {x : Int64} (k : X w mJ13_bitCount_95d88 d Q 55 [some (.long x), none] st P) : X w mJ13_bitCount_95d88 d Q 54 [l0, l1] (.long x :: st) P := X_lstore_n (M := mJ13_bitCount_95d88) (dJ13_bitCount_95d88_54) rfl (by decide) rfl (fun q hq => by omega) k
theorem dJ13_bitCount_95d88_55 : decode cJ13_bitCount_95d88 55 = .ok (.lload_n 0, 1) := by decide +kernel
theorem sJ13_bitCount_95d88_55 {l1 : Option Value} {x : Int64} (k : X w mJ13_bitCount_95d88 d Q 56 [some (.long x), l1] (.long x :: st) P) : X w mJ13_bitCount_95d88 d Q 55 [some (.long x), l1] st P := X_lload_n (M := mJ13_bitCount_95d88) (dJ13_bitCount_95d88_55) rfl rfl k
theorem dJ13_bitCount_95d88_56 : decode cJ13_bitCount_95d88 56 = .ok (.l2i, 1) := by decide +kernel
theorem sJ13_bitCount_95d88_56 {x : Int64} (k : X w mJ13_bitCount_95d88 d Q 57 ls (.int x.toInt32 :: st) P) : X w mJ13_bitCount_95d88 d Q 56 ls (.long x :: st) P := X_l2i (M := mJ13_bitCount_95d88) (dJ13_bitCount_95d88_56) k
theorem dJ13_bitCount_95d88_57 : decode cJ13_bitCount_95d88 57 = .ok (.bipush 127, 2) := by decide +kernel
theorem sJ13_bitCount_95d88_57 (k : X w mJ13_bitCount_95d88 d Q 59 ls (.int (127 : Int32) :: st) P) : X w mJ13_bitCount_95d88 d Q 57 ls st P := X_bipush (M := mJ13_bitCount_95d88) (dJ13_bitCount_95d88_57) (by decide) k
theorem dJ13_bitCount_95d88_59 : decode cJ13_bitCount_95d88 59 = .ok (.iand, 1) := by decide +kernel
theorem sJ13_bitCount_95d88_59 {x y : Int32} (k : X w mJ13_bitCount_95d88 d Q 60 ls (.int (x &&& y) :: st) P) : X w mJ13_bitCount_95d88 d Q 59 ls (.int y :: .int x :: st) P := X_iand (M := mJ13_bitCount_95d88) (dJ13_bitCount_95d88_59) k
theorem dJ13_bitCount_95d88_60 : decode cJ13_bitCount_95d88 60 = .ok (.ireturn, 1) := by decide +kernel
theorem sJ13_bitCount_95d88_60 {v : Int32} (hq : Q (.returned (some (.int v))) P) : X w mJ13_bitCount_95d88 d Q 60 ls [.int v] P := X_iret (M := mJ13_bitCount_95d88) (dJ13_bitCount_95d88_60) rfl hq
theorem dJ9_floorDiv_f86c9_0 : decode cJ9_floorDiv_f86c9 0 = .ok (.lload_n 0, 1) := by decide +kernel
theorem sJ9_floorDiv_f86c9_0 {l1 l2 l3 l4 l5 : Option Value} {x : Int64} (k : X w mJ9_floorDiv_f86c9 d Q 1 [some (.long x), l1, l2, l3, l4, l5] (.long x :: st) P) : X w mJ9_floorDiv_f86c9 d Q 0 [some (.long x), l1, l2, l3, l4, l5] st P := X_lload_n (M := mJ9_floorDiv_f86c9) (dJ9_floorDiv_f86c9_0) rfl rfl k
theorem dJ9_floorDiv_f86c9_1 : decode cJ9_floorDiv_f86c9 1 = .ok (.lload_n 2, 1) := by decide +kernel
theorem sJ9_floorDiv_f86c9_1 {l0 l1 l3 l4 l5 : Option Value} {x : Int64} (k : X w mJ9_floorDiv_f86c9 d Q 2 [l0, l1, some (.long x), l3, l4, l5] (.long x :: st) P) : X w mJ9_floorDiv_f86c9 d Q 1 [l0, l1, some (.long x), l3, l4, l5] st P := X_lload_n (M := mJ9_floorDiv_f86c9) (dJ9_floorDiv_f86c9_1) rfl rfl k
theorem dJ9_floorDiv_f86c9_2 : decode cJ9_floorDiv_f86c9 2 = .ok (.ldiv, 1) := by decide +kernel
theorem sJ9_floorDiv_f86c9_2 {x y : Int64} (hne : ¬ y = 0) (k : X w mJ9_floorDiv_f86c9 d Q 3 ls (.long (x / y) :: st) P) : X w mJ9_floorDiv_f86c9 d Q 2 ls (.long y :: .long x :: st) P := X_ldiv (M := mJ9_floorDiv_f86c9) (dJ9_floorDiv_f86c9_2) hne k
theorem dJ9_floorDiv_f86c9_3 : decode cJ9_floorDiv_f86c9 3 = .ok (.lstore 4, 2) := by decide +kernel
theorem sJ9_floorDiv_f86c9_3 {l0 l1 l2 l3 l4 l5 : Option Value} {x : Int64} (hn : xnl l3 = true) (k : X w mJ9_floorDiv_f86c9 d Q 5 [l0, l1, l2, l3, some (.long x), none] st P) : X w mJ9_floorDiv_f86c9 d Q 3 [l0, l1, l2, l3, l4, l5] (.long x :: st) P := X_lstore (M := mJ9_floorDiv_f86c9) (dJ9_floorDiv_f86c9_3) (by decide) rfl (xnl_p (ls := [l0, l1, l2, l3, l4, l5]) (j := 3) rfl hn) k
theorem dJ9_floorDiv_f86c9_5 : decode cJ9_floorDiv_f86c9 5 = .ok (.lload_n 0, 1) := by decide +kernel
theorem sJ9_floorDiv_f86c9_5 {l1 l2 l3 l4 l5 : Option Value} {x : Int64} (k : X w mJ9_floorDiv_f86c9 d Q 6 [some (.long x), l1, l2, l3, l4, l5] (.long x :: st) P) : X w mJ9_floorDiv_f86c9 d Q 5 [some (.long x), l1, l2, l3, l4, l5] st P := X_lload_n (M := mJ9_floorDiv_f86c9) (dJ9_floorDiv_f86c9_5) rfl rfl k
theorem dJ9_floorDiv_f86c9_6 : decode cJ9_floorDiv_f86c9 6 = .ok (.lload_n 2, 1) := by decide +kernel
theorem sJ9_floorDiv_f86c9_6 {l0 l1 l3 l4 l5 : Option Value} {x : Int64} (k : X w mJ9_floorDiv_f86c9 d Q 7 [l0, l1, some (.long x), l3, l4, l5] (.long x :: st) P) : X w mJ9_floorDiv_f86c9 d Q 6 [l0, l1, some (.long x), l3, l4, l5] st P := X_lload_n (M := mJ9_floorDiv_f86c9) (dJ9_floorDiv_f86c9_6) rfl rfl k
theorem dJ9_floorDiv_f86c9_7 : decode cJ9_floorDiv_f86c9 7 = .ok (.lxor, 1) := by decide +kernel
theorem sJ9_floorDiv_f86c9_7 {x y : Int64} (k : X w mJ9_floorDiv_f86c9 d Q 8 ls (.long (x ^^^ y) :: st) P) : X w mJ9_floorDiv_f86c9 d Q 7 ls (.long y :: .long x :: st) P := X_lxor (M := mJ9_floorDiv_f86c9) (dJ9_floorDiv_f86c9_7) k
theorem dJ9_floorDiv_f86c9_8 : decode cJ9_floorDiv_f86c9 8 = .ok (.lconst 0, 1) := by decide +kernel
theorem sJ9_floorDiv_f86c9_8 (k : X w mJ9_floorDiv_f86c9 d Q 9 ls (.long (0 : Int64) :: st) P) : X w mJ9_floorDiv_f86c9 d Q 8 ls st P := X_lconst (M := mJ9_floorDiv_f86c9) (dJ9_floorDiv_f86c9_8) (by decide) k
theorem dJ9_floorDiv_f86c9_9 : decode cJ9_floorDiv_f86c9 9 = .ok (.lcmp, 1) := by decide +kernel
theorem sJ9_floorDiv_f86c9_9 {x y : Int64} (k : X w mJ9_floorDiv_f86c9 d Q 10 ls (.int (lg_cmp x y) :: st) P) : X w mJ9_floorDiv_f86c9 d Q 9 ls (.long y :: .long x :: st) P := X_lcmp (M := mJ9_floorDiv_f86c9) (dJ9_floorDiv_f86c9_9) k
theorem dJ9_floorDiv_f86c9_10 : decode cJ9_floorDiv_f86c9 10 = .ok (.ifCond .ge 17, 3) := by decide +kernel
theorem sJ9_floorDiv_f86c9_10 {x : Int32} (kt : 0 ≤ x → X w mJ9_floorDiv_f86c9 d Q 27 ls st P) (kf : ¬ 0 ≤ x → X w mJ9_floorDiv_f86c9 d Q 13 ls st P) : X w mJ9_floorDiv_f86c9 d Q 10 ls (.int x :: st) P := X_if_ge (M := mJ9_floorDiv_f86c9) (dJ9_floorDiv_f86c9_10) (by decide) kt kf
theorem dJ9_floorDiv_f86c9_13 : decode cJ9_floorDiv_f86c9 13 = .ok (.lload 4, 2) := by decide +kernel
theorem sJ9_floorDiv_f86c9_13 {l0 l1 l2 l3 l5 : Option Value} {x : Int64} (k : X w mJ9_floorDiv_f86c9 d Q 15 [l0, l1, l2, l3, some (.long x), l5] (.long x :: st) P) : X w mJ9_floorDiv_f86c9 d Q 13 [l0, l1, l2, l3, some (.long x), l5] st P := X_lload (M := mJ9_floorDiv_f86c9) (dJ9_floorDiv_f86c9_13) rfl k
theorem dJ9_floorDiv_f86c9_15 : decode cJ9_floorDiv_f86c9 15 = .ok (.lload_n 2, 1) := by decide +kernel
theorem sJ9_floorDiv_f86c9_15 {l0 l1 l3 l4 l5 : Option Value} {x : Int64} (k : X w mJ9_floorDiv_f86c9 d Q 16 [l0, l1, some (.long x), l3, l4, l5] (.long x :: st) P) : X w mJ9_floorDiv_f86c9 d Q 15 [l0, l1, some (.long x), l3, l4, l5] st P := X_lload_n (M := mJ9_floorDiv_f86c9) (dJ9_floorDiv_f86c9_15) rfl rfl k
theorem dJ9_floorDiv_f86c9_16 : decode cJ9_floorDiv_f86c9 16 = .ok (.lmul, 1) := by decide +kernel
theorem sJ9_floorDiv_f86c9_16 {x y : Int64} (k : X w mJ9_floorDiv_f86c9 d Q 17 ls (.long (x * y) :: st) P) : X w mJ9_floorDiv_f86c9 d Q 16 ls (.long y :: .long x :: st) P := X_lmul (M := mJ9_floorDiv_f86c9) (dJ9_floorDiv_f86c9_16) k
theorem dJ9_floorDiv_f86c9_17 : decode cJ9_floorDiv_f86c9 17 = .ok (.lload_n 0, 1) := by decide +kernel
theorem sJ9_floorDiv_f86c9_17 {l1 l2 l3 l4 l5 : Option Value} {x : Int64} (k : X w mJ9_floorDiv_f86c9 d Q 18 [some (.long x), l1, l2, l3, l4, l5] (.long x :: st) P) : X w mJ9_floorDiv_f86c9 d Q 17 [some (.long x), l1, l2, l3, l4, l5] st P := X_lload_n (M := mJ9_floorDiv_f86c9) (dJ9_floorDiv_f86c9_17) rfl rfl k
theorem dJ9_floorDiv_f86c9_18 : decode cJ9_floorDiv_f86c9 18 = .ok (.lcmp, 1) := by decide +kernel
theorem sJ9_floorDiv_f86c9_18 {x y : Int64} (k : X w mJ9_floorDiv_f86c9 d Q 19 ls (.int (lg_cmp x y) :: st) P) : X w mJ9_floorDiv_f86c9 d Q 18 ls (.long y :: .long x :: st) P := X_lcmp (M := mJ9_floorDiv_f86c9) (dJ9_floorDiv_f86c9_18) k
theorem dJ9_floorDiv_f86c9_19 : decode cJ9_floorDiv_f86c9 19 = .ok (.ifCond .eq 8, 3) := by decide +kernel
theorem sJ9_floorDiv_f86c9_19 {x : Int32} (kt : x = 0 → X w mJ9_floorDiv_f86c9 d Q 27 ls st P) (kf : ¬ x = 0 → X w mJ9_floorDiv_f86c9 d Q 22 ls st P) : X w mJ9_floorDiv_f86c9 d Q 19 ls (.int x :: st) P := X_if_eq (M := mJ9_floorDiv_f86c9) (dJ9_floorDiv_f86c9_19) (by decide) kt kf
theorem dJ9_floorDiv_f86c9_22 : decode cJ9_floorDiv_f86c9 22 = .ok (.lload 4, 2) := by decide +kernel
theorem sJ9_floorDiv_f86c9_22 {l0 l1 l2 l3 l5 : Option Value} {x : Int64} (k : X w mJ9_floorDiv_f86c9 d Q 24 [l0, l1, l2, l3, some (.long x), l5] (.long x :: st) P) : X w mJ9_floorDiv_f86c9 d Q 22 [l0, l1, l2, l3, some (.long x), l5] st P := X_lload (M := mJ9_floorDiv_f86c9) (dJ9_floorDiv_f86c9_22) rfl k
theorem dJ9_floorDiv_f86c9_24 : decode cJ9_floorDiv_f86c9 24 = .ok (.lconst 1, 1) := by decide +kernel
theorem sJ9_floorDiv_f86c9_24 (k : X w mJ9_floorDiv_f86c9 d Q 25 ls (.long (1 : Int64) :: st) P) : X w mJ9_floorDiv_f86c9 d Q 24 ls st P := X_lconst (M := mJ9_floorDiv_f86c9) (dJ9_floorDiv_f86c9_24) (by decide) k
theorem dJ9_floorDiv_f86c9_25 : decode cJ9_floorDiv_f86c9 25 = .ok (.lsub, 1) := by decide +kernel
theorem sJ9_floorDiv_f86c9_25 {x y : Int64} (k : X w mJ9_floorDiv_f86c9 d Q 26 ls (.long (x - y) :: st) P) : X w mJ9_floorDiv_f86c9 d Q 25 ls (.long y :: .long x :: st) P := X_lsub (M := mJ9_floorDiv_f86c9) (dJ9_floorDiv_f86c9_25) k
theorem dJ9_floorDiv_f86c9_26 : decode cJ9_floorDiv_f86c9 26 = .ok (.lreturn, 1) := by decide +kernel
theorem sJ9_floorDiv_f86c9_26 {v : Int64} (hq : Q (.returned (some (.long v))) P) : X w mJ9_floorDiv_f86c9 d Q 26 ls [.long v] P := X_lret (M := mJ9_floorDiv_f86c9) (dJ9_floorDiv_f86c9_26) rfl hq
theorem dJ9_floorDiv_f86c9_27 : decode cJ9_floorDiv_f86c9 27 = .ok (.lload 4, 2) := by decide +kernel
theorem sJ9_floorDiv_f86c9_27 {l0 l1 l2 l3 l5 : Option Value} {x : Int64} (k : X w mJ9_floorDiv_f86c9 d Q 29 [l0, l1, l2, l3, some (.long x), l5] (.long x :: st) P) : X w mJ9_floorDiv_f86c9 d Q 27 [l0, l1, l2, l3, some (.long x), l5] st P := X_lload (M := mJ9_floorDiv_f86c9) (dJ9_floorDiv_f86c9_27) rfl k
theorem dJ9_floorDiv_f86c9_29 : decode cJ9_floorDiv_f86c9 29 = .ok (.lreturn, 1) := by decide +kernel
theorem sJ9_floorDiv_f86c9_29 {v : Int64} (hq : Q (.returned (some (.long v))) P) : X w mJ9_floorDiv_f86c9 d Q 29 ls [.long v] P := X_lret (M := mJ9_floorDiv_f86c9) (dJ9_floorDiv_f86c9_29) rfl hq
theorem dJ9_max_7cf53_0 : decode cJ9_max_7cf53 0 = .ok (.iload_n 0, 1) := by decide +kernel
theorem sJ9_max_7cf53_0 {l1 : Option Value} {x : Int32} (k : X w mJ9_max_7cf53 d Q 1 [some (.int x), l1] (.int x :: st) P) : X w mJ9_max_7cf53 d Q 0 [some (.int x), l1] st P := X_iload_n (M := mJ9_max_7cf53) (dJ9_max_7cf53_0) rfl rfl k
theorem dJ9_max_7cf53_1 : decode cJ9_max_7cf53 1 = .ok (.iload_n 1, 1) := by decide +kernel
theorem sJ9_max_7cf53_1 {l0 : Option Value} {x : Int32} (k : X w mJ9_max_7cf53 d Q 2 [l0, some (.int x)] (.int x :: st) P) : X w mJ9_max_7cf53 d Q 1 [l0, some (.int x)] st P := X_iload_n (M := mJ9_max_7cf53) (dJ9_max_7cf53_1) rfl rfl k
theorem dJ9_max_7cf53_2 : decode cJ9_max_7cf53 2 = .ok (.if_icmp .lt 7, 3) := by decide +kernel
theorem sJ9_max_7cf53_2 {x y : Int32} (kt : x < y → X w mJ9_max_7cf53 d Q 9 ls st P) (kf : ¬ x < y → X w mJ9_max_7cf53 d Q 5 ls st P) : X w mJ9_max_7cf53 d Q 2 ls (.int y :: .int x :: st) P := X_icmp_lt (M := mJ9_max_7cf53) (dJ9_max_7cf53_2) (by decide) kt kf
theorem dJ9_max_7cf53_5 : decode cJ9_max_7cf53 5 = .ok (.iload_n 0, 1) := by decide +kernel
theorem sJ9_max_7cf53_5 {l1 : Option Value} {x : Int32} (k : X w mJ9_max_7cf53 d Q 6 [some (.int x), l1] (.int x :: st) P) : X w mJ9_max_7cf53 d Q 5 [some (.int x), l1] st P := X_iload_n (M := mJ9_max_7cf53) (dJ9_max_7cf53_5) rfl rfl k
theorem dJ9_max_7cf53_6 : decode cJ9_max_7cf53 6 = .ok (.goto 4, 3) := by decide +kernel
theorem sJ9_max_7cf53_6 (k : X w mJ9_max_7cf53 d Q 10 ls st P) : X w mJ9_max_7cf53 d Q 6 ls st P := X_goto (M := mJ9_max_7cf53) (dJ9_max_7cf53_6) (by decide) k
theorem dJ9_max_7cf53_9 : decode cJ9_max_7cf53 9 = .ok (.iload_n 1, 1) := by decide +kernel
theorem sJ9_max_7cf53_9 {l0 : Option Value} {x : Int32} (k : X w mJ9_max_7cf53 d Q 10 [l0, some (.int x)] (.int x :: st) P) : X w mJ9_max_7cf53 d Q 9 [l0, some (.int x)] st P := X_iload_n (M := mJ9_max_7cf53) (dJ9_max_7cf53_9) rfl rfl k
theorem dJ9_max_7cf53_10 : decode cJ9_max_7cf53 10 = .ok (.ireturn, 1) := by decide +kernel
theorem sJ9_max_7cf53_10 {v : Int32} (hq : Q (.returned (some (.int v))) P) : X w mJ9_max_7cf53 d Q 10 ls [.int v] P := X_iret (M := mJ9_max_7cf53) (dJ9_max_7cf53_10) rfl hq
theorem dJ9_min_7cf53_0 : decode cJ9_min_7cf53 0 = .ok (.iload_n 0, 1) := by decide +kernel
theorem sJ9_min_7cf53_0 {l1 : Option Value} {x : Int32} (k : X w mJ9_min_7cf53 d Q 1 [some (.int x), l1] (.int x :: st) P) : X w mJ9_min_7cf53 d Q 0 [some (.int x), l1] st P := X_iload_n (M := mJ9_min_7cf53) (dJ9_min_7cf53_0) rfl rfl k
theorem dJ9_min_7cf53_1 : decode cJ9_min_7cf53 1 = .ok (.iload_n 1, 1) := by decide +kernel
theorem sJ9_min_7cf53_1 {l0 : Option Value} {x : Int32} (k : X w mJ9_min_7cf53 d Q 2 [l0, some (.int x)] (.int x :: st) P) : X w mJ9_min_7cf53 d Q 1 [l0, some (.int x)] st P := X_iload_n (M := mJ9_min_7cf53) (dJ9_min_7cf53_1) rfl rfl k
theorem dJ9_min_7cf53_2 : decode cJ9_min_7cf53 2 = .ok (.if_icmp .gt 7, 3) := by decide +kernel
theorem sJ9_min_7cf53_2 {x y : Int32} (kt : y < x → X w mJ9_min_7cf53 d Q 9 ls st P) (kf : ¬ y < x → X w mJ9_min_7cf53 d Q 5 ls st P) : X w mJ9_min_7cf53 d Q 2 ls (.int y :: .int x :: st) P := X_icmp_gt (M := mJ9_min_7cf53) (dJ9_min_7cf53_2) (by decide) kt kf
theorem dJ9_min_7cf53_5 : decode cJ9_min_7cf53 5 = .ok (.iload_n 0, 1) := by decide +kernel
theorem sJ9_min_7cf53_5 {l1 : Option Value} {x : Int32} (k : X w mJ9_min_7cf53 d Q 6 [some (.int x), l1] (.int x :: st) P) : X w mJ9_min_7cf53 d Q 5 [some (.int x), l1] st P := X_iload_n (M := mJ9_min_7cf53) (dJ9_min_7cf53_5) rfl rfl k
theorem dJ9_min_7cf53_6 : decode cJ9_min_7cf53 6 = .ok (.goto 4, 3) := by decide +kernel
theorem sJ9_min_7cf53_6 (k : X w mJ9_min_7cf53 d Q 10 ls st P) : X w mJ9_min_7cf53 d Q 6 ls st P := X_goto (M := mJ9_min_7cf53) (dJ9_min_7cf53_6) (by decide) k
theorem dJ9_min_7cf53_9 : decode cJ9_min_7cf53 9 = .ok (.iload_n 1, 1) := by decide +kernel
theorem sJ9_min_7cf53_9 {l0 : Option Value} {x : Int32} (k : X w mJ9_min_7cf53 d Q 10 [l0, some (.int x)] (.int x :: st) P) : X w mJ9_min_7cf53 d Q 9 [l0, some (.int x)] st P := X_iload_n (M := mJ9_min_7cf53) (dJ9_min_7cf53_9) rfl rfl k
theorem dJ9_min_7cf53_10 : decode cJ9_min_7cf53 10 = .ok (.ireturn, 1) := by decide +kernel
theorem sJ9_min_7cf53_10 {v : Int32} (hq : Q (.returned (some (.int v))) P) : X w mJ9_min_7cf53 d Q 10 ls [.int v] P := X_iret (M := mJ9_min_7cf53) (dJ9_min_7cf53_10) rfl hq
theorem dJ0_length_8abf5_0 : decode cJ0_length_8abf5 0 = .ok (.aload_n 0, 1) := by decide +kernel
theorem sJ0_length_8abf5_0 {x : Nat} (k : X w mJ0_length_8abf5 d Q 1 [some (.ref x)] (.ref x :: st) P) : X w mJ0_length_8abf5 d Q 0 [some (.ref x)] st P := X_aload_n (M := mJ0_length_8abf5) (dJ0_length_8abf5_0) rfl rfl k
theorem dJ0_length_8abf5_1 : decode cJ0_length_8abf5 1 = .ok (.getfield 9, 3) := by decide +kernel
theorem sJ0_length_8abf5_1 {i : Nat} (hi : i < 26) (k : X w mJ0_length_8abf5 d Q 4 ls (.ref (w.ad (40 + i)) :: st) P) : X w mJ0_length_8abf5 d Q 1 ls (.ref (w.ad (10 + i)) :: st) P := X_getSv (M := mJ0_length_8abf5) (dJ0_length_8abf5_1) xw_3 hi k
theorem dJ0_length_8abf5_4 : decode cJ0_length_8abf5 4 = .ok (.arraylength, 1) := by decide +kernel
theorem sJ0_length_8abf5_4 {i : Nat} (hi : i < 26) (k : X w mJ0_length_8abf5 d Q 5 ls (.int (Int32.ofNat (xSl.getD i 0)) :: st) P) : X w mJ0_length_8abf5 d Q 4 ls (.ref (w.ad (40 + i)) :: st) P := X_blen (M := mJ0_length_8abf5) (dJ0_length_8abf5_4) hi k
theorem dJ0_length_8abf5_5 : decode cJ0_length_8abf5 5 = .ok (.aload_n 0, 1) := by decide +kernel
theorem sJ0_length_8abf5_5 {x : Nat} (k : X w mJ0_length_8abf5 d Q 6 [some (.ref x)] (.ref x :: st) P) : X w mJ0_length_8abf5 d Q 5 [some (.ref x)] st P := X_aload_n (M := mJ0_length_8abf5) (dJ0_length_8abf5_5) rfl rfl k
theorem dJ0_length_8abf5_6 : decode cJ0_length_8abf5 6 = .ok (.invokevirtual 335, 3) := by decide +kernel
theorem sJ0_length_8abf5_6 {i : Nat}  {r : Int32} {P1 : xH} (hst : (st.map fun v => v.category).sum ≤ 8) (hi : i < 26) (hC : xC w d mJ0_coder_7d493 [.ref (w.ad (10 + i))] P (xRet (some (.int r)) P1)) (k : X w mJ0_length_8abf5 (d + 1) Q 9 ls (.int r :: st) P1) : X w mJ0_length_8abf5 (d + 1) Q 6 ls (.ref (w.ad (10 + i)) :: st) P := X_callVS (M := mJ0_length_8abf5) (MC := mJ0_coder_7d493) (As := []) (dJ0_length_8abf5_6) calJ0_coder_7d493 rfl xw_4 xw_5 xw_6 rfl hi hC hst (fun v P2 h => by obtain ⟨h1, rfl⟩ := h; cases h1; exact k) (fun q P2 h => by cases h.1)
theorem dJ0_length_8abf5_9 : decode cJ0_length_8abf5 9 = .ok (.ishr, 1) := by decide +kernel
theorem sJ0_length_8abf5_9 {x y : Int32} (k : X w mJ0_length_8abf5 d Q 10 ls (.int (x >>> (y &&& 31)) :: st) P) : X w mJ0_length_8abf5 d Q 9 ls (.int y :: .int x :: st) P := X_ishr (M := mJ0_length_8abf5) (dJ0_length_8abf5_9) k
theorem dJ0_length_8abf5_10 : decode cJ0_length_8abf5 10 = .ok (.ireturn, 1) := by decide +kernel
theorem sJ0_length_8abf5_10 {v : Int32} (hq : Q (.returned (some (.int v))) P) : X w mJ0_length_8abf5 d Q 10 ls [.int v] P := X_iret (M := mJ0_length_8abf5) (dJ0_length_8abf5_10) rfl hq
theorem dJ0_charAt_5068e_0 : decode cJ0_charAt_5068e 0 = .ok (.aload_n 0, 1) := by decide +kernel
theorem sJ0_charAt_5068e_0 {l1 : Option Value} {x : Nat} (k : X w mJ0_charAt_5068e d Q 1 [some (.ref x), l1] (.ref x :: st) P) : X w mJ0_charAt_5068e d Q 0 [some (.ref x), l1] st P := X_aload_n (M := mJ0_charAt_5068e) (dJ0_charAt_5068e_0) rfl rfl k
theorem dJ0_charAt_5068e_1 : decode cJ0_charAt_5068e 1 = .ok (.invokevirtual 492, 3) := by decide +kernel
theorem sJ0_charAt_5068e_1 {i : Nat}  {r : Int32} {P1 : xH} (hst : (st.map fun v => v.category).sum ≤ 8) (hi : i < 26) (hC : xC w d mJ0_isLatin1_aae02 [.ref (w.ad (10 + i))] P (xRet (some (.int r)) P1)) (k : X w mJ0_charAt_5068e (d + 1) Q 4 ls (.int r :: st) P1) : X w mJ0_charAt_5068e (d + 1) Q 1 ls (.ref (w.ad (10 + i)) :: st) P := X_callVS (M := mJ0_charAt_5068e) (MC := mJ0_isLatin1_aae02) (As := []) (dJ0_charAt_5068e_1) calJ0_isLatin1_aae02 rfl xw_7 xw_8 xw_9 rfl hi hC hst (fun v P2 h => by obtain ⟨h1, rfl⟩ := h; cases h1; exact k) (fun q P2 h => by cases h.1)
theorem dJ0_charAt_5068e_4 : decode cJ0_charAt_5068e 4 = .ok (.ifCond .eq 12, 3) := by decide +kernel
theorem sJ0_charAt_5068e_4 {x : Int32} (kt : x = 0 → X w mJ0_charAt_5068e d Q 16 ls st P) (kf : ¬ x = 0 → X w mJ0_charAt_5068e d Q 7 ls st P) : X w mJ0_charAt_5068e d Q 4 ls (.int x :: st) P := X_if_eq (M := mJ0_charAt_5068e) (dJ0_charAt_5068e_4) (by decide) kt kf
theorem dJ0_charAt_5068e_7 : decode cJ0_charAt_5068e 7 = .ok (.aload_n 0, 1) := by decide +kernel
theorem sJ0_charAt_5068e_7 {l1 : Option Value} {x : Nat} (k : X w mJ0_charAt_5068e d Q 8 [some (.ref x), l1] (.ref x :: st) P) : X w mJ0_charAt_5068e d Q 7 [some (.ref x), l1] st P := X_aload_n (M := mJ0_charAt_5068e) (dJ0_charAt_5068e_7) rfl rfl k
theorem dJ0_charAt_5068e_8 : decode cJ0_charAt_5068e 8 = .ok (.getfield 9, 3) := by decide +kernel
theorem sJ0_charAt_5068e_8 {i : Nat} (hi : i < 26) (k : X w mJ0_charAt_5068e d Q 11 ls (.ref (w.ad (40 + i)) :: st) P) : X w mJ0_charAt_5068e d Q 8 ls (.ref (w.ad (10 + i)) :: st) P := X_getSv (M := mJ0_charAt_5068e) (dJ0_charAt_5068e_8) xw_3 hi k
theorem dJ0_charAt_5068e_11 : decode cJ0_charAt_5068e 11 = .ok (.iload_n 1, 1) := by decide +kernel
theorem sJ0_charAt_5068e_11 {l0 : Option Value} {x : Int32} (k : X w mJ0_charAt_5068e d Q 12 [l0, some (.int x)] (.int x :: st) P) : X w mJ0_charAt_5068e d Q 11 [l0, some (.int x)] st P := X_iload_n (M := mJ0_charAt_5068e) (dJ0_charAt_5068e_11) rfl rfl k
theorem dJ0_charAt_5068e_12 : decode cJ0_charAt_5068e 12 = .ok (.invokestatic 495, 3) := by decide +kernel
theorem sJ0_charAt_5068e_12_g {a0 : Nat} {a1 : Int32} {Qc : Outcome → xH → Prop} (hst : (st.map fun v => v.category).sum ≤ 8) (hC : xC w d mJ1_charAt_3b067 [.ref a0, .int a1] P Qc) (kr : ∀ v P1, Qc (.returned v) P1 → X w mJ0_charAt_5068e (d + 1) Q 15 ls (v.toList ++ st) P1) (kt : ∀ q P1, Qc (.threw q) P1 → Xt w mJ0_charAt_5068e (d + 1) Q 12 ls st P1 q) : X w mJ0_charAt_5068e (d + 1) Q 12 ls (.int a1 :: .ref a0 :: st) P := X_callS (M := mJ0_charAt_5068e) (MC := mJ1_charAt_3b067) (As := [.ref a0, .int a1]) (dJ0_charAt_5068e_12) calJ1_charAt_3b067 xw_10 xw_11 rfl hC hst kr kt
theorem sJ0_charAt_5068e_12 {a0 : Nat} {a1 : Int32} {r : Int32} {P1 : xH} (hst : (st.map fun v => v.category).sum ≤ 8) (hC : xC w d mJ1_charAt_3b067 [.ref a0, .int a1] P (xRet (some (.int r)) P1)) (k : X w mJ0_charAt_5068e (d + 1) Q 15 ls (.int r :: st) P1) : X w mJ0_charAt_5068e (d + 1) Q 12 ls (.int a1 :: .ref a0 :: st) P := X_callS (M := mJ0_charAt_5068e) (MC := mJ1_charAt_3b067) (As := [.ref a0, .int a1]) (dJ0_charAt_5068e_12) calJ1_charAt_3b067 xw_10 xw_11 rfl hC hst (fun v P2 h => by obtain ⟨h1, rfl⟩ := h; cases h1; exact k) (fun q P2 h => by cases h.1)
theorem sJ0_charAt_5068e_12_r {a0 : Nat} {a1 : Int32} {r : Int32} {Rp : xH → Prop} (hst : (st.map fun v => v.category).sum ≤ 8) (hC : xC w d mJ1_charAt_3b067 [.ref a0, .int a1] P (xRl (some (.int r)) Rp)) (k : ∀ P1, Rp P1 → X w mJ0_charAt_5068e (d + 1) Q 15 ls (.int r :: st) P1) : X w mJ0_charAt_5068e (d + 1) Q 12 ls (.int a1 :: .ref a0 :: st) P := X_callS (M := mJ0_charAt_5068e) (MC := mJ1_charAt_3b067) (As := [.ref a0, .int a1]) (dJ0_charAt_5068e_12) calJ1_charAt_3b067 xw_10 xw_11 rfl hC hst (fun v P2 h => by obtain ⟨h1, hR⟩ := h; cases h1; exact k P2 hR) (fun q P2 h => by cases h.1)
theorem sJ0_charAt_5068e_12_t {a0 : Nat} {a1 : Int32} {q : Nat} {P1 : xH} (hst : (st.map fun v => v.category).sum ≤ 8) (hC : xC w d mJ1_charAt_3b067 [.ref a0, .int a1] P (xThr q P1)) (hq : Q (.threw q) P1) : X w mJ0_charAt_5068e (d + 1) Q 12 ls (.int a1 :: .ref a0 :: st) P := X_callS (M := mJ0_charAt_5068e) (MC := mJ1_charAt_3b067) (As := [.ref a0, .int a1]) (dJ0_charAt_5068e_12) calJ1_charAt_3b067 xw_10 xw_11 rfl hC hst (fun v P2 h => by cases h.1) (fun q2 P2 h => by obtain ⟨h1, rfl⟩ := h; cases h1; exact Xt_out rfl hq)
theorem dJ0_charAt_5068e_15 : decode cJ0_charAt_5068e 15 = .ok (.ireturn, 1) := by decide +kernel
theorem sJ0_charAt_5068e_15 {v : Int32} (hn : narrow .char (.int v) = .int v) (hq : Q (.returned (some (.int v))) P) : X w mJ0_charAt_5068e d Q 15 ls [.int v] P := X_zret (M := mJ0_charAt_5068e) (ty := .char) (dJ0_charAt_5068e_15) rfl hn hq
theorem dJ0_charAt_5068e_16 : decode cJ0_charAt_5068e 16 = .ok (.aload_n 0, 1) := by decide +kernel
theorem sJ0_charAt_5068e_16 {l1 : Option Value} {x : Nat} (k : X w mJ0_charAt_5068e d Q 17 [some (.ref x), l1] (.ref x :: st) P) : X w mJ0_charAt_5068e d Q 16 [some (.ref x), l1] st P := X_aload_n (M := mJ0_charAt_5068e) (dJ0_charAt_5068e_16) rfl rfl k
theorem dJ0_charAt_5068e_17 : decode cJ0_charAt_5068e 17 = .ok (.getfield 9, 3) := by decide +kernel
theorem sJ0_charAt_5068e_17 {i : Nat} (hi : i < 26) (k : X w mJ0_charAt_5068e d Q 20 ls (.ref (w.ad (40 + i)) :: st) P) : X w mJ0_charAt_5068e d Q 17 ls (.ref (w.ad (10 + i)) :: st) P := X_getSv (M := mJ0_charAt_5068e) (dJ0_charAt_5068e_17) xw_3 hi k
theorem dJ0_charAt_5068e_20 : decode cJ0_charAt_5068e 20 = .ok (.iload_n 1, 1) := by decide +kernel
theorem sJ0_charAt_5068e_20 {l0 : Option Value} {x : Int32} (k : X w mJ0_charAt_5068e d Q 21 [l0, some (.int x)] (.int x :: st) P) : X w mJ0_charAt_5068e d Q 20 [l0, some (.int x)] st P := X_iload_n (M := mJ0_charAt_5068e) (dJ0_charAt_5068e_20) rfl rfl k
theorem dJ0_charAt_5068e_21 : decode cJ0_charAt_5068e 21 = .ok (.invokestatic 498, 3) := by decide +kernel
-- call of java/lang/StringUTF16.charAt([BI)C
theorem dJ0_charAt_5068e_24 : decode cJ0_charAt_5068e 24 = .ok (.ireturn, 1) := by decide +kernel
theorem sJ0_charAt_5068e_24 {v : Int32} (hn : narrow .char (.int v) = .int v) (hq : Q (.returned (some (.int v))) P) : X w mJ0_charAt_5068e d Q 24 ls [.int v] P := X_zret (M := mJ0_charAt_5068e) (ty := .char) (dJ0_charAt_5068e_24) rfl hn hq
theorem dJ0_coder_7d493_0 : decode cJ0_coder_7d493 0 = .ok (.getstatic 38, 3) := by decide +kernel
theorem sJ0_coder_7d493_0 (k : X w mJ0_coder_7d493 d Q 3 ls (.int 1 :: st) P) : X w mJ0_coder_7d493 d Q 0 ls st P := X_getsCS (M := mJ0_coder_7d493) (dJ0_coder_7d493_0) xw_12 k
theorem dJ0_coder_7d493_3 : decode cJ0_coder_7d493 3 = .ok (.ifCond .eq 10, 3) := by decide +kernel
theorem sJ0_coder_7d493_3 {x : Int32} (kt : x = 0 → X w mJ0_coder_7d493 d Q 13 ls st P) (kf : ¬ x = 0 → X w mJ0_coder_7d493 d Q 6 ls st P) : X w mJ0_coder_7d493 d Q 3 ls (.int x :: st) P := X_if_eq (M := mJ0_coder_7d493) (dJ0_coder_7d493_3) (by decide) kt kf
theorem dJ0_coder_7d493_6 : decode cJ0_coder_7d493 6 = .ok (.aload_n 0, 1) := by decide +kernel
theorem sJ0_coder_7d493_6 {x : Nat} (k : X w mJ0_coder_7d493 d Q 7 [some (.ref x)] (.ref x :: st) P) : X w mJ0_coder_7d493 d Q 6 [some (.ref x)] st P := X_aload_n (M := mJ0_coder_7d493) (dJ0_coder_7d493_6) rfl rfl k
theorem dJ0_coder_7d493_7 : decode cJ0_coder_7d493 7 = .ok (.getfield 15, 3) := by decide +kernel
theorem sJ0_coder_7d493_7 {i : Nat} (hi : i < 26) (k : X w mJ0_coder_7d493 d Q 10 ls (.int 0 :: st) P) : X w mJ0_coder_7d493 d Q 7 ls (.ref (w.ad (10 + i)) :: st) P := X_getSc (M := mJ0_coder_7d493) (dJ0_coder_7d493_7) xw_13 hi k
theorem dJ0_coder_7d493_10 : decode cJ0_coder_7d493 10 = .ok (.goto 4, 3) := by decide +kernel
theorem sJ0_coder_7d493_10 (k : X w mJ0_coder_7d493 d Q 14 ls st P) : X w mJ0_coder_7d493 d Q 10 ls st P := X_goto (M := mJ0_coder_7d493) (dJ0_coder_7d493_10) (by decide) k
theorem dJ0_coder_7d493_13 : decode cJ0_coder_7d493 13 = .ok (.iconst 1, 1) := by decide +kernel
theorem sJ0_coder_7d493_13 (k : X w mJ0_coder_7d493 d Q 14 ls (.int (1 : Int32) :: st) P) : X w mJ0_coder_7d493 d Q 13 ls st P := X_iconst (M := mJ0_coder_7d493) (dJ0_coder_7d493_13) (by decide) k
theorem dJ0_coder_7d493_14 : decode cJ0_coder_7d493 14 = .ok (.ireturn, 1) := by decide +kernel
theorem sJ0_coder_7d493_14 {v : Int32} (hn : narrow .byte (.int v) = .int v) (hq : Q (.returned (some (.int v))) P) : X w mJ0_coder_7d493 d Q 14 ls [.int v] P := X_zret (M := mJ0_coder_7d493) (ty := .byte) (dJ0_coder_7d493_14) rfl hn hq
theorem dJ0_isLatin1_aae02_0 : decode cJ0_isLatin1_aae02 0 = .ok (.getstatic 38, 3) := by decide +kernel
theorem sJ0_isLatin1_aae02_0 (k : X w mJ0_isLatin1_aae02 d Q 3 ls (.int 1 :: st) P) : X w mJ0_isLatin1_aae02 d Q 0 ls st P := X_getsCS (M := mJ0_isLatin1_aae02) (dJ0_isLatin1_aae02_0) xw_12 k
theorem dJ0_isLatin1_aae02_3 : decode cJ0_isLatin1_aae02 3 = .ok (.ifCond .eq 14, 3) := by decide +kernel
theorem sJ0_isLatin1_aae02_3 {x : Int32} (kt : x = 0 → X w mJ0_isLatin1_aae02 d Q 17 ls st P) (kf : ¬ x = 0 → X w mJ0_isLatin1_aae02 d Q 6 ls st P) : X w mJ0_isLatin1_aae02 d Q 3 ls (.int x :: st) P := X_if_eq (M := mJ0_isLatin1_aae02) (dJ0_isLatin1_aae02_3) (by decide) kt kf
theorem dJ0_isLatin1_aae02_6 : decode cJ0_isLatin1_aae02 6 = .ok (.aload_n 0, 1) := by decide +kernel
theorem sJ0_isLatin1_aae02_6 {x : Nat} (k : X w mJ0_isLatin1_aae02 d Q 7 [some (.ref x)] (.ref x :: st) P) : X w mJ0_isLatin1_aae02 d Q 6 [some (.ref x)] st P := X_aload_n (M := mJ0_isLatin1_aae02) (dJ0_isLatin1_aae02_6) rfl rfl k
theorem dJ0_isLatin1_aae02_7 : decode cJ0_isLatin1_aae02 7 = .ok (.getfield 15, 3) := by decide +kernel
theorem sJ0_isLatin1_aae02_7 {i : Nat} (hi : i < 26) (k : X w mJ0_isLatin1_aae02 d Q 10 ls (.int 0 :: st) P) : X w mJ0_isLatin1_aae02 d Q 7 ls (.ref (w.ad (10 + i)) :: st) P := X_getSc (M := mJ0_isLatin1_aae02) (dJ0_isLatin1_aae02_7) xw_13 hi k
theorem dJ0_isLatin1_aae02_10 : decode cJ0_isLatin1_aae02 10 = .ok (.ifCond .ne 7, 3) := by decide +kernel
theorem sJ0_isLatin1_aae02_10 {x : Int32} (kt : ¬ x = 0 → X w mJ0_isLatin1_aae02 d Q 17 ls st P) (kf : x = 0 → X w mJ0_isLatin1_aae02 d Q 13 ls st P) : X w mJ0_isLatin1_aae02 d Q 10 ls (.int x :: st) P := X_if_ne (M := mJ0_isLatin1_aae02) (dJ0_isLatin1_aae02_10) (by decide) kt kf
theorem dJ0_isLatin1_aae02_13 : decode cJ0_isLatin1_aae02 13 = .ok (.iconst 1, 1) := by decide +kernel
theorem sJ0_isLatin1_aae02_13 (k : X w mJ0_isLatin1_aae02 d Q 14 ls (.int (1 : Int32) :: st) P) : X w mJ0_isLatin1_aae02 d Q 13 ls st P := X_iconst (M := mJ0_isLatin1_aae02) (dJ0_isLatin1_aae02_13) (by decide) k
theorem dJ0_isLatin1_aae02_14 : decode cJ0_isLatin1_aae02 14 = .ok (.goto 4, 3) := by decide +kernel
theorem sJ0_isLatin1_aae02_14 (k : X w mJ0_isLatin1_aae02 d Q 18 ls st P) : X w mJ0_isLatin1_aae02 d Q 14 ls st P := X_goto (M := mJ0_isLatin1_aae02) (dJ0_isLatin1_aae02_14) (by decide) k
theorem dJ0_isLatin1_aae02_17 : decode cJ0_isLatin1_aae02 17 = .ok (.iconst 0, 1) := by decide +kernel
theorem sJ0_isLatin1_aae02_17 (k : X w mJ0_isLatin1_aae02 d Q 18 ls (.int (0 : Int32) :: st) P) : X w mJ0_isLatin1_aae02 d Q 17 ls st P := X_iconst (M := mJ0_isLatin1_aae02) (dJ0_isLatin1_aae02_17) (by decide) k
theorem dJ0_isLatin1_aae02_18 : decode cJ0_isLatin1_aae02 18 = .ok (.ireturn, 1) := by decide +kernel
theorem sJ0_isLatin1_aae02_18 {v : Int32} (hb : v = 0 ∨ v = 1) (hq : Q (.returned (some (.int v))) P) : X w mJ0_isLatin1_aae02 d Q 18 ls [.int v] P := X_zret (M := mJ0_isLatin1_aae02) (ty := .boolean) (dJ0_isLatin1_aae02_18) rfl (xz_n hb) hq
theorem dJ0_checkIndex_df160_0 : decode cJ0_checkIndex_df160 0 = .ok (.iload_n 0, 1) := by decide +kernel
theorem sJ0_checkIndex_df160_0 {l1 : Option Value} {x : Int32} (k : X w mJ0_checkIndex_df160 d Q 1 [some (.int x), l1] (.int x :: st) P) : X w mJ0_checkIndex_df160 d Q 0 [some (.int x), l1] st P := X_iload_n (M := mJ0_checkIndex_df160) (dJ0_checkIndex_df160_0) rfl rfl k
theorem dJ0_checkIndex_df160_1 : decode cJ0_checkIndex_df160 1 = .ok (.iload_n 1, 1) := by decide +kernel
theorem sJ0_checkIndex_df160_1 {l0 : Option Value} {x : Int32} (k : X w mJ0_checkIndex_df160 d Q 2 [l0, some (.int x)] (.int x :: st) P) : X w mJ0_checkIndex_df160 d Q 1 [l0, some (.int x)] st P := X_iload_n (M := mJ0_checkIndex_df160) (dJ0_checkIndex_df160_1) rfl rfl k
theorem dJ0_checkIndex_df160_2 : decode cJ0_checkIndex_df160 2 = .ok (.getstatic 1053, 3) := by decide +kernel
theorem sJ0_checkIndex_df160_2 (k : ∀ v : Value, v.category = 1 → X w mJ0_checkIndex_df160 d Q 5 ls (v :: st) P) : X w mJ0_checkIndex_df160 d Q 2 ls st P := X_getsSF (M := mJ0_checkIndex_df160) (dJ0_checkIndex_df160_2) xw_14 k
theorem dJ0_checkIndex_df160_5 : decode cJ0_checkIndex_df160 5 = .ok (.invokestatic 1059, 3) := by decide +kernel
theorem sJ0_checkIndex_df160_5_g {a0 : Int32} {a1 : Int32} {a2 : Value} {Qc : Outcome → xH → Prop} (hst : (st.map fun v => v.category).sum ≤ 8) (hC : xC w d mJ3_checkIndex_8e157 [.int a0, .int a1, a2] P Qc) (kr : ∀ v P1, Qc (.returned v) P1 → X w mJ0_checkIndex_df160 (d + 1) Q 8 ls (v.toList ++ st) P1) (kt : ∀ q P1, Qc (.threw q) P1 → Xt w mJ0_checkIndex_df160 (d + 1) Q 5 ls st P1 q) : X w mJ0_checkIndex_df160 (d + 1) Q 5 ls (a2 :: .int a1 :: .int a0 :: st) P := X_callS (M := mJ0_checkIndex_df160) (MC := mJ3_checkIndex_8e157) (As := [.int a0, .int a1, a2]) (dJ0_checkIndex_df160_5) calJ3_checkIndex_8e157 xw_15 xw_16 rfl hC hst kr kt
theorem sJ0_checkIndex_df160_5 {a0 : Int32} {a1 : Int32} {a2 : Value} {r : Int32} {P1 : xH} (hst : (st.map fun v => v.category).sum ≤ 8) (hC : xC w d mJ3_checkIndex_8e157 [.int a0, .int a1, a2] P (xRet (some (.int r)) P1)) (k : X w mJ0_checkIndex_df160 (d + 1) Q 8 ls (.int r :: st) P1) : X w mJ0_checkIndex_df160 (d + 1) Q 5 ls (a2 :: .int a1 :: .int a0 :: st) P := X_callS (M := mJ0_checkIndex_df160) (MC := mJ3_checkIndex_8e157) (As := [.int a0, .int a1, a2]) (dJ0_checkIndex_df160_5) calJ3_checkIndex_8e157 xw_15 xw_16 rfl hC hst (fun v P2 h => by obtain ⟨h1, rfl⟩ := h; cases h1; exact k) (fun q P2 h => by cases h.1)
theorem sJ0_checkIndex_df160_5_r {a0 : Int32} {a1 : Int32} {a2 : Value} {r : Int32} {Rp : xH → Prop} (hst : (st.map fun v => v.category).sum ≤ 8) (hC : xC w d mJ3_checkIndex_8e157 [.int a0, .int a1, a2] P (xRl (some (.int r)) Rp)) (k : ∀ P1, Rp P1 → X w mJ0_checkIndex_df160 (d + 1) Q 8 ls (.int r :: st) P1) : X w mJ0_checkIndex_df160 (d + 1) Q 5 ls (a2 :: .int a1 :: .int a0 :: st) P := X_callS (M := mJ0_checkIndex_df160) (MC := mJ3_checkIndex_8e157) (As := [.int a0, .int a1, a2]) (dJ0_checkIndex_df160_5) calJ3_checkIndex_8e157 xw_15 xw_16 rfl hC hst (fun v P2 h => by obtain ⟨h1, hR⟩ := h; cases h1; exact k P2 hR) (fun q P2 h => by cases h.1)
theorem sJ0_checkIndex_df160_5_t {a0 : Int32} {a1 : Int32} {a2 : Value} {q : Nat} {P1 : xH} (hst : (st.map fun v => v.category).sum ≤ 8) (hC : xC w d mJ3_checkIndex_8e157 [.int a0, .int a1, a2] P (xThr q P1)) (hq : Q (.threw q) P1) : X w mJ0_checkIndex_df160 (d + 1) Q 5 ls (a2 :: .int a1 :: .int a0 :: st) P := X_callS (M := mJ0_checkIndex_df160) (MC := mJ3_checkIndex_8e157) (As := [.int a0, .int a1, a2]) (dJ0_checkIndex_df160_5) calJ3_checkIndex_8e157 xw_15 xw_16 rfl hC hst (fun v P2 h => by cases h.1) (fun q2 P2 h => by obtain ⟨h1, rfl⟩ := h; cases h1; exact Xt_out rfl hq)
theorem dJ0_checkIndex_df160_8 : decode cJ0_checkIndex_df160 8 = .ok (.pop, 1) := by decide +kernel
theorem sJ0_checkIndex_df160_8 {v : Value} (hv : v.category = 1) (k : X w mJ0_checkIndex_df160 d Q 9 ls st P) : X w mJ0_checkIndex_df160 d Q 8 ls (v :: st) P := X_pop (M := mJ0_checkIndex_df160) (dJ0_checkIndex_df160_8) hv k
theorem dJ0_checkIndex_df160_9 : decode cJ0_checkIndex_df160 9 = .ok (.return_, 1) := by decide +kernel
theorem sJ0_checkIndex_df160_9 (hq : Q (.returned none) P) : X w mJ0_checkIndex_df160 d Q 9 ls [] P := X_vret (M := mJ0_checkIndex_df160) (dJ0_checkIndex_df160_9) rfl hq
theorem dJ1_charAt_3b067_0 : decode cJ1_charAt_3b067 0 = .ok (.iload_n 1, 1) := by decide +kernel
theorem sJ1_charAt_3b067_0 {l0 : Option Value} {x : Int32} (k : X w mJ1_charAt_3b067 d Q 1 [l0, some (.int x)] (.int x :: st) P) : X w mJ1_charAt_3b067 d Q 0 [l0, some (.int x)] st P := X_iload_n (M := mJ1_charAt_3b067) (dJ1_charAt_3b067_0) rfl rfl k
theorem dJ1_charAt_3b067_1 : decode cJ1_charAt_3b067 1 = .ok (.aload_n 0, 1) := by decide +kernel
theorem sJ1_charAt_3b067_1 {l1 : Option Value} {x : Nat} (k : X w mJ1_charAt_3b067 d Q 2 [some (.ref x), l1] (.ref x :: st) P) : X w mJ1_charAt_3b067 d Q 1 [some (.ref x), l1] st P := X_aload_n (M := mJ1_charAt_3b067) (dJ1_charAt_3b067_1) rfl rfl k
theorem dJ1_charAt_3b067_2 : decode cJ1_charAt_3b067 2 = .ok (.arraylength, 1) := by decide +kernel
theorem sJ1_charAt_3b067_2 {i : Nat} (hi : i < 26) (k : X w mJ1_charAt_3b067 d Q 3 ls (.int (Int32.ofNat (xSl.getD i 0)) :: st) P) : X w mJ1_charAt_3b067 d Q 2 ls (.ref (w.ad (40 + i)) :: st) P := X_blen (M := mJ1_charAt_3b067) (dJ1_charAt_3b067_2) hi k
theorem dJ1_charAt_3b067_3 : decode cJ1_charAt_3b067 3 = .ok (.invokestatic 9, 3) := by decide +kernel
theorem sJ1_charAt_3b067_3_g {a0 : Int32} {a1 : Int32} {Qc : Outcome → xH → Prop} (hst : (st.map fun v => v.category).sum ≤ 8) (hC : xC w d mJ0_checkIndex_df160 [.int a0, .int a1] P Qc) (kr : ∀ v P1, Qc (.returned v) P1 → X w mJ1_charAt_3b067 (d + 1) Q 6 ls (v.toList ++ st) P1) (kt : ∀ q P1, Qc (.threw q) P1 → Xt w mJ1_charAt_3b067 (d + 1) Q 3 ls st P1 q) : X w mJ1_charAt_3b067 (d + 1) Q 3 ls (.int a1 :: .int a0 :: st) P := X_callS (M := mJ1_charAt_3b067) (MC := mJ0_checkIndex_df160) (As := [.int a0, .int a1]) (dJ1_charAt_3b067_3) calJ0_checkIndex_df160 xw_17 xw_18 rfl hC hst kr kt
theorem sJ1_charAt_3b067_3 {a0 : Int32} {a1 : Int32} {P1 : xH} (hst : (st.map fun v => v.category).sum ≤ 8) (hC : xC w d mJ0_checkIndex_df160 [.int a0, .int a1] P (xRet none P1)) (k : X w mJ1_charAt_3b067 (d + 1) Q 6 ls st P1) : X w mJ1_charAt_3b067 (d + 1) Q 3 ls (.int a1 :: .int a0 :: st) P := X_callS (M := mJ1_charAt_3b067) (MC := mJ0_checkIndex_df160) (As := [.int a0, .int a1]) (dJ1_charAt_3b067_3) calJ0_checkIndex_df160 xw_17 xw_18 rfl hC hst (fun v P2 h => by obtain ⟨h1, rfl⟩ := h; cases h1; exact k) (fun q P2 h => by cases h.1)
theorem sJ1_charAt_3b067_3_r {a0 : Int32} {a1 : Int32} {Rp : xH → Prop} (hst : (st.map fun v => v.category).sum ≤ 8) (hC : xC w d mJ0_checkIndex_df160 [.int a0, .int a1] P (xRl none Rp)) (k : ∀ P1, Rp P1 → X w mJ1_charAt_3b067 (d + 1) Q 6 ls st P1) : X w mJ1_charAt_3b067 (d + 1) Q 3 ls (.int a1 :: .int a0 :: st) P := X_callS (M := mJ1_charAt_3b067) (MC := mJ0_checkIndex_df160) (As := [.int a0, .int a1]) (dJ1_charAt_3b067_3) calJ0_checkIndex_df160 xw_17 xw_18 rfl hC hst (fun v P2 h => by obtain ⟨h1, hR⟩ := h; cases h1; exact k P2 hR) (fun q P2 h => by cases h.1)
theorem sJ1_charAt_3b067_3_t {a0 : Int32} {a1 : Int32} {q : Nat} {P1 : xH} (hst : (st.map fun v => v.category).sum ≤ 8) (hC : xC w d mJ0_checkIndex_df160 [.int a0, .int a1] P (xThr q P1)) (hq : Q (.threw q) P1) : X w mJ1_charAt_3b067 (d + 1) Q 3 ls (.int a1 :: .int a0 :: st) P := X_callS (M := mJ1_charAt_3b067) (MC := mJ0_checkIndex_df160) (As := [.int a0, .int a1]) (dJ1_charAt_3b067_3) calJ0_checkIndex_df160 xw_17 xw_18 rfl hC hst (fun v P2 h => by cases h.1) (fun q2 P2 h => by obtain ⟨h1, rfl⟩ := h; cases h1; exact Xt_out rfl hq)
theorem dJ1_charAt_3b067_6 : decode cJ1_charAt_3b067 6 = .ok (.aload_n 0, 1) := by decide +kernel
theorem sJ1_charAt_3b067_6 {l1 : Option Value} {x : Nat} (k : X w mJ1_charAt_3b067 d Q 7 [some (.ref x), l1] (.ref x :: st) P) : X w mJ1_charAt_3b067 d Q 6 [some (.ref x), l1] st P := X_aload_n (M := mJ1_charAt_3b067) (dJ1_charAt_3b067_6) rfl rfl k
theorem dJ1_charAt_3b067_7 : decode cJ1_charAt_3b067 7 = .ok (.iload_n 1, 1) := by decide +kernel
theorem sJ1_charAt_3b067_7 {l0 : Option Value} {x : Int32} (k : X w mJ1_charAt_3b067 d Q 8 [l0, some (.int x)] (.int x :: st) P) : X w mJ1_charAt_3b067 d Q 7 [l0, some (.int x)] st P := X_iload_n (M := mJ1_charAt_3b067) (dJ1_charAt_3b067_7) rfl rfl k
theorem dJ1_charAt_3b067_8 : decode cJ1_charAt_3b067 8 = .ok (.baload, 1) := by decide +kernel
theorem sJ1_charAt_3b067_8 {i : Nat} {j : Int32} (hi : i < 26) (hj : vp_in j (xSl.getD i 0)) (k : X w mJ1_charAt_3b067 d Q 9 ls (.int ((xSb.getD i []).getD j.toNatClampNeg 0) :: st) P) : X w mJ1_charAt_3b067 d Q 8 ls (.int j :: .ref (w.ad (40 + i)) :: st) P := X_bald (M := mJ1_charAt_3b067) (dJ1_charAt_3b067_8) hi hj k
theorem dJ1_charAt_3b067_9 : decode cJ1_charAt_3b067 9 = .ok (.sipush 255, 3) := by decide +kernel
theorem sJ1_charAt_3b067_9 (k : X w mJ1_charAt_3b067 d Q 12 ls (.int (255 : Int32) :: st) P) : X w mJ1_charAt_3b067 d Q 9 ls st P := X_sipush (M := mJ1_charAt_3b067) (dJ1_charAt_3b067_9) (by decide) k
theorem dJ1_charAt_3b067_12 : decode cJ1_charAt_3b067 12 = .ok (.iand, 1) := by decide +kernel
theorem sJ1_charAt_3b067_12 {x y : Int32} (k : X w mJ1_charAt_3b067 d Q 13 ls (.int (x &&& y) :: st) P) : X w mJ1_charAt_3b067 d Q 12 ls (.int y :: .int x :: st) P := X_iand (M := mJ1_charAt_3b067) (dJ1_charAt_3b067_12) k
theorem dJ1_charAt_3b067_13 : decode cJ1_charAt_3b067 13 = .ok (.i2c, 1) := by decide +kernel
theorem sJ1_charAt_3b067_13 {x : Int32} (k : X w mJ1_charAt_3b067 d Q 14 ls (.int (x.toUInt32 % 65536).toInt32 :: st) P) : X w mJ1_charAt_3b067 d Q 13 ls (.int x :: st) P := X_i2c (M := mJ1_charAt_3b067) (dJ1_charAt_3b067_13) k
theorem dJ1_charAt_3b067_14 : decode cJ1_charAt_3b067 14 = .ok (.ireturn, 1) := by decide +kernel
theorem sJ1_charAt_3b067_14 {v : Int32} (hn : narrow .char (.int v) = .int v) (hq : Q (.returned (some (.int v))) P) : X w mJ1_charAt_3b067 d Q 14 ls [.int v] P := X_zret (M := mJ1_charAt_3b067) (ty := .char) (dJ1_charAt_3b067_14) rfl hn hq
theorem dJ3_checkIndex_8e157_0 : decode cJ3_checkIndex_8e157 0 = .ok (.iload_n 0, 1) := by decide +kernel
theorem sJ3_checkIndex_8e157_0 {l1 l2 : Option Value} {x : Int32} (k : X w mJ3_checkIndex_8e157 d Q 1 [some (.int x), l1, l2] (.int x :: st) P) : X w mJ3_checkIndex_8e157 d Q 0 [some (.int x), l1, l2] st P := X_iload_n (M := mJ3_checkIndex_8e157) (dJ3_checkIndex_8e157_0) rfl rfl k
theorem dJ3_checkIndex_8e157_1 : decode cJ3_checkIndex_8e157 1 = .ok (.ifCond .lt 8, 3) := by decide +kernel
theorem sJ3_checkIndex_8e157_1 {x : Int32} (kt : x < 0 → X w mJ3_checkIndex_8e157 d Q 9 ls st P) (kf : ¬ x < 0 → X w mJ3_checkIndex_8e157 d Q 4 ls st P) : X w mJ3_checkIndex_8e157 d Q 1 ls (.int x :: st) P := X_if_lt (M := mJ3_checkIndex_8e157) (dJ3_checkIndex_8e157_1) (by decide) kt kf
theorem dJ3_checkIndex_8e157_4 : decode cJ3_checkIndex_8e157 4 = .ok (.iload_n 0, 1) := by decide +kernel
theorem sJ3_checkIndex_8e157_4 {l1 l2 : Option Value} {x : Int32} (k : X w mJ3_checkIndex_8e157 d Q 5 [some (.int x), l1, l2] (.int x :: st) P) : X w mJ3_checkIndex_8e157 d Q 4 [some (.int x), l1, l2] st P := X_iload_n (M := mJ3_checkIndex_8e157) (dJ3_checkIndex_8e157_4) rfl rfl k
theorem dJ3_checkIndex_8e157_5 : decode cJ3_checkIndex_8e157 5 = .ok (.iload_n 1, 1) := by decide +kernel
theorem sJ3_checkIndex_8e157_5 {l0 l2 : Option Value} {x : Int32} (k : X w mJ3_checkIndex_8e157 d Q 6 [l0, some (.int x), l2] (.int x :: st) P) : X w mJ3_checkIndex_8e157 d Q 5 [l0, some (.int x), l2] st P := X_iload_n (M := mJ3_checkIndex_8e157) (dJ3_checkIndex_8e157_5) rfl rfl k
theorem dJ3_checkIndex_8e157_6 : decode cJ3_checkIndex_8e157 6 = .ok (.if_icmp .lt 10, 3) := by decide +kernel
theorem sJ3_checkIndex_8e157_6 {x y : Int32} (kt : x < y → X w mJ3_checkIndex_8e157 d Q 16 ls st P) (kf : ¬ x < y → X w mJ3_checkIndex_8e157 d Q 9 ls st P) : X w mJ3_checkIndex_8e157 d Q 6 ls (.int y :: .int x :: st) P := X_icmp_lt (M := mJ3_checkIndex_8e157) (dJ3_checkIndex_8e157_6) (by decide) kt kf
theorem dJ3_checkIndex_8e157_9 : decode cJ3_checkIndex_8e157 9 = .ok (.aload_n 2, 1) := by decide +kernel
theorem sJ3_checkIndex_8e157_9 {l0 l1 : Option Value} {x : Nat} (k : X w mJ3_checkIndex_8e157 d Q 10 [l0, l1, some (.ref x)] (.ref x :: st) P) : X w mJ3_checkIndex_8e157 d Q 9 [l0, l1, some (.ref x)] st P := X_aload_n (M := mJ3_checkIndex_8e157) (dJ3_checkIndex_8e157_9) rfl rfl k
theorem dJ3_checkIndex_8e157_10 : decode cJ3_checkIndex_8e157 10 = .ok (.iload_n 0, 1) := by decide +kernel
theorem sJ3_checkIndex_8e157_10 {l1 l2 : Option Value} {x : Int32} (k : X w mJ3_checkIndex_8e157 d Q 11 [some (.int x), l1, l2] (.int x :: st) P) : X w mJ3_checkIndex_8e157 d Q 10 [some (.int x), l1, l2] st P := X_iload_n (M := mJ3_checkIndex_8e157) (dJ3_checkIndex_8e157_10) rfl rfl k
theorem dJ3_checkIndex_8e157_11 : decode cJ3_checkIndex_8e157 11 = .ok (.iload_n 1, 1) := by decide +kernel
theorem sJ3_checkIndex_8e157_11 {l0 l2 : Option Value} {x : Int32} (k : X w mJ3_checkIndex_8e157 d Q 12 [l0, some (.int x), l2] (.int x :: st) P) : X w mJ3_checkIndex_8e157 d Q 11 [l0, some (.int x), l2] st P := X_iload_n (M := mJ3_checkIndex_8e157) (dJ3_checkIndex_8e157_11) rfl rfl k
theorem dJ3_checkIndex_8e157_12 : decode cJ3_checkIndex_8e157 12 = .ok (.invokestatic 95, 3) := by decide +kernel
-- call jdk/internal/util/Preconditions 95
theorem dJ3_checkIndex_8e157_15 : decode cJ3_checkIndex_8e157 15 = .ok (.athrow, 1) := by decide +kernel
theorem dJ3_checkIndex_8e157_16 : decode cJ3_checkIndex_8e157 16 = .ok (.iload_n 0, 1) := by decide +kernel
theorem sJ3_checkIndex_8e157_16 {l1 l2 : Option Value} {x : Int32} (k : X w mJ3_checkIndex_8e157 d Q 17 [some (.int x), l1, l2] (.int x :: st) P) : X w mJ3_checkIndex_8e157 d Q 16 [some (.int x), l1, l2] st P := X_iload_n (M := mJ3_checkIndex_8e157) (dJ3_checkIndex_8e157_16) rfl rfl k
theorem dJ3_checkIndex_8e157_17 : decode cJ3_checkIndex_8e157 17 = .ok (.ireturn, 1) := by decide +kernel
theorem sJ3_checkIndex_8e157_17 {v : Int32} (hq : Q (.returned (some (.int v))) P) : X w mJ3_checkIndex_8e157 d Q 17 ls [.int v] P := X_iret (M := mJ3_checkIndex_8e157) (dJ3_checkIndex_8e157_17) rfl hq
end
