section XRules
variable {w : xWd} {M : xM} {d : Nat} {Q : Outcome → xH → Prop} {pc : Nat} {ls : List (Option Value)} {st : List Value} {P : xH}
theorem X_iconst {n : Int} {v : Int32} (hd : decode M.2.1 pc = .ok (.iconst n, 1)) (hv : Int32.ofInt n = v) (k : X w M d Q (pc + 1) ls (.int v :: st) P) : X w M d Q pc ls st P := X_go (fun hx hb K => lv_iconst hx hb hd hv K) k
theorem X_bipush {n : Int} {v : Int32} (hd : decode M.2.1 pc = .ok (.bipush n, 2)) (hv : (Int8.ofInt n).toInt32 = v) (k : X w M d Q (pc + 2) ls (.int v :: st) P) : X w M d Q pc ls st P := X_go (fun hx hb K => lv_bipush hx hb hd hv K) k
theorem X_sipush {n : Int} {v : Int32} (hd : decode M.2.1 pc = .ok (.sipush n, 3)) (hv : (Int16.ofInt n).toInt32 = v) (k : X w M d Q (pc + 3) ls (.int v :: st) P) : X w M d Q pc ls st P := X_go (fun hx hb K => lv_sipush hx hb hd hv K) k
theorem X_lconst {n : Fin 2} {v : Int64} (hd : decode M.2.1 pc = .ok (.lconst n, 1)) (hv : Int64.ofNat (n : Nat) = v) (k : X w M d Q (pc + 1) ls (.long v :: st) P) : X w M d Q pc ls st P := X_go (fun hx hb K => lv_lconst hx hb hd hv K) k
theorem X_iadd {x y : Int32} (hd : decode M.2.1 pc = .ok (.iadd, 1)) (k : X w M d Q (pc + 1) ls (.int (x + y) :: st) P) : X w M d Q pc ls (.int y :: .int x :: st) P := X_go (fun hx hb K => lv_iadd hx hb hd K) k
theorem X_isub {x y : Int32} (hd : decode M.2.1 pc = .ok (.isub, 1)) (k : X w M d Q (pc + 1) ls (.int (x - y) :: st) P) : X w M d Q pc ls (.int y :: .int x :: st) P := X_go (fun hx hb K => lv_isub hx hb hd K) k
theorem X_imul {x y : Int32} (hd : decode M.2.1 pc = .ok (.imul, 1)) (k : X w M d Q (pc + 1) ls (.int (x * y) :: st) P) : X w M d Q pc ls (.int y :: .int x :: st) P := X_go (fun hx hb K => lv_imul hx hb hd K) k
theorem X_iand {x y : Int32} (hd : decode M.2.1 pc = .ok (.iand, 1)) (k : X w M d Q (pc + 1) ls (.int (x &&& y) :: st) P) : X w M d Q pc ls (.int y :: .int x :: st) P := X_go (fun hx hb K => lv_iand hx hb hd K) k
theorem X_ior {x y : Int32} (hd : decode M.2.1 pc = .ok (.ior, 1)) (k : X w M d Q (pc + 1) ls (.int (x ||| y) :: st) P) : X w M d Q pc ls (.int y :: .int x :: st) P := X_go (fun hx hb K => lv_ior hx hb hd K) k
theorem X_irem {x y : Int32} (hd : decode M.2.1 pc = .ok (.irem, 1)) (hne : ¬ y = 0) (k : X w M d Q (pc + 1) ls (.int (x - x / y * y) :: st) P) : X w M d Q pc ls (.int y :: .int x :: st) P := X_go (fun hx hb K => lv_irem hx hb hd hne K) k
theorem X_ishl {x y : Int32} (hd : decode M.2.1 pc = .ok (.ishl, 1)) (k : X w M d Q (pc + 1) ls (.int (x <<< (y &&& 31)) :: st) P) : X w M d Q pc ls (.int y :: .int x :: st) P := X_go (fun hx hb K => lv_ishl hx hb hd K) k
theorem X_ishr {x y : Int32} (hd : decode M.2.1 pc = .ok (.ishr, 1)) (k : X w M d Q (pc + 1) ls (.int (x >>> (y &&& 31)) :: st) P) : X w M d Q pc ls (.int y :: .int x :: st) P := X_go (fun hx hb K => lv_ishr hx hb hd K) k
theorem X_iushr {x y : Int32} (hd : decode M.2.1 pc = .ok (.iushr, 1)) (k : X w M d Q (pc + 1) ls (.int (x.toUInt32 >>> (y.toUInt32 &&& Int32.toUInt32 31)).toInt32 :: st) P) : X w M d Q pc ls (.int y :: .int x :: st) P := X_go (fun hx hb K => lv_iushr hx hb hd rfl K) k
theorem X_ladd {x y : Int64} (hd : decode M.2.1 pc = .ok (.ladd, 1)) (k : X w M d Q (pc + 1) ls (.long (x + y) :: st) P) : X w M d Q pc ls (.long y :: .long x :: st) P := X_go (fun hx hb K => lv_ladd hx hb hd K) k
theorem X_lsub {x y : Int64} (hd : decode M.2.1 pc = .ok (.lsub, 1)) (k : X w M d Q (pc + 1) ls (.long (x - y) :: st) P) : X w M d Q pc ls (.long y :: .long x :: st) P := X_go (fun hx hb K => lv_lsub hx hb hd K) k
theorem X_lmul {x y : Int64} (hd : decode M.2.1 pc = .ok (.lmul, 1)) (k : X w M d Q (pc + 1) ls (.long (x * y) :: st) P) : X w M d Q pc ls (.long y :: .long x :: st) P := X_go (fun hx hb K => lv_lmul hx hb hd K) k
theorem X_ldiv {x y : Int64} (hd : decode M.2.1 pc = .ok (.ldiv, 1)) (hne : ¬ y = 0) (k : X w M d Q (pc + 1) ls (.long (x / y) :: st) P) : X w M d Q pc ls (.long y :: .long x :: st) P := X_go (fun hx hb K => lv_ldiv hx hb hd hne K) k
theorem X_land {x y : Int64} (hd : decode M.2.1 pc = .ok (.land, 1)) (k : X w M d Q (pc + 1) ls (.long (x &&& y) :: st) P) : X w M d Q pc ls (.long y :: .long x :: st) P := X_go (fun hx hb K => lv_land hx hb hd K) k
theorem X_lor {x y : Int64} (hd : decode M.2.1 pc = .ok (.lor, 1)) (k : X w M d Q (pc + 1) ls (.long (x ||| y) :: st) P) : X w M d Q pc ls (.long y :: .long x :: st) P := X_go (fun hx hb K => lv_lor hx hb hd K) k
theorem X_lxor {x y : Int64} (hd : decode M.2.1 pc = .ok (.lxor, 1)) (k : X w M d Q (pc + 1) ls (.long (x ^^^ y) :: st) P) : X w M d Q pc ls (.long y :: .long x :: st) P := X_go (fun hx hb K => lv_lxor hx hb hd K) k
theorem X_lshl {x : Int64} {y : Int32} (hd : decode M.2.1 pc = .ok (.lshl, 1)) (k : X w M d Q (pc + 1) ls (.long (x <<< (y.toInt64 &&& 63)) :: st) P) : X w M d Q pc ls (.int y :: .long x :: st) P := X_go (fun hx hb K => lv_lshl hx hb hd rfl K) k
theorem X_lshr {x : Int64} {y : Int32} (hd : decode M.2.1 pc = .ok (.lshr, 1)) (k : X w M d Q (pc + 1) ls (.long (x >>> (y.toInt64 &&& 63)) :: st) P) : X w M d Q pc ls (.int y :: .long x :: st) P := X_go (fun hx hb K => lv_lshr hx hb hd rfl K) k
theorem X_lushr {x : Int64} {y : Int32} (hd : decode M.2.1 pc = .ok (.lushr, 1)) (k : X w M d Q (pc + 1) ls (.long (x.toUInt64 >>> (y.toInt64.toUInt64 &&& Int64.toUInt64 63)).toInt64 :: st) P) : X w M d Q pc ls (.int y :: .long x :: st) P := X_go (fun hx hb K => lv_lushr hx hb hd rfl K) k
theorem X_i2l {x : Int32} (hd : decode M.2.1 pc = .ok (.i2l, 1)) (k : X w M d Q (pc + 1) ls (.long x.toInt64 :: st) P) : X w M d Q pc ls (.int x :: st) P := X_go (fun hx hb K => lv_i2l hx hb hd rfl K) k
theorem X_l2i {x : Int64} (hd : decode M.2.1 pc = .ok (.l2i, 1)) (k : X w M d Q (pc + 1) ls (.int x.toInt32 :: st) P) : X w M d Q pc ls (.long x :: st) P := X_go (fun hx hb K => lv_l2i hx hb hd rfl K) k
theorem X_i2c {x : Int32} (hd : decode M.2.1 pc = .ok (.i2c, 1)) (k : X w M d Q (pc + 1) ls (.int (x.toUInt32 % 65536).toInt32 :: st) P) : X w M d Q pc ls (.int x :: st) P := X_go (fun hx hb K => lv_i2c hx hb hd rfl K) k
theorem X_lcmp {x y : Int64} (hd : decode M.2.1 pc = .ok (.lcmp, 1)) (k : X w M d Q (pc + 1) ls (.int (lg_cmp x y) :: st) P) : X w M d Q pc ls (.long y :: .long x :: st) P := X_go (fun hx hb K => W.lcmp hx hb hd K) k
theorem X_dup {v : Value} (hd : decode M.2.1 pc = .ok (.dup, 1)) (hv : v.category = 1) (k : X w M d Q (pc + 1) ls (v :: v :: st) P) : X w M d Q pc ls (v :: st) P := X_go (fun hx hb K => lv_dup hx hb hd hv K) k
theorem X_dup2 {u v : Value} (hd : decode M.2.1 pc = .ok (.dup2, 1)) (hu : u.category = 1) (hv : v.category = 1) (k : X w M d Q (pc + 1) ls (u :: v :: u :: v :: st) P) : X w M d Q pc ls (u :: v :: st) P := X_go (fun hx hb K => lv_dup2_11 hx hb hd hu hv K) k
theorem X_goto {off : Int} {tgt : Nat} (hd : decode M.2.1 pc = .ok (.goto off, 3)) (ht : (pc : Int) + off = (tgt : Int)) (k : X w M d Q tgt ls st P) : X w M d Q pc ls st P := X_go (fun hx hb K => lv_goto hx hb hd ht K) k
theorem X_if_eq {x : Int32} {off : Int} {tgt : Nat} (hd : decode M.2.1 pc = .ok (.ifCond .eq off, 3)) (ht : (pc : Int) + off = (tgt : Int)) (kt : x = 0 → X w M d Q tgt ls st P) (kf : ¬ x = 0 → X w M d Q (pc + 3) ls st P) : X w M d Q pc ls (.int x :: st) P := X_br (fun hx hb a b => lv_if_eq hx hb hd ht a b) kt kf
theorem X_if_ne {x : Int32} {off : Int} {tgt : Nat} (hd : decode M.2.1 pc = .ok (.ifCond .ne off, 3)) (ht : (pc : Int) + off = (tgt : Int)) (kt : ¬ x = 0 → X w M d Q tgt ls st P) (kf : x = 0 → X w M d Q (pc + 3) ls st P) : X w M d Q pc ls (.int x :: st) P := X_br (B := ¬ x = 0) (fun hx hb a b => lv_if_ne hx hb hd ht a (fun z => b (fun q => q z))) kt (fun h => kf (Classical.not_not.mp h))
theorem X_if_lt {x : Int32} {off : Int} {tgt : Nat} (hd : decode M.2.1 pc = .ok (.ifCond .lt off, 3)) (ht : (pc : Int) + off = (tgt : Int)) (kt : x < 0 → X w M d Q tgt ls st P) (kf : ¬ x < 0 → X w M d Q (pc + 3) ls st P) : X w M d Q pc ls (.int x :: st) P := X_br (fun hx hb a b => lv_if_lt hx hb hd ht a b) kt kf
theorem X_if_ge {x : Int32} {off : Int} {tgt : Nat} (hd : decode M.2.1 pc = .ok (.ifCond .ge off, 3)) (ht : (pc : Int) + off = (tgt : Int)) (kt : 0 ≤ x → X w M d Q tgt ls st P) (kf : ¬ 0 ≤ x → X w M d Q (pc + 3) ls st P) : X w M d Q pc ls (.int x :: st) P := X_br (fun hx hb a b => lv_if_ge hx hb hd ht a b) kt kf
theorem X_if_gt {x : Int32} {off : Int} {tgt : Nat} (hd : decode M.2.1 pc = .ok (.ifCond .gt off, 3)) (ht : (pc : Int) + off = (tgt : Int)) (kt : 0 < x → X w M d Q tgt ls st P) (kf : ¬ 0 < x → X w M d Q (pc + 3) ls st P) : X w M d Q pc ls (.int x :: st) P := X_br (fun hx hb a b => lv_if_gt hx hb hd ht a b) kt kf
theorem X_if_le {x : Int32} {off : Int} {tgt : Nat} (hd : decode M.2.1 pc = .ok (.ifCond .le off, 3)) (ht : (pc : Int) + off = (tgt : Int)) (kt : x ≤ 0 → X w M d Q tgt ls st P) (kf : ¬ x ≤ 0 → X w M d Q (pc + 3) ls st P) : X w M d Q pc ls (.int x :: st) P := X_br (fun hx hb a b => lv_if_le hx hb hd ht a b) kt kf
theorem X_icmp_eq {x y : Int32} {off : Int} {tgt : Nat} (hd : decode M.2.1 pc = .ok (.if_icmp .eq off, 3)) (ht : (pc : Int) + off = (tgt : Int)) (kt : x = y → X w M d Q tgt ls st P) (kf : ¬ x = y → X w M d Q (pc + 3) ls st P) : X w M d Q pc ls (.int y :: .int x :: st) P := X_br (fun hx hb a b => lv_icmp_eq hx hb hd ht a b) kt kf
theorem X_icmp_ne {x y : Int32} {off : Int} {tgt : Nat} (hd : decode M.2.1 pc = .ok (.if_icmp .ne off, 3)) (ht : (pc : Int) + off = (tgt : Int)) (kt : ¬ x = y → X w M d Q tgt ls st P) (kf : x = y → X w M d Q (pc + 3) ls st P) : X w M d Q pc ls (.int y :: .int x :: st) P := X_br (B := ¬ x = y) (fun hx hb a b => lv_icmp_ne hx hb hd ht a (fun z => b (fun q => q z))) kt (fun h => kf (Classical.not_not.mp h))
theorem X_icmp_lt {x y : Int32} {off : Int} {tgt : Nat} (hd : decode M.2.1 pc = .ok (.if_icmp .lt off, 3)) (ht : (pc : Int) + off = (tgt : Int)) (kt : x < y → X w M d Q tgt ls st P) (kf : ¬ x < y → X w M d Q (pc + 3) ls st P) : X w M d Q pc ls (.int y :: .int x :: st) P := X_br (fun hx hb a b => lv_icmp_lt hx hb hd ht a b) kt kf
theorem X_icmp_ge {x y : Int32} {off : Int} {tgt : Nat} (hd : decode M.2.1 pc = .ok (.if_icmp .ge off, 3)) (ht : (pc : Int) + off = (tgt : Int)) (kt : y ≤ x → X w M d Q tgt ls st P) (kf : ¬ y ≤ x → X w M d Q (pc + 3) ls st P) : X w M d Q pc ls (.int y :: .int x :: st) P := X_br (fun hx hb a b => lv_icmp_ge hx hb hd ht a b) kt kf
theorem X_icmp_gt {x y : Int32} {off : Int} {tgt : Nat} (hd : decode M.2.1 pc = .ok (.if_icmp .gt off, 3)) (ht : (pc : Int) + off = (tgt : Int)) (kt : y < x → X w M d Q tgt ls st P) (kf : ¬ y < x → X w M d Q (pc + 3) ls st P) : X w M d Q pc ls (.int y :: .int x :: st) P := X_br (fun hx hb a b => lv_icmp_gt hx hb hd ht a b) kt kf
theorem X_icmp_le {x y : Int32} {off : Int} {tgt : Nat} (hd : decode M.2.1 pc = .ok (.if_icmp .le off, 3)) (ht : (pc : Int) + off = (tgt : Int)) (kt : x ≤ y → X w M d Q tgt ls st P) (kf : ¬ x ≤ y → X w M d Q (pc + 3) ls st P) : X w M d Q pc ls (.int y :: .int x :: st) P := X_br (fun hx hb a b => lv_icmp_le hx hb hd ht a b) kt kf
theorem X_tableIn {dflt lo hi : Int} {offs : Array Int} {len : Nat} {x : Int32} {off : Int} {tgt : Nat} (hd : decode M.2.1 pc = .ok (.tableswitch dflt lo hi offs, len)) (h1 : ¬ x.toInt < lo) (h2 : ¬ hi < x.toInt) (ho : offs[(x.toInt - lo).toNat]? = some off) (ht : (pc : Int) + off = (tgt : Int)) (k : X w M d Q tgt ls st P) : X w M d Q pc ls (.int x :: st) P := X_go (fun hx hb K => lv_tableIn hx hb hd h1 h2 ho ht K) k
theorem X_tableOut {dflt lo hi : Int} {offs : Array Int} {len : Nat} {x : Int32} {tgt : Nat} (hd : decode M.2.1 pc = .ok (.tableswitch dflt lo hi offs, len)) (h : x.toInt < lo ∨ hi < x.toInt) (ht : (pc : Int) + dflt = (tgt : Int)) (k : X w M d Q tgt ls st P) : X w M d Q pc ls (.int x :: st) P := X_go (fun hx hb K => lv_tableOut hx hb hd h ht K) k
/-- locals -/
theorem X_iload_n {i : Fin 4} {j : Nat} {x : Int32} (hd : decode M.2.1 pc = .ok (.iload_n i, 1)) (hi : (i : Nat) = j) (hl : ls[j]? = some (some (.int x))) (k : X w M d Q (pc + 1) ls (.int x :: st) P) : X w M d Q pc ls st P := by
  intro ok p e R s m args below meth c P0 H locs lsA F h1 h2 hH hL hls
  exact lv_iload_n F.1 F.2.1 hd hi (hls.get hl) (k ok p e R s m args below meth c P0 H locs lsA F h1 h2 hH hL hls)
theorem X_iload {j : Nat} {x : Int32} (hd : decode M.2.1 pc = .ok (.iload j, 2)) (hl : ls[j]? = some (some (.int x))) (k : X w M d Q (pc + 2) ls (.int x :: st) P) : X w M d Q pc ls st P := by
  intro ok p e R s m args below meth c P0 H locs lsA F h1 h2 hH hL hls
  exact lv_iload F.1 F.2.1 hd (hls.get hl) (k ok p e R s m args below meth c P0 H locs lsA F h1 h2 hH hL hls)
theorem X_lload_n {i : Fin 4} {j : Nat} {x : Int64} (hd : decode M.2.1 pc = .ok (.lload_n i, 1)) (hi : (i : Nat) = j) (hl : ls[j]? = some (some (.long x))) (k : X w M d Q (pc + 1) ls (.long x :: st) P) : X w M d Q pc ls st P := by
  intro ok p e R s m args below meth c P0 H locs lsA F h1 h2 hH hL hls
  exact lv_lload_n F.1 F.2.1 hd hi (hls.get hl) (k ok p e R s m args below meth c P0 H locs lsA F h1 h2 hH hL hls)
theorem X_lload {j : Nat} {x : Int64} (hd : decode M.2.1 pc = .ok (.lload j, 2)) (hl : ls[j]? = some (some (.long x))) (k : X w M d Q (pc + 2) ls (.long x :: st) P) : X w M d Q pc ls st P := by
  intro ok p e R s m args below meth c P0 H locs lsA F h1 h2 hH hL hls
  exact lv_lload F.1 F.2.1 hd (hls.get hl) (k ok p e R s m args below meth c P0 H locs lsA F h1 h2 hH hL hls)
theorem X_aload_n {i : Fin 4} {j : Nat} {x : Nat} (hd : decode M.2.1 pc = .ok (.aload_n i, 1)) (hi : (i : Nat) = j) (hl : ls[j]? = some (some (.ref x))) (k : X w M d Q (pc + 1) ls (.ref x :: st) P) : X w M d Q pc ls st P := by
  intro ok p e R s m args below meth c P0 H locs lsA F h1 h2 hH hL hls
  exact lv_aload_n F.1 F.2.1 hd hi (hls.get hl) (k ok p e R s m args below meth c P0 H locs lsA F h1 h2 hH hL hls)
theorem X_aload {j : Nat} {x : Nat} (hd : decode M.2.1 pc = .ok (.aload j, 2)) (hl : ls[j]? = some (some (.ref x))) (k : X w M d Q (pc + 2) ls (.ref x :: st) P) : X w M d Q pc ls st P := by
  intro ok p e R s m args below meth c P0 H locs lsA F h1 h2 hH hL hls
  exact lv_aload F.1 F.2.1 hd (hls.get hl) (k ok p e R s m args below meth c P0 H locs lsA F h1 h2 hH hL hls)
theorem X_istore_n {i : Fin 4} {j : Nat} {x : Int32} {ls' : List (Option Value)} (hd : decode M.2.1 pc = .ok (.istore_n i, 1)) (hi : (i : Nat) = j) (hn : j < M.2.2.1) (hs : ls.set j (some (.int x)) = ls') (hc : ∀ q, q + 1 = j → xnlp ls q) (k : X w M d Q (pc + 1) ls' st P) : X w M d Q pc ls (.int x :: st) P := by
  intro ok p e R s m args below meth c P0 H locs lsA F h1 h2 hH hL hls
  exact lv_istore_n F.1 F.2.1 hd hi hls.has hn rfl (fun lsB hB => k ok p e R s m args below meth c P0 H locs lsB F h1 h2 hH hL (hs ▸ xLs.st1 (lsA := lsA) hB hc))
theorem X_istore {j : Nat} {x : Int32} {ls' : List (Option Value)} (hd : decode M.2.1 pc = .ok (.istore j, 2)) (hn : j < M.2.2.1) (hs : ls.set j (some (.int x)) = ls') (hc : ∀ q, q + 1 = j → xnlp ls q) (k : X w M d Q (pc + 2) ls' st P) : X w M d Q pc ls (.int x :: st) P := by
  intro ok p e R s m args below meth c P0 H locs lsA F h1 h2 hH hL hls
  exact lv_istore F.1 F.2.1 hd hls.has hn rfl (fun lsB hB => k ok p e R s m args below meth c P0 H locs lsB F h1 h2 hH hL (hs ▸ xLs.st1 (lsA := lsA) hB hc))
theorem X_astore_n {i : Fin 4} {j : Nat} {x : Nat} {ls' : List (Option Value)} (hd : decode M.2.1 pc = .ok (.astore_n i, 1)) (hi : (i : Nat) = j) (hn : j < M.2.2.1) (hs : ls.set j (some (.ref x)) = ls') (hc : ∀ q, q + 1 = j → xnlp ls q) (k : X w M d Q (pc + 1) ls' st P) : X w M d Q pc ls (.ref x :: st) P := by
  intro ok p e R s m args below meth c P0 H locs lsA F h1 h2 hH hL hls
  exact lv_astore_n F.1 F.2.1 hd hi hls.has hn rfl (fun lsB hB => k ok p e R s m args below meth c P0 H locs lsB F h1 h2 hH hL (hs ▸ xLs.st1 (lsA := lsA) hB hc))
theorem X_astore {j : Nat} {x : Nat} {ls' : List (Option Value)} (hd : decode M.2.1 pc = .ok (.astore j, 2)) (hn : j < M.2.2.1) (hs : ls.set j (some (.ref x)) = ls') (hc : ∀ q, q + 1 = j → xnlp ls q) (k : X w M d Q (pc + 2) ls' st P) : X w M d Q pc ls (.ref x :: st) P := by
  intro ok p e R s m args below meth c P0 H locs lsA F h1 h2 hH hL hls
  exact lv_astore F.1 F.2.1 hd hls.has hn rfl (fun lsB hB => k ok p e R s m args below meth c P0 H locs lsB F h1 h2 hH hL (hs ▸ xLs.st1 (lsA := lsA) hB hc))
theorem xLs.st2 {lsA lsB : Array Slot} {nL i : Nat} {v : Value} (hb : lv_has lsB nL ((i, v) :: (xl ls 0).filter (fun q => !(q.1 == i) && (!(q.1 == i + 1) && !(q.1 + 1 == i && q.2.category == 2))))) (hn : ∀ j, j + 1 = i → xnlp ls j) : xLs lsB nL ((ls.set i (some v)).set (i + 1) none) := by
  refine ⟨hb.1, hb.2.1, fun k u hk => ?_⟩
  have hk1 : k ≠ i + 1 := by
    rintro rfl
    by_cases hl : i + 1 < (ls.set i (some v)).length
    · rw [List.getElem?_set_self hl] at hk; cases hk
    · rw [List.getElem?_eq_none (by simpa using hl)] at hk; cases hk
  rw [List.getElem?_set_ne (fun h => hk1 h.symm)] at hk
  by_cases hki : k = i
  · subst hki
    have hlen : k < ls.length := by
      rcases Nat.lt_or_ge k ls.length with h | h
      · exact h
      · rw [List.getElem?_eq_none (by simpa using h)] at hk; cases hk
    rw [List.getElem?_set_self hlen] at hk
    cases hk
    exact hb.2.2 (k, v) List.mem_cons_self
  · rw [List.getElem?_set_ne (fun h => hki h.symm)] at hk
    refine hb.2.2 (k, u) (List.mem_cons_of_mem _ (List.mem_filter.mpr ⟨(xl_in ls 0 k u).mpr ⟨k, by omega, hk⟩, ?_⟩))
    have h1 : (k == i) = false := by simpa using hki
    have h2 : (k == i + 1) = false := by simpa using hk1
    simp only [h1, h2, Bool.not_false, Bool.true_and, Bool.not_eq_true', Bool.and_eq_false_iff, beq_eq_false_iff_ne, ne_eq]
    by_cases hk3 : k + 1 = i
    · right
      have := hn k hk3 u hk
      omega
    · left; exact hk3
theorem X_lstore_n {i : Fin 4} {j : Nat} {x : Int64} {ls' : List (Option Value)} (hd : decode M.2.1 pc = .ok (.lstore_n i, 1)) (hi : (i : Nat) = j) (hn : j + 1 < M.2.2.1) (hs : (ls.set j (some (.long x))).set (j + 1) none = ls') (hc : ∀ q, q + 1 = j → xnlp ls q) (k : X w M d Q (pc + 1) ls' st P) : X w M d Q pc ls (.long x :: st) P := by
  intro ok p e R s m args below meth c P0 H locs lsA F h1 h2 hH hL hls
  exact lv_lstore_n F.1 F.2.1 hd hi hls.has hn rfl (fun lsB hB => k ok p e R s m args below meth c P0 H locs lsB F h1 h2 hH hL (hs ▸ xLs.st2 (lsA := lsA) hB hc))
theorem X_lstore {j : Nat} {x : Int64} {ls' : List (Option Value)} (hd : decode M.2.1 pc = .ok (.lstore j, 2)) (hn : j + 1 < M.2.2.1) (hs : (ls.set j (some (.long x))).set (j + 1) none = ls') (hc : ∀ q, q + 1 = j → xnlp ls q) (k : X w M d Q (pc + 2) ls' st P) : X w M d Q pc ls (.long x :: st) P := by
  intro ok p e R s m args below meth c P0 H locs lsA F h1 h2 hH hL hls
  exact lv_lstore F.1 F.2.1 hd hls.has hn rfl (fun lsB hB => k ok p e R s m args below meth c P0 H locs lsB F h1 h2 hH hL (hs ▸ xLs.st2 (lsA := lsA) hB hc))
theorem X_iinc {j : Nat} {n : Int} {x v : Int32} {ls' : List (Option Value)} (hd : decode M.2.1 pc = .ok (.iinc j n, 3)) (hl : ls[j]? = some (some (.int x))) (hv : x + Int32.ofInt n = v) (hn : j < M.2.2.1) (hs : ls.set j (some (.int v)) = ls') (hc : ∀ q, q + 1 = j → xnlp ls q) (k : X w M d Q (pc + 3) ls' st P) : X w M d Q pc ls st P := by
  intro ok p e R s m args below meth c P0 H locs lsA F h1 h2 hH hL hls
  obtain ⟨i0, hi0⟩ := List.mem_iff_getElem?.mp ((xl_in ls 0 j (.int x)).mpr ⟨j, by omega, hl⟩)
  exact lv_iinc F.1 F.2.1 hd hls.has hi0 hv hn rfl (fun lsB hB => k ok p e R s m args below meth c P0 H locs lsB F h1 h2 hH hL (hs ▸ xLs.st1 (lsA := lsA) hB hc))
/-- fewer locals are known -/
theorem X_ls {ls' : List (Option Value)} (h : ∀ (i : Nat) (v : Value), ls'[i]? = some (some v) → ls[i]? = some (some v)) (k : X w M d Q pc ls' st P) : X w M d Q pc ls st P := by
  intro ok p e R s m args below meth c P0 H locs lsA F h1 h2 hH hL hls
  exact k ok p e R s m args below meth c P0 H locs lsA F h1 h2 hH hL ⟨hls.1, hls.2.1, fun i v hi => hls.2.2 i v (h i v hi)⟩
/-- words -/
theorem xw {s : State} {args : Array Value} (ok : xOK w) (hW : w.S.WarmedH s.vm) {c : Cond} (hc : c ∈ lw_tbl) (hg : goodWord c = true) : c.before args s = true := word_at hW (good_of_word hg) (ok.1 c hc)
theorem xws {s : State} {args : Array Value} (ok : xOK w) (hW : w.S.WarmedH s.vm) {ws : List Cond} (h : ∀ c ∈ ws, c ∈ lw_tbl ∧ goodWord c = true) : ∀ c ∈ ws, c.before args s = true := fun c hc => xw ok hW (h c hc).1 (h c hc).2
theorem xS {s : State} {H : Heap} {locs : List Loc} (h0 : xOld w s.heap) (hs : s.heap.size ≤ H.size) (hH : xHp w P H) (hL : ∀ q ∈ locs, w.z ≤ q.base) : va_S (fun q => w.z ≤ q) s.heap H locs := ⟨hs, fun q hq hn => by rw [hH.2.2.1 q (Nat.not_le.mp hn), h0.2.1 q (Nat.not_le.mp hn)], hL⟩
theorem X_ldcI {idx : Nat} {v : Int32} (hd : decode M.2.1 pc = .ok (.ldc idx, 2)) (hw : Cond.constant M.1.cls idx v ∈ lw_tbl) (k : X w M d Q (pc + 2) ls (.int v :: st) P) : X w M d Q pc ls st P := by
  intro ok p e R s m args below meth c P0 H locs lsA F h1 h2 hH hL hls
  exact lv_ldc F.1 F.2.1 F.2.2.2.2.2.1 (xw ok F.2.2.2.2.2.2.2.1 hw rfl) hd (k ok p e R s m args below meth c P0 H locs lsA F h1 h2 hH hL hls)
theorem X_ldcwI {idx : Nat} {v : Int32} (hd : decode M.2.1 pc = .ok (.ldc_w idx, 3)) (hw : Cond.constant M.1.cls idx v ∈ lw_tbl) (k : X w M d Q (pc + 3) ls (.int v :: st) P) : X w M d Q pc ls st P := by
  intro ok p e R s m args below meth c P0 H locs lsA F h1 h2 hH hL hls
  exact lv_ldcw F.1 F.2.1 F.2.2.2.2.2.1 (xw ok F.2.2.2.2.2.2.2.1 hw rfl) hd (k ok p e R s m args below meth c P0 H locs lsA F h1 h2 hH hL hls)
theorem X_ldc2 {idx : Nat} {v : Int64} (hd : decode M.2.1 pc = .ok (.ldc2_w idx, 3)) (hw : Cond.constantLong M.1.cls idx v ∈ lw_tbl) (k : X w M d Q (pc + 3) ls (.long v :: st) P) : X w M d Q pc ls st P := by
  intro ok p e R s m args below meth c P0 H locs lsA F h1 h2 hH hL hls
  exact lv_ldc2 F.1 F.2.1 F.2.2.2.2.2.1 (xw ok F.2.2.2.2.2.2.2.1 hw rfl) hd (k ok p e R s m args below meth c P0 H locs lsA F h1 h2 hH hL hls)
end XRules
