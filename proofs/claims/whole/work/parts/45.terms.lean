section Rel
/-- nothing is different outside lo .. hi-1 -/
def same (P P1 : xH) (lo hi : Nat) : Prop := P1.2 = P.2 ∧ ∀ q, ¬ (lo ≤ q ∧ q < hi) → P1.1 q = P.1 q
theorem same.rf {P : xH} {lo hi : Nat} : same P P lo hi := ⟨rfl, fun _ _ => rfl⟩
theorem same.tr {P P1 P2 : xH} {lo hi : Nat} (h : same P P1 lo hi) (h2 : same P1 P2 lo hi) : same P P2 lo hi := ⟨h2.1.trans h.1, fun q hq => (h2.2 q hq).trans (h.2 q hq)⟩
theorem same.xs {P P1 : xH} {lo hi a : Nat} {e : xE} (h : same P P1 lo hi) (h1 : lo ≤ a) (h2 : a < hi) : same P (xs P1 a e) lo hi := ⟨h.1, fun q hq => by rw [xs_n (o := P1.1 q) (by rintro rfl; exact hq ⟨h1, h2⟩) rfl]; exact h.2 q hq⟩
theorem same.wide {P P1 : xH} {lo hi lo2 hi2 : Nat} (h : same P P1 lo hi) (h1 : lo2 ≤ lo) (h2 : hi ≤ hi2) : same P P1 lo2 hi2 := ⟨h.1, fun q hq => h.2 q (fun z => hq ⟨by omega, by omega⟩)⟩
theorem same.get {P P1 : xH} {lo hi q : Nat} {o : Option xE} (h : same P P1 lo hi) (hq : ¬ (lo ≤ q ∧ q < hi)) (ho : P.1 q = o) : P1.1 q = o := (h.2 q hq).trans ho
end Rel
section Terms
variable {w : xWd} {d : Nat} {P : xH}
/-- the object Terms at a with its four rows -/
abbrev tSt : Type := Nat × (Nat → Int64) × (Nat → Int64) × (Nat → Int64) × (Nat → Int64)
abbrev tO (a op : Nat) : xE := xO 6 [.ref (a + 1), .ref (a + 2), .ref (a + 3), .ref (a + 4), .int (nI op)]
def pT (P : xH) (a : Nat) (t : tSt) : Prop := P.1 a = some (tO a t.1) ∧ P.1 (a + 1) = some (xJ 17 t.2.1) ∧ P.1 (a + 2) = some (xJ 17 t.2.2.1) ∧ P.1 (a + 3) = some (xJ 17 t.2.2.2.1) ∧ P.1 (a + 4) = some (xJ 17 t.2.2.2.2)
theorem pT.same {P P1 : xH} {a lo hi : Nat} {t : tSt} (h : pT P a t) (hs : same P P1 lo hi) (hd : a + 4 < lo ∨ hi ≤ a) : pT P1 a t := ⟨hs.get (by omega) h.1, hs.get (by omega) h.2.1, hs.get (by omega) h.2.2.1, hs.get (by omega) h.2.2.2.1, hs.get (by omega) h.2.2.2.2⟩
theorem pT.o {a op op2 : Nat} {o x n u : Nat → Int64} (h : pT P a (op, o, x, n, u)) : pT (xs P a (tO a op2)) a (op2, o, x, n, u) := ⟨xs_s, xs_n (by omega) h.2.1, xs_n (by omega) h.2.2.1, xs_n (by omega) h.2.2.2.1, xs_n (by omega) h.2.2.2.2⟩
theorem pT.r1 {a op : Nat} {o x n u f : Nat → Int64} (h : pT P a (op, o, x, n, u)) : pT (xs P (a + 1) (xJ 17 f)) a (op, f, x, n, u) := ⟨xs_n (by omega) h.1, xs_s, xs_n (by omega) h.2.2.1, xs_n (by omega) h.2.2.2.1, xs_n (by omega) h.2.2.2.2⟩
theorem pT.r2 {a op : Nat} {o x n u f : Nat → Int64} (h : pT P a (op, o, x, n, u)) : pT (xs P (a + 2) (xJ 17 f)) a (op, o, f, n, u) := ⟨xs_n (by omega) h.1, xs_n (by omega) h.2.1, xs_s, xs_n (by omega) h.2.2.2.1, xs_n (by omega) h.2.2.2.2⟩
theorem pT.r3 {a op : Nat} {o x n u f : Nat → Int64} (h : pT P a (op, o, x, n, u)) : pT (xs P (a + 3) (xJ 17 f)) a (op, o, x, f, u) := ⟨xs_n (by omega) h.1, xs_n (by omega) h.2.1, xs_n (by omega) h.2.2.1, xs_s, xs_n (by omega) h.2.2.2.2⟩
theorem pT.r4 {a op : Nat} {o x n u f : Nat → Int64} (h : pT P a (op, o, x, n, u)) : pT (xs P (a + 4) (xJ 17 f)) a (op, o, x, n, f) := ⟨xs_n (by omega) h.1, xs_n (by omega) h.2.1, xs_n (by omega) h.2.2.1, xs_n (by omega) h.2.2.2.1, xs_s⟩
variable {a op : Nat} {o x n u : Nat → Int64}
abbrev uL (f : Nat → Int64) (k : Nat) (v : Int64) : Nat → Int64 := vp_updL f k v
theorem c_clearLevel (h : pT P a (op, o, x, n, u)) (ho : op < 17) : xC w d mX8_clearLevel [.ref a] P (xRl none (fun P1 => pT P1 a (op, uL o op 0, uL x op 0, uL n op (-1), uL u op 0) ∧ same P P1 a (a + 5))) := by
  have hv : vp_in (nI op) 17 := vp_in_nI ho (by omega)
  have hc : (nI op).toNatClampNeg = op := nI_clamp (by omega)
  refine xC_of (by decide) (ble rfl) (ls := [some (.ref a)]) rfl ?_
  refine sX8_clearLevel_0 (sX8_clearLevel_1 h.1 rfl (sX8_clearLevel_4 (sX8_clearLevel_5 h.1 rfl (sX8_clearLevel_8 (sX8_clearLevel_9 h.2.1 hv ?_)))))
  rw [hc]
  have h1 := h.r1 (f := uL o op 0)
  refine sX8_clearLevel_10 (sX8_clearLevel_11 h1.1 rfl (sX8_clearLevel_14 (sX8_clearLevel_15 h1.1 rfl (sX8_clearLevel_18 (sX8_clearLevel_19 h1.2.2.1 hv ?_)))))
  rw [hc]
  have h2 := h1.r2 (f := uL x op 0)
  refine sX8_clearLevel_20 (sX8_clearLevel_21 h2.1 rfl (sX8_clearLevel_24 (sX8_clearLevel_25 h2.1 rfl (sX8_clearLevel_28 (sX8_clearLevel_31 h2.2.2.2.1 hv ?_)))))
  rw [hc]
  have h3 := h2.r3 (f := uL n op (-1))
  refine sX8_clearLevel_32 (sX8_clearLevel_33 h3.1 rfl (sX8_clearLevel_36 (sX8_clearLevel_37 h3.1 rfl (sX8_clearLevel_40 (sX8_clearLevel_41 h3.2.2.2.2 hv ?_)))))
  rw [hc]
  have h4 := h3.r4 (f := uL u op 0)
  refine sX8_clearLevel_42 ⟨rfl, h4, (((same.rf.xs (by omega) (by omega)).xs (by omega) (by omega)).xs (by omega) (by omega)).xs (by omega) (by omega)⟩
theorem c_tbegin (h : pT P a (op, o, x, n, u)) : xC w (d + 1) mX8_begin [.ref a] P (xRl none (fun P1 => pT P1 a (0, uL o 0 0, uL x 0 0, uL n 0 (-1), uL u 0 0) ∧ same P P1 a (a + 5))) := by
  refine xC_of (by decide) (ble rfl) (ls := [some (.ref a)]) rfl ?_
  have h1 := h.o (op2 := 0)
  refine sX8_begin_0 (sX8_begin_1 (sX8_begin_2 h.1 (ble rfl) (sX8_begin_5 (sX8_begin_6_g (ble rfl) h1.1 (c_clearLevel h1 (by omega)) (fun v P1 hq => ?_) (fun q P1 hq => by cases hq.1)))))
  obtain ⟨hv, hp, hs⟩ := hq
  cases hv
  exact sX8_begin_9 ⟨rfl, hp, (same.rf.xs (by omega) (by omega)).tr hs⟩
theorem c_openBracket (h : pT P a (op, o, x, n, u)) (ho : op + 1 < 17) : xC w (d + 1) mX8_openBracket [.ref a] P (xRl none (fun P1 => pT P1 a (op + 1, uL o (op + 1) 0, uL x (op + 1) 0, uL n (op + 1) (-1), uL u (op + 1) 0) ∧ same P P1 a (a + 5))) := by
  refine xC_of (by decide) (ble rfl) (ls := [some (.ref a)]) rfl ?_
  refine sX8_openBracket_0 (sX8_openBracket_1 rfl (sX8_openBracket_2 h.1 rfl (sX8_openBracket_5 (sX8_openBracket_6 ?_))))
  rw [nI_1]
  have h1 := h.o (op2 := op + 1)
  refine sX8_openBracket_7 h.1 (ble rfl) (sX8_openBracket_10 (sX8_openBracket_11_g (ble rfl) h1.1 (c_clearLevel h1 ho) (fun v P1 hq => ?_) (fun q P1 hq => by cases hq.1)))
  obtain ⟨hv, hp, hs⟩ := hq
  cases hv
  exact sX8_openBracket_14 ⟨rfl, hp, (same.rf.xs (by omega) (by omega)).tr hs⟩
theorem c_turn (h : pT P a (op, o, x, n, u)) (ho : op < 17) : xC w d mX8_turn [.ref a] P (xRl none (fun P1 => pT P1 a (op, o, x, n, uL u op (u op ^^^ -1)) ∧ same P P1 a (a + 5))) := by
  have hv : vp_in (nI op) 17 := vp_in_nI ho (by omega)
  have hc : (nI op).toNatClampNeg = op := nI_clamp (by omega)
  refine xC_of (by decide) (ble rfl) (ls := [some (.ref a)]) rfl ?_
  refine sX8_turn_0 (sX8_turn_1 h.1 rfl (sX8_turn_4 (sX8_turn_5 h.1 rfl (sX8_turn_8 (sX8_turn_9 h.1 rfl (sX8_turn_12 (sX8_turn_13 h.1 rfl (sX8_turn_16 h.2.2.2.2 hv (sX8_turn_17 (sX8_turn_20 (sX8_turn_21 h.2.2.2.2 hv ?_)))))))))))
  rw [hc]
  refine sX8_turn_22 ⟨rfl, h.r4, same.rf.xs (by omega) (by omega)⟩
theorem c_tput (v : Int64) (h : pT P a (op, o, x, n, u)) (ho : op < 17) : xC w d mX8_put [.ref a, .long v] P (xRl none (fun P1 => pT P1 a (op, o, x, uL n op (n op &&& (v ^^^ u op)), uL u op 0) ∧ same P P1 a (a + 5))) := by
  have hv : vp_in (nI op) 17 := vp_in_nI ho (by omega)
  have hc : (nI op).toNatClampNeg = op := nI_clamp (by omega)
  refine xC_of (by decide) (ble rfl) (ls := [some (.ref a), some (.long v), none]) rfl ?_
  refine sX8_put_0 (sX8_put_1 h.1 rfl (sX8_put_4 (sX8_put_5 h.1 rfl (sX8_put_8 (sX8_put_9 h.2.2.2.1 hv (sX8_put_10 (sX8_put_11 (sX8_put_12 h.1 rfl (sX8_put_15 (sX8_put_16 h.1 rfl (sX8_put_19 h.2.2.2.2 hv (sX8_put_20 (sX8_put_21 (sX8_put_22 h.2.2.2.1 hv ?_))))))))))))))
  rw [hc]
  have h1 := h.r3 (f := uL n op (n op &&& (v ^^^ u op)))
  refine sX8_put_23 (sX8_put_24 h1.1 rfl (sX8_put_27 (sX8_put_28 h1.1 rfl (sX8_put_31 (sX8_put_32 h1.2.2.2.2 hv ?_)))))
  rw [hc]
  refine sX8_put_33 ⟨rfl, h1.r4, (same.rf.xs (by omega) (by omega)).xs (by omega) (by omega)⟩
theorem c_endAnd (h : pT P a (op, o, x, n, u)) (ho : op < 17) : xC w d mX8_endAnd [.ref a] P (xRl none (fun P1 => pT P1 a (op, o, uL x op (x op ^^^ n op), uL n op (-1), u) ∧ same P P1 a (a + 5))) := by
  have hv : vp_in (nI op) 17 := vp_in_nI ho (by omega)
  have hc : (nI op).toNatClampNeg = op := nI_clamp (by omega)
  refine xC_of (by decide) (ble rfl) (ls := [some (.ref a)]) rfl ?_
  refine sX8_endAnd_0 (sX8_endAnd_1 h.1 rfl (sX8_endAnd_4 (sX8_endAnd_5 h.1 rfl (sX8_endAnd_8 (sX8_endAnd_9 h.2.2.1 hv (sX8_endAnd_10 (sX8_endAnd_11 h.1 rfl (sX8_endAnd_14 (sX8_endAnd_15 h.1 rfl (sX8_endAnd_18 h.2.2.2.1 hv (sX8_endAnd_19 (sX8_endAnd_20 h.2.2.1 hv ?_))))))))))))
  rw [hc]
  have h1 := h.r2 (f := uL x op (x op ^^^ n op))
  refine sX8_endAnd_21 (sX8_endAnd_22 h1.1 rfl (sX8_endAnd_25 (sX8_endAnd_26 h1.1 rfl (sX8_endAnd_29 (sX8_endAnd_32 h1.2.2.2.1 hv ?_)))))
  rw [hc]
  refine sX8_endAnd_33 ⟨rfl, h1.r3, (same.rf.xs (by omega) (by omega)).xs (by omega) (by omega)⟩
theorem c_endXor (h : pT P a (op, o, x, n, u)) (ho : op < 17) : xC w d mX8_endXor [.ref a] P (xRl none (fun P1 => pT P1 a (op, uL o op (o op ||| (x op ^^^ n op)), uL x op 0, uL n op (-1), u) ∧ same P P1 a (a + 5))) := by
  have hv : vp_in (nI op) 17 := vp_in_nI ho (by omega)
  have hc : (nI op).toNatClampNeg = op := nI_clamp (by omega)
  refine xC_of (by decide) (ble rfl) (ls := [some (.ref a)]) rfl ?_
  refine sX8_endXor_0 (sX8_endXor_1 h.1 rfl (sX8_endXor_4 (sX8_endXor_5 h.1 rfl (sX8_endXor_8 (sX8_endXor_9 h.2.1 hv (sX8_endXor_10 (sX8_endXor_11 h.1 rfl (sX8_endXor_14 (sX8_endXor_15 h.1 rfl (sX8_endXor_18 h.2.2.1 hv (sX8_endXor_19 (sX8_endXor_20 h.1 rfl (sX8_endXor_23 (sX8_endXor_24 h.1 rfl (sX8_endXor_27 h.2.2.2.1 hv (sX8_endXor_28 (sX8_endXor_29 (sX8_endXor_30 h.2.1 hv ?_))))))))))))))))))
  rw [hc]
  have h1 := h.r1 (f := uL o op (o op ||| (x op ^^^ n op)))
  refine sX8_endXor_31 (sX8_endXor_32 h1.1 rfl (sX8_endXor_35 (sX8_endXor_36 h1.1 rfl (sX8_endXor_39 (sX8_endXor_40 h1.2.2.1 hv ?_)))))
  rw [hc]
  have h2 := h1.r2 (f := uL x op 0)
  refine sX8_endXor_41 (sX8_endXor_42 h2.1 rfl (sX8_endXor_45 (sX8_endXor_46 h2.1 rfl (sX8_endXor_49 (sX8_endXor_52 h2.2.2.2.1 hv ?_)))))
  rw [hc]
  refine sX8_endXor_53 ⟨rfl, h2.r3, ((same.rf.xs (by omega) (by omega)).xs (by omega) (by omega)).xs (by omega) (by omega)⟩
theorem c_total (h : pT P a (op, o, x, n, u)) (ho : op < 17) : xC w d mX8_total [.ref a] P (xRet (some (.long (o op ||| (x op ^^^ n op)))) P) := by
  have hv : vp_in (nI op) 17 := vp_in_nI ho (by omega)
  have hc : (nI op).toNatClampNeg = op := nI_clamp (by omega)
  refine xC_of (by decide) (ble rfl) (ls := [some (.ref a)]) rfl ?_
  refine sX8_total_0 (sX8_total_1 h.1 rfl (sX8_total_4 (sX8_total_5 h.1 rfl (sX8_total_8 h.2.1 hv (sX8_total_9 (sX8_total_10 h.1 rfl (sX8_total_13 (sX8_total_14 h.1 rfl (sX8_total_17 h.2.2.1 hv (sX8_total_18 (sX8_total_19 h.1 rfl (sX8_total_22 (sX8_total_23 h.1 rfl (sX8_total_26 h.2.2.2.1 hv (sX8_total_27 (sX8_total_28 ?_))))))))))))))))
  rw [hc]
  refine sX8_total_29 ⟨rfl, rfl⟩
theorem c_closeBracket (h : pT P a (op + 1, o, x, n, u)) (ho : op + 1 < 17) : xC w (d + 1) mX8_closeBracket [.ref a] P (xRl none (fun P1 => pT P1 a (op, o, x, uL n op (n op &&& ((o (op + 1) ||| (x (op + 1) ^^^ n (op + 1))) ^^^ u op)), uL u op 0) ∧ same P P1 a (a + 5))) := by
  refine xC_of (by decide) (ble rfl) (ls := [some (.ref a), none, none]) rfl ?_
  refine sX8_closeBracket_0 (sX8_closeBracket_1 (ble rfl) h.1 (c_total h ho) (sX8_closeBracket_4 rfl (sX8_closeBracket_5 (sX8_closeBracket_6 rfl (sX8_closeBracket_7 h.1 rfl (sX8_closeBracket_10 (sX8_closeBracket_11 ?_)))))))
  rw [nI_pred]
  have h1 := h.o (op2 := op)
  refine sX8_closeBracket_12 h.1 (ble rfl) (sX8_closeBracket_15 (sX8_closeBracket_16 (sX8_closeBracket_17_g (ble rfl) h1.1 (c_tput _ h1 (by omega)) (fun v P1 hq => ?_) (fun q P1 hq => by cases hq.1))))
  obtain ⟨hv, hp, hs⟩ := hq
  cases hv
  exact sX8_closeBracket_20 ⟨rfl, hp, (same.rf.xs (by omega) (by omega)).tr hs⟩
end Terms
