section Shelf
variable {w : xWd} {d : Nat} {P : xH}
def tad (S : Nat) : Nat → Option Nat := fun i => if i < 12 then some (S + 4 + 6 * i) else none
def cad (S : Nat) : Nat → Option Nat := fun i => if i < 12 then some (S + 76 + 7 * i) else none
abbrev sO (S tc cc : Nat) : xE := xO 4 [.ref (S + 1), .ref (S + 2), .ref (S + 3), .int (nI tc), .int (nI cc)]
/-- the object Shelf at S, without its tables and cells -/
def pS (P : xH) (S : Nat) (tn : Nat → Int64) (tc cc : Nat) : Prop := P.1 S = some (sO S tc cc) ∧ P.1 (S + 1) = some (xJ 12 tn) ∧ P.1 (S + 2) = some (xR 4 12 (tad S)) ∧ P.1 (S + 3) = some (xR 5 12 (cad S))
theorem pS.same {P P1 : xH} {S lo hi : Nat} {tn : Nat → Int64} {tc cc : Nat} (h : pS P S tn tc cc) (hs : same P P1 lo hi) (hd : S + 3 < lo ∨ hi ≤ S) : pS P1 S tn tc cc :=
  ⟨hs.get (by omega) h.1, hs.get (by omega) h.2.1, hs.get (by omega) h.2.2.1, hs.get (by omega) h.2.2.2⟩
variable {S tc cc : Nat} {tn : Nat → Int64}
theorem pS.obj {tc' cc' : Nat} (h : pS P S tn tc cc) : pS (xs P S (sO S tc' cc')) S tn tc' cc' := ⟨xs_s, xs_n (by omega) h.2.1, xs_n (by omega) h.2.2.1, xs_n (by omega) h.2.2.2⟩
theorem pS.r1 {f : Nat → Int64} (h : pS P S tn tc cc) : pS (xs P (S + 1) (xJ 12 f)) S f tc cc := ⟨xs_n (by omega) h.1, xs_s, xs_n (by omega) h.2.2.1, xs_n (by omega) h.2.2.2⟩
theorem c_sclear (h : pS P S tn tc cc) : xC w d mX6_clear [.ref S] P (xRet none (xs P S (sO S 0 0))) := by
  refine xC_of (by decide) (ble rfl) (ls := [some (.ref S)]) rfl ?_
  refine sX6_clear_0 (sX6_clear_1 (sX6_clear_2 h.1 (ble rfl) (sX6_clear_5 (sX6_clear_6 (sX6_clear_7 xs_s (ble rfl) ?_)))))
  rw [xs_xs]
  refine sX6_clear_10 ⟨rfl, rfl⟩
def hsC (nf : Nat → Int64) (x : Int64) : Nat → Nat → Int32
  | 0, _ => 0
  | m + 1, k => if nf k = x then 1 else hsC nf x m (k + 1)
theorem c_hasCell (x : Int64) {cs : Nat → ceT} (h : pS P S tn tc cc) (hcc : cc ≤ 12) (hc : ∀ k, k < 12 → pC P (S + 76 + 7 * k) (cs k)) : xC w d mX6_hasCell [.ref S, .long x] P (xRet (some (.int (hsC (fun k => (cs k).nm) x cc 0))) P) := by
  refine xC_of (by decide) (ble rfl) (ls := [some (.ref S), some (.long x), none, none]) rfl ?_
  have L : ∀ m k, k + m = cc → X w mX6_hasCell d (xRet (some (.int (hsC (fun k => (cs k).nm) x m k))) P) 2 [some (.ref S), some (.long x), none, some (.int (nI k))] [] P := by
    intro m
    induction m with
    | zero =>
      intro k hk
      refine sX6_hasCell_2 (sX6_hasCell_3 (sX6_hasCell_4 h.1 rfl (sX6_hasCell_7 (fun _ => ?_) (fun h9 => absurd (nI_le (by omega) (by omega)) h9))))
      refine sX6_hasCell_32 (sX6_hasCell_33 (Or.inl rfl) ⟨rfl, rfl⟩)
    | succ m ih =>
      intro k hk
      refine sX6_hasCell_2 (sX6_hasCell_3 (sX6_hasCell_4 h.1 rfl (sX6_hasCell_7 (fun h9 => absurd h9 (nI_ge (by omega) (by omega))) (fun _ => ?_))))
      refine sX6_hasCell_10 (sX6_hasCell_11 h.1 rfl (sX6_hasCell_14 (sX6_hasCell_15 h.2.2.2 (Or.inr rfl) (vp_in_nI (by omega) (by omega)) (by rw [nI_clamp (by omega)]; exact if_pos (by omega)) (sX6_hasCell_16 (hc k (by omega)).1 rfl (sX6_hasCell_19 (sX6_hasCell_20 (sX6_hasCell_21 (fun h9 => ?_) (fun h9 => ?_))))))))
      · rw [lg_cmp_eq] at h9
        refine sX6_hasCell_26 rfl (sX6_hasCell_29 ?_)
        have K := ih (k + 1) (by omega)
        rw [nI_1, show hsC (fun k => (cs k).nm) x (m + 1) k = hsC (fun k => (cs k).nm) x m (k + 1) from if_neg h9]
        exact K
      · rw [lg_cmp_eq] at h9
        refine sX6_hasCell_24 (sX6_hasCell_25 (Or.inr rfl) ⟨by rw [show hsC (fun k => (cs k).nm) x (m + 1) k = 1 from if_pos h9], rfl⟩)
  have L0 := L cc 0 (by omega)
  rw [nI_0] at L0
  refine sX6_hasCell_0 (sX6_hasCell_1 rfl ?_)
  exact L0
theorem c_addTable (x : Int64) (h : pS P S tn tc cc) (ht : tc < 12) : xC w d mX6_addTable [.ref S, .long x] P (xRl (some (.ref (S + 4 + 6 * tc))) (fun P1 => pS P1 S (uL tn tc x) (tc + 1) cc ∧ same P P1 S (S + 2))) := by
  refine xC_of (by decide) (ble rfl) (ls := [some (.ref S), some (.long x), none]) rfl ?_
  refine sX6_addTable_0 (sX6_addTable_1 h.1 rfl (sX6_addTable_4 (sX6_addTable_5 h.1 rfl (sX6_addTable_8 (sX6_addTable_9 h.2.1 (vp_in_nI ht (by omega)) ?_)))))
  rw [nI_clamp (by omega)]
  have h1 := h.r1 (f := uL tn tc x)
  refine sX6_addTable_10 (sX6_addTable_11 rfl (sX6_addTable_12 h1.1 rfl (sX6_addTable_15 (sX6_addTable_16 ?_))))
  rw [nI_1]
  refine sX6_addTable_17 h1.1 (ble rfl) ?_
  have h2 := h1.obj (tc' := tc + 1) (cc' := cc)
  refine sX6_addTable_20 (sX6_addTable_21 h2.1 rfl (sX6_addTable_24 (sX6_addTable_25 h2.1 rfl (sX6_addTable_28 (sX6_addTable_29 ?_)))))
  rw [nI_pred]
  refine sX6_addTable_30 h2.2.2.1 (Or.inl rfl) (vp_in_nI ht (by omega)) (by rw [nI_clamp (by omega)]; exact if_pos ht) (sX6_addTable_31 ⟨rfl, h2, (same.rf.xs (by omega) (by omega)).xs (by omega) (by omega)⟩)
theorem c_addCell (x : Int64) (pl : Int32) {c : ceT} (h : pS P S tn tc cc) (ht : cc < 12) (hc : pC P (S + 76 + 7 * cc) c) : xC w (d + 1) mX6_addCell [.ref S, .long x, .int pl] P (xRl (some (.ref (S + 76 + 7 * cc))) (fun P1 => pS P1 S tn tc (cc + 1) ∧ pC P1 (S + 76 + 7 * cc) (x, pl, c.pins, 0, 0, c.tr, z3 c.am, z3 c.tl, c.pw, 0, c.arcs, 0) ∧ P1.2 = P.2 ∧ ∀ q, ¬ q = S → ¬ (S + 76 + 7 * cc ≤ q ∧ q < S + 76 + 7 * cc + 7) → P1.1 q = P.1 q)) := by
  refine xC_of (by decide) (ble rfl) (ls := [some (.ref S), some (.long x), none, some (.int pl), none]) rfl ?_
  refine sX6_addCell_0 (sX6_addCell_1 h.1 rfl (sX6_addCell_4 (sX6_addCell_5 h.1 rfl (sX6_addCell_8 h.2.2.2 (Or.inr rfl) (vp_in_nI ht (by omega)) (by rw [nI_clamp (by omega)]; exact if_pos ht) (sX6_addCell_9 rfl (sX6_addCell_11 (sX6_addCell_13 (sX6_addCell_14 (sX6_addCell_15_g (ble rfl) hc.1 (c_cbegin x pl hc) (fun v P1 hq => ?_) (fun q P1 hq => by cases hq.1))))))))))
  obtain ⟨hv, hp, hs⟩ := hq
  cases hv
  have h1 := h.same hs (by omega)
  refine sX6_addCell_18 (sX6_addCell_19 rfl (sX6_addCell_20 h1.1 rfl (sX6_addCell_23 (sX6_addCell_24 ?_))))
  rw [nI_1]
  have s2 : same P1 (xs P1 S (sO S tc (cc + 1))) S (S + 1) := same.rf.xs (by omega) (by omega)
  refine sX6_addCell_25 h1.1 (ble rfl) (sX6_addCell_28 (sX6_addCell_30 ⟨rfl, h1.obj, hp.same s2 (by omega), hs.1, fun q h8 h9 => (s2.2 q (by omega)).trans (hs.2 q h9)⟩))
end Shelf
section Api0
variable {w : xWd} {d : Nat} {P : xH}
/-- an exception of class k is made and thrown -/
abbrev xEx (P : xH) (k : Nat) : xH := xal P (xO k []) 6
theorem c_requireIndex_ok {x n : Int32} (h : ¬ x < 0) (h2 : x < n) : xC w d mX10_requireIndex [.int x, .int n] P (xRet none P) := by
  refine xC_of (by decide) (ble rfl) (ls := [some (.int x), some (.int n)]) rfl ?_
  refine sX10_requireIndex_0 (sX10_requireIndex_1 (fun h9 => absurd h9 h) (fun _ => ?_))
  refine sX10_requireIndex_4 (sX10_requireIndex_5 (sX10_requireIndex_6 (fun _ => ?_) (fun h9 => absurd h2 h9)))
  refine sX10_requireIndex_17 ⟨rfl, rfl⟩
theorem c_requireIndex_bad {x n : Int32} (h : x < 0 ∨ ¬ x < n) (hr1 : P.2.1 + 1 ≤ w.z + 601024) (hr2 : P.2.2 + 6 ≤ 7293034) : xC w d mX10_requireIndex [.int x, .int n] P (xThr P.2.1 (xEx P 11)) := by
  refine xC_of (by decide) (ble rfl) (ls := [some (.int x), some (.int n)]) rfl ?_
  have G : X w mX10_requireIndex d (xThr P.2.1 (xEx P 11)) 9 [some (.int x), some (.int n)] [] P := sX10_requireIndex_9 (ble rfl) hr1 hr2 ⟨rfl, rfl⟩
  refine sX10_requireIndex_0 (sX10_requireIndex_1 (fun _ => G) (fun h1 => ?_))
  refine sX10_requireIndex_4 (sX10_requireIndex_5 (sX10_requireIndex_6 (fun h9 => absurd h9 (h.resolve_left h1)) (fun _ => G)))
theorem c_requireNot_ok {x : Int32} (h : 0 ≤ x) : xC w d mX10_requireNotBelowZero [.int x] P (xRet none P) := by
  refine xC_of (by decide) (ble rfl) (ls := [some (.int x)]) rfl ?_
  refine sX10_requireNotBelowZero_0 (sX10_requireNotBelowZero_1 (fun _ => ?_) (fun h9 => absurd h h9))
  refine sX10_requireNotBelowZero_12 ⟨rfl, rfl⟩
theorem c_requireNot_bad {x : Int32} (h : ¬ 0 ≤ x) (hr1 : P.2.1 + 1 ≤ w.z + 601024) (hr2 : P.2.2 + 6 ≤ 7293034) : xC w d mX10_requireNotBelowZero [.int x] P (xThr P.2.1 (xEx P 11)) := by
  refine xC_of (by decide) (ble rfl) (ls := [some (.int x)]) rfl ?_
  refine sX10_requireNotBelowZero_0 (sX10_requireNotBelowZero_1 (fun h9 => absurd h9 h) (fun _ => ?_))
  exact sX10_requireNotBelowZero_4 (ble rfl) hr1 hr2 ⟨rfl, rfl⟩
def bMay (x : Int32) : Int32 := if (32 ≤ x ∧ x ≤ 126) ∨ x = 10 then 1 else 0
theorem c_may (x : Int32) : xC w d mX10_mayStandOnTape [.int x] P (xRet (some (.int (bMay x))) P) := by
  refine xC_of (by decide) (ble rfl) (ls := [some (.int x)]) rfl ?_
  refine sX10_mayStandOnTape_0 (sX10_mayStandOnTape_1 (sX10_mayStandOnTape_3 (fun h3 => ?_) (fun h3 => ?_)))
  · refine sX10_mayStandOnTape_12 (sX10_mayStandOnTape_13 (sX10_mayStandOnTape_15 (fun h15 => ?_) (fun h15 => ?_)))
    · refine sX10_mayStandOnTape_22 (sX10_mayStandOnTape_23 (by first | exact Or.inl rfl | exact Or.inr rfl) ?_)
      refine ⟨?_, rfl⟩; unfold bMay; grind
    · refine sX10_mayStandOnTape_18 (sX10_mayStandOnTape_19 (sX10_mayStandOnTape_23 (by first | exact Or.inl rfl | exact Or.inr rfl) ?_))
      refine ⟨?_, rfl⟩; unfold bMay; grind
  · refine sX10_mayStandOnTape_6 (sX10_mayStandOnTape_7 (sX10_mayStandOnTape_9 (fun h9 => ?_) (fun h9 => ?_)))
    · refine sX10_mayStandOnTape_18 (sX10_mayStandOnTape_19 (sX10_mayStandOnTape_23 (by first | exact Or.inl rfl | exact Or.inr rfl) ?_))
      refine ⟨?_, rfl⟩; unfold bMay; grind
    · refine sX10_mayStandOnTape_12 (sX10_mayStandOnTape_13 (sX10_mayStandOnTape_15 (fun h15 => ?_) (fun h15 => ?_)))
      · refine sX10_mayStandOnTape_22 (sX10_mayStandOnTape_23 (by first | exact Or.inl rfl | exact Or.inr rfl) ?_)
        refine ⟨?_, rfl⟩; unfold bMay; grind
      · refine sX10_mayStandOnTape_18 (sX10_mayStandOnTape_19 (sX10_mayStandOnTape_23 (by first | exact Or.inl rfl | exact Or.inr rfl) ?_))
        refine ⟨?_, rfl⟩; unfold bMay; grind
end Api0
