section RK
variable {w : xWd} {d : Nat} {P P1 P2 : xH} {b S S' n q k : Nat} {T : Nat → Int32} {t : tSt} {L L2 : liT} {f f' : Nat → Int32}
def mI (r : Except Nat Int32) : Except Nat Value := match r with
  | .ok v => .ok (.int v)
  | .error e => .error e
def mJ (r : Except Nat Int64) : Except Nat Value := match r with
  | .ok v => .ok (.long v)
  | .error e => .error e
/-- how a question to the object ends -/
def kO (b S S' : Nat) (T : Nat → Int32) (n : Nat) (L : liT) (t : tSt) (L2 : liT) (f : Nat → Int32) (P : xH) (r : Except Nat Value) : Outcome → xH → Prop := match r with
  | .ok v => fun oc P' => oc = .returned (some v) ∧ cZ P' b S S' T n L t L2 f ∧ cF P P' b
  | .error e => fun oc P' => ∃ q, oc = .threw q ∧ P'.1 q = some (xO (10 + e) []) ∧ cZ P' b S S' T n L t L2 f ∧ cF P P' b
theorem kE {e : Nat} (h : cZ P b S S' T n L t L2 f) : kO b S S' T n L t L2 f P (.error e) (.threw P.2.1) (xEx P (10 + e)) := by
  have hz := h.2.2.2.2.2.2.2.2.2.2.2.2.2.2
  exact ⟨P.2.1, rfl, xal_s, h.cg (fun a h1 h2 => xal_n (by omega) rfl) (by show b + 335 ≤ P.2.1 + 1; omega), cF.ex rfl (fun _ _ => rfl)⟩
theorem cZ.cell {j : Nat} (h : cZ P b S S' T n L t L2 f) (hj : j < L.cc) : pC P (S + 76 + 7 * j) (L.cs j) ∧ j < 12 ∧ j < 2 ^ 31 := by
  have := h.2.2.2.2.2.2.2.2.2.2.2.1.2.1
  exact ⟨h.2.2.1.2.2 j (by omega), by omega, by omega⟩
theorem c_cellAt {j : Nat} (h : cZ P b S S' T n L t L2 f) (hj : j < L.cc) : xC w (d + 1) mX10_cellAt [.ref b, .int (nI j)] P (xRet (some (.ref (S + 76 + 7 * j))) P) := by
  obtain ⟨h1, h2, h3, h4, h5, h6, h7, h8, h9, h10, h11, h12, h13, h14, h15⟩ := id h
  have hcc := h12.2.1
  have hS := h3.1.1
  have ho := ix_nI hj (by omega)
  refine xC_of (by decide) (ble rfl) (ls := [some (.ref b), some (.int (nI j))]) rfl ?_
  refine sX10_cellAt_0 (sX10_cellAt_1 (sX10_cellAt_2 (by assumption) (by rfl) (sX10_cellAt_5 (by assumption) (by rfl) (sX10_cellAt_8 (ble rfl) (c_requireIndex_ok ho.1 ho.2) (sX10_cellAt_11 (sX10_cellAt_12 (by assumption) (by rfl) (sX10_cellAt_15 (by assumption) (by rfl) (sX10_cellAt_18 (sX10_cellAt_19 h3.1.2.2.2 (Or.inr rfl) (vp_in_nI (by omega) (by omega)) (by rw [nI_clamp (by omega)]; exact if_pos (by omega)) (sX10_cellAt_20 ⟨rfl, rfl⟩))))))))))
theorem c_cellAtB {x : Int32} (h : cZ P b S S' T n L t L2 f) (hr : P.2.1 + 1 ≤ w.z + 601024 ∧ P.2.2 + 6 ≤ 7293034) (hx : ¬ ix x L.cc) : xC w (d + 1) mX10_cellAt [.ref b, .int x] P (xThr P.2.1 (xEx P 11)) := by
  obtain ⟨h1, h2, h3, h4, h5, h6, h7, h8, h9, h10, h11, h12, h13, h14, h15⟩ := id h
  have hS := h3.1.1
  have hx : x < 0 ∨ ¬ x < nI L.cc := by
    by_cases z : x < 0
    · exact Or.inl z
    · exact Or.inr (fun y => hx ⟨z, y⟩)
  refine xC_of (by decide) (ble rfl) (ls := [some (.ref b), some (.int x)]) rfl ?_
  refine sX10_cellAt_0 (sX10_cellAt_1 (sX10_cellAt_2 (by assumption) (by rfl) (sX10_cellAt_5 (by assumption) (by rfl) (sX10_cellAt_8_t (ble rfl) (c_requireIndex_bad hx hr.1 hr.2) ⟨rfl, rfl⟩))))
theorem ix_bad {x : Int32} {n : Nat} (hx : ¬ ix x n) : x < 0 ∨ ¬ x < nI n := by
  by_cases z : x < 0
  · exact Or.inl z
  · exact Or.inr (fun y => hx ⟨z, y⟩)
theorem k_truth (hr : P.2.1 + 1 ≤ w.z + 601024 ∧ P.2.2 + 6 ≤ 7293034) (h : cZ P b S S' T n L t L2 f) (x y : Int32) : xC w (d + 2) mX10_truth [.ref b, .int x, .int y] P (kO b S S' T n L t L2 f P (mJ (aTruth L x y))) := by
  have h1 := h.1
  refine xC_of (by decide) (ble rfl) (ls := [some (.ref b), some (.int x), some (.int y), none]) rfl ?_
  by_cases hx : ix x L.cc
  rotate_left
  · rw [show aTruth L x y = .error 1 from if_neg hx]
    refine sX10_truth_0 (sX10_truth_1 (sX10_truth_2_t (ble rfl) h1 (c_cellAtB h hr hx) (kE (e := 1) h)))
  obtain ⟨j, hj, rfl⟩ := ix_of (by have := h.2.2.2.2.2.2.2.2.2.2.2.1.2.1; omega) hx
  obtain ⟨hc, j12, j31⟩ := h.cell hj
  have hC := hc.1
  have wb := h.2.2.2.2.2.2.2.2.2.2.2.1.2.2.1 j j12
  have e1 : aTruth L (nI j) y = if ix y (L.cs j).o then .ok ((L.cs j).tr y.toNatClampNeg) else .error 1 := by unfold aTruth; rw [if_pos hx, nI_clamp j31]
  rw [e1]
  by_cases hy : ix y (L.cs j).o
  rotate_left
  · rw [if_neg hy]
    refine sX10_truth_0 (sX10_truth_1 (sX10_truth_2 (ble rfl) h1 (c_cellAt h hj) (sX10_truth_5 rfl (sX10_truth_6 (sX10_truth_7 (sX10_truth_8 (by assumption) (by rfl) (sX10_truth_11_t (ble rfl) (c_requireIndex_bad (ix_bad hy) hr.1 hr.2) (kE (e := 1) h))))))))
  rw [if_pos hy]
  obtain ⟨i, hi, rfl⟩ := ix_of (by omega) hy
  refine sX10_truth_0 (sX10_truth_1 (sX10_truth_2 (ble rfl) h1 (c_cellAt h hj) (sX10_truth_5 rfl (sX10_truth_6 (sX10_truth_7 (sX10_truth_8 (by assumption) (by rfl) (sX10_truth_11 (ble rfl) (c_requireIndex_ok hy.1 hy.2) (sX10_truth_14 (sX10_truth_15 (by assumption) (by rfl) (sX10_truth_18 (sX10_truth_19 hc.2.2.1 (vp_in_nI (by omega) (by omega)) (sX10_truth_20 ⟨rfl, h, cF.rf⟩))))))))))))
theorem k_sense (hr : P.2.1 + 1 ≤ w.z + 601024 ∧ P.2.2 + 6 ≤ 7293034) (h : cZ P b S S' T n L t L2 f) (x y z : Int32) : xC w (d + 2) mX10_sense [.ref b, .int x, .int y, .int z] P (kO b S S' T n L t L2 f P (mI (aSense L x y z))) := by
  have h1 := h.1
  refine xC_of (by decide) (ble rfl) (ls := [some (.ref b), some (.int x), some (.int y), some (.int z), none]) rfl ?_
  by_cases hx : ix x L.cc
  rotate_left
  · rw [show aSense L x y z = .error 1 from if_neg hx]
    refine sX10_sense_0 (sX10_sense_1 (sX10_sense_2_t (ble rfl) h1 (c_cellAtB h hr hx) (kE (e := 1) h)))
  obtain ⟨j, hj, rfl⟩ := ix_of (by have := h.2.2.2.2.2.2.2.2.2.2.2.1.2.1; omega) hx
  obtain ⟨hc, j12, j31⟩ := h.cell hj
  have hC := hc.1
  have wb := h.2.2.2.2.2.2.2.2.2.2.2.1.2.2.1 j j12
  have e1 : aSense L (nI j) y z = if ix y (L.cs j).i then (if ix z (L.cs j).o then .ok (sns ((L.cs j).tr z.toNatClampNeg) y.toNatClampNeg) else .error 1) else .error 1 := by unfold aSense; rw [if_pos hx, nI_clamp j31]
  rw [e1]
  by_cases hy : ix y (L.cs j).i
  rotate_left
  · rw [if_neg hy]
    refine sX10_sense_0 (sX10_sense_1 (sX10_sense_2 (ble rfl) h1 (c_cellAt h hj) (sX10_sense_5 rfl (sX10_sense_7 (sX10_sense_8 (sX10_sense_10 (by assumption) (by rfl) (sX10_sense_13_t (ble rfl) (c_requireIndex_bad (ix_bad hy) hr.1 hr.2) (kE (e := 1) h))))))))
  rw [if_pos hy]
  by_cases hz : ix z (L.cs j).o
  rotate_left
  · rw [if_neg hz]
    refine sX10_sense_0 (sX10_sense_1 (sX10_sense_2 (ble rfl) h1 (c_cellAt h hj) (sX10_sense_5 rfl (sX10_sense_7 (sX10_sense_8 (sX10_sense_10 (by assumption) (by rfl) (sX10_sense_13 (ble rfl) (c_requireIndex_ok hy.1 hy.2) (sX10_sense_16 (sX10_sense_17 (sX10_sense_19 (by assumption) (by rfl) (sX10_sense_22_t (ble rfl) (c_requireIndex_bad (ix_bad hz) hr.1 hr.2) (kE (e := 1) h))))))))))))
  rw [if_pos hz]
  obtain ⟨i, hi, rfl⟩ := ix_of (by omega) hy
  obtain ⟨u, hu, rfl⟩ := ix_of (by omega) hz
  have ec : (nI i).toNatClampNeg = i := nI_clamp (by omega)
  rw [ec]
  refine sX10_sense_0 (sX10_sense_1 (sX10_sense_2 (ble rfl) h1 (c_cellAt h hj) (sX10_sense_5 rfl (sX10_sense_7 (sX10_sense_8 (sX10_sense_10 (by assumption) (by rfl) (sX10_sense_13 (ble rfl) (c_requireIndex_ok hy.1 hy.2) (sX10_sense_16 (sX10_sense_17 (sX10_sense_19 (by assumption) (by rfl) (sX10_sense_22 (ble rfl) (c_requireIndex_ok hz.1 hz.2) (sX10_sense_25 (sX10_sense_27 (by assumption) (by rfl) (sX10_sense_30 (sX10_sense_31 hc.2.2.1 (vp_in_nI (by omega) (by omega)) (sX10_sense_32 (sX10_sense_33 (ble rfl) (c_senseOf _ (by omega)) (sX10_sense_36 ⟨rfl, h, cF.rf⟩))))))))))))))))))
theorem k_arc (hr : P.2.1 + 1 ≤ w.z + 601024 ∧ P.2.2 + 6 ≤ 7293034) (h : cZ P b S S' T n L t L2 f) (hw : wL L) (x y z : Int32) : xC w (d + 3) mX10_arc [.ref b, .int x, .int y, .int z] P (kO b S S' T n L t L2 f P (mI (aArc L x y z))) := by
  have h1 := h.1
  refine xC_of (by decide) (ble rfl) (ls := [some (.ref b), some (.int x), some (.int y), some (.int z), none]) rfl ?_
  by_cases hx : ix x L.cc
  rotate_left
  · rw [show aArc L x y z = .error 1 from if_neg hx]
    refine sX10_arc_0 (sX10_arc_1 (sX10_arc_2_t (ble rfl) h1 (c_cellAtB h hr hx) (kE (e := 1) h)))
  obtain ⟨j, hj, rfl⟩ := ix_of (by have := h.2.2.2.2.2.2.2.2.2.2.2.1.2.1; omega) hx
  obtain ⟨hc, j12, j31⟩ := h.cell hj
  have hC := hc.1
  have wb := h.2.2.2.2.2.2.2.2.2.2.2.1.2.2.1 j j12
  have wc := (hw.2.2.2.2.2 j hj).1
  have e1 : aArc L (nI j) y z = if ix y (L.cs j).ac then (if ix z 6 then (if z < 5 then .ok ((L.cs j).arcs (y.toNatClampNeg * 5 + z.toNatClampNeg)) else .ok (agr (L.cs j).arcs (L.cs j).tr y.toNatClampNeg)) else .error 1) else .error 1 := by unfold aArc; rw [if_pos hx, nI_clamp j31]
  rw [e1]
  by_cases hy : ix y (L.cs j).ac
  rotate_left
  · rw [if_neg hy]
    refine sX10_arc_0 (sX10_arc_1 (sX10_arc_2 (ble rfl) h1 (c_cellAt h hj) (sX10_arc_5 rfl (sX10_arc_7 (sX10_arc_8 (sX10_arc_10 (by assumption) (by rfl) (sX10_arc_13_t (ble rfl) (c_requireIndex_bad (ix_bad hy) hr.1 hr.2) (kE (e := 1) h))))))))
  rw [if_pos hy]
  by_cases hz : ix z 6
  rotate_left
  · rw [if_neg hz]
    refine sX10_arc_0 (sX10_arc_1 (sX10_arc_2 (ble rfl) h1 (c_cellAt h hj) (sX10_arc_5 rfl (sX10_arc_7 (sX10_arc_8 (sX10_arc_10 (by assumption) (by rfl) (sX10_arc_13 (ble rfl) (c_requireIndex_ok hy.1 hy.2) (sX10_arc_16 (sX10_arc_17 (sX10_arc_19_t (ble rfl) (c_requireIndex_bad (ix_bad hz) hr.1 hr.2) (kE (e := 1) h)))))))))))
  rw [if_pos hz]
  obtain ⟨i, hi, rfl⟩ := ix_of (by omega) hy
  obtain ⟨u, hu, rfl⟩ := ix_of (by omega) hz
  have ec : (nI i).toNatClampNeg = i := nI_clamp (by omega)
  have ec2 : (nI u).toNatClampNeg = u := nI_clamp (by omega)
  rw [ec, ec2]
  refine sX10_arc_0 (sX10_arc_1 (sX10_arc_2 (ble rfl) h1 (c_cellAt h hj) (sX10_arc_5 rfl (sX10_arc_7 (sX10_arc_8 (sX10_arc_10 (by assumption) (by rfl) (sX10_arc_13 (ble rfl) (c_requireIndex_ok hy.1 hy.2) (sX10_arc_16 (sX10_arc_17 (sX10_arc_19 (ble rfl) (c_requireIndex_ok hz.1 hz.2) (sX10_arc_22 (sX10_arc_23 (sX10_arc_24 (fun v => ?_) (fun v => ?_))))))))))))))
  · rw [if_neg (by grind)]
    obtain ⟨⟨a1, l1, g1⟩, ⟨a2, l2, g2⟩, _⟩ := wc.2.2.2.2.2.2.2.1 i hi
    have i6 := wc.1
    have o3 := wc.2.1
    refine sX10_arc_35 (sX10_arc_37 (sX10_arc_38 (ble rfl) hC (c_agrees hC hc.2.2.2.2.2.2 hc.2.2.1 (by omega) (by show vp_in ((L.cs j).arcs (i * 5)) 6; rw [g1]; exact vp_in_nI (by omega) (by omega)) (by rw [g2]; exact vp_in_nI (by omega) (by omega))) ?_))
    have hag : agr (L.cs j).arcs (L.cs j).tr i = 0 ∨ agr (L.cs j).arcs (L.cs j).tr i = 1 := by unfold agr; split; exact Or.inr rfl; exact Or.inl rfl
    refine sX10_arc_41 (fun q => ?_) (fun q => ?_)
    · refine sX10_arc_48 (sX10_arc_49 ⟨by rw [q], h, cF.rf⟩)
    · refine sX10_arc_44 (sX10_arc_45 (sX10_arc_49 ⟨by rw [hag.resolve_left q], h, cF.rf⟩))
  · rw [if_pos (by grind)]
    have hu5 : u < 5 := by
      rcases Nat.lt_or_ge u 5 with q | q
      · exact q
      · exact absurd (nI_le (a := 5) q (by omega)) v
    refine sX10_arc_27 (sX10_arc_29 (sX10_arc_30 (sX10_arc_31 (ble rfl) hC (c_arcPart hC hc.2.2.2.2.2.2 (by omega) hu5) (sX10_arc_34 ⟨rfl, h, cF.rf⟩))))
theorem k_power (hr : P.2.1 + 1 ≤ w.z + 601024 ∧ P.2.2 + 6 ≤ 7293034) (h : cZ P b S S' T n L t L2 f) (x y : Int32) : xC w (d + 2) mX10_power [.ref b, .int x, .int y] P (kO b S S' T n L t L2 f P (mI (aPower L x y))) := by
  have h1 := h.1
  refine xC_of (by decide) (ble rfl) (ls := [some (.ref b), some (.int x), some (.int y), none]) rfl ?_
  by_cases hx : ix x L.cc
  rotate_left
  · rw [show aPower L x y = .error 1 from if_neg hx]
    refine sX10_power_0 (sX10_power_1 (sX10_power_2_t (ble rfl) h1 (c_cellAtB h hr hx) (kE (e := 1) h)))
  obtain ⟨j, hj, rfl⟩ := ix_of (by have := h.2.2.2.2.2.2.2.2.2.2.2.1.2.1; omega) hx
  obtain ⟨hc, j12, j31⟩ := h.cell hj
  have hC := hc.1
  have wb := h.2.2.2.2.2.2.2.2.2.2.2.1.2.2.1 j j12
  have p6 : 2 ^ (L.cs j).i ≤ 64 := Nat.pow_le_pow_right (n := 2) (by omega) wb.1
  have e1 : aPower L (nI j) y = if ix y (2 ^ (L.cs j).i) then .ok (if (L.cs j).pt = 0 then 0 else (L.cs j).pw y.toNatClampNeg) else .error 1 := by unfold aPower; rw [if_pos hx, nI_clamp j31]
  rw [e1]
  by_cases hy : ix y (2 ^ (L.cs j).i)
  rotate_left
  · rw [if_neg hy]
    refine sX10_power_0 (sX10_power_1 (sX10_power_2 (ble rfl) h1 (c_cellAt h hj) (sX10_power_5 rfl (sX10_power_6 (sX10_power_7 (sX10_power_8 (ble rfl) hC (c_states hC wb.1) (sX10_power_11_t (ble rfl) (c_requireIndex_bad (ix_bad hy) hr.1 hr.2) (kE (e := 1) h))))))))
  rw [if_pos hy]
  obtain ⟨i, hi, rfl⟩ := ix_of (by omega) hy
  refine sX10_power_0 (sX10_power_1 (sX10_power_2 (ble rfl) h1 (c_cellAt h hj) (sX10_power_5 rfl (sX10_power_6 (sX10_power_7 (sX10_power_8 (ble rfl) hC (c_states hC wb.1) (sX10_power_11 (ble rfl) (c_requireIndex_ok hy.1 hy.2) (sX10_power_14 (sX10_power_15 (by assumption) (by rfl) (sX10_power_18 (fun q => ?_) (fun q => ?_)))))))))))
  · rw [if_pos q]
    refine sX10_power_30 (sX10_power_31 ⟨rfl, h, cF.rf⟩)
  · rw [if_neg q]
    refine sX10_power_21 (sX10_power_22 (by assumption) (by rfl) (sX10_power_25 (sX10_power_26 hc.2.2.2.2.2.1 (vp_in_nI (by omega) (by omega)) (sX10_power_27 (sX10_power_31 ⟨rfl, h, cF.rf⟩)))))
theorem k_letter (hr : P.2.1 + 1 ≤ w.z + 601024 ∧ P.2.2 + 6 ≤ 7293034) (h : cZ P b S S' T n L t L2 f) (x y z : Int32) : xC w (d + 2) mX10_letter [.ref b, .int x, .int y, .int z] P (kO b S S' T n L t L2 f P (mI (aLetter L x y z))) := by
  have h1 := h.1
  refine xC_of (by decide) (ble rfl) (ls := [some (.ref b), some (.int x), some (.int y), some (.int z), none]) rfl ?_
  by_cases hx : ix x L.cc
  rotate_left
  · rw [show aLetter L x y z = .error 1 from if_neg hx]
    refine sX10_letter_0 (sX10_letter_1 (sX10_letter_2_t (ble rfl) h1 (c_cellAtB h hr hx) (kE (e := 1) h)))
  obtain ⟨j, hj, rfl⟩ := ix_of (by have := h.2.2.2.2.2.2.2.2.2.2.2.1.2.1; omega) hx
  obtain ⟨hc, j12, j31⟩ := h.cell hj
  have hC := hc.1
  have wb := h.2.2.2.2.2.2.2.2.2.2.2.1.2.2.1 j j12
  have e1 : aLetter L (nI j) y z = (if y = -1 ∨ ix y ((L.cs j).i + (L.cs j).o) then (if 0 ≤ z then .ok (chO (if y = -1 then (L.cs j).nm else (L.cs j).pins y.toNatClampNeg) z) else .error 1) else .error 1) := by unfold aLetter; rw [if_pos hx, nI_clamp j31]
  rw [e1]
  have B : (y = -1 ∨ ix y ((L.cs j).i + (L.cs j).o)) → X w mX10_letter (d + 2) (kO b S S' T n L t L2 f P (mI (if y = -1 ∨ ix y ((L.cs j).i + (L.cs j).o) then (if 0 ≤ z then .ok (chO (if y = -1 then (L.cs j).nm else (L.cs j).pins y.toNatClampNeg) z) else .error 1) else .error 1))) 27 [some (.ref b), some (.int (nI j)), some (.int y), some (.int z), some (.ref (S + 76 + 7 * j))] [] P := by
    intro hy
    rw [if_pos hy]
    by_cases hz : 0 ≤ z
    rotate_left
    · rw [if_neg hz]
      refine sX10_letter_27 (sX10_letter_28_t (ble rfl) (c_requireNot_bad hz hr.1 hr.2) (kE (e := 1) h))
    rw [if_pos hz]
    refine sX10_letter_27 (sX10_letter_28 (ble rfl) (c_requireNot_ok hz) (sX10_letter_31 (sX10_letter_32 (sX10_letter_33 (fun q => ?_) (fun q => ?_)))))
    · rw [if_neg q]
      obtain ⟨i, hi, rfl⟩ := ix_of (by omega) (hy.resolve_left q)
      refine sX10_letter_44 (sX10_letter_46 (by assumption) (by rfl) (sX10_letter_49 (sX10_letter_50 hc.2.1 (vp_in_nI (by omega) (by omega)) (sX10_letter_51 (sX10_letter_52 (ble rfl) (c_characterOf _ _) (sX10_letter_55 ⟨rfl, h, cF.rf⟩))))))
    · rw [if_pos q]
      refine sX10_letter_36 (sX10_letter_38 (by assumption) (by rfl) (sX10_letter_41 (sX10_letter_51 (sX10_letter_52 (ble rfl) (c_characterOf _ _) (sX10_letter_55 ⟨rfl, h, cF.rf⟩)))))
  refine sX10_letter_0 (sX10_letter_1 (sX10_letter_2 (ble rfl) h1 (c_cellAt h hj) (sX10_letter_5 rfl (sX10_letter_7 (sX10_letter_8 (sX10_letter_9 (fun q => ?_) (fun q => ?_)))))))
  · exact B (Or.inl q)
  · refine sX10_letter_12 (sX10_letter_13 (sX10_letter_15 (by assumption) (by rfl) (sX10_letter_18 (sX10_letter_20 (by assumption) (by rfl) (sX10_letter_23 ?_)))))
    rw [nI_add]
    by_cases hy : ix y ((L.cs j).i + (L.cs j).o)
    · refine sX10_letter_24 (ble rfl) (c_requireIndex_ok hy.1 hy.2) ?_
      exact B (Or.inr hy)
    · rw [if_neg (by rintro (v | v); exact q v; exact hy v)]
      refine sX10_letter_24_t (ble rfl) (c_requireIndex_bad (ix_bad hy) hr.1 hr.2) (kE (e := 1) h)
theorem k_delay (hr : P.2.1 + 1 ≤ w.z + 601024 ∧ P.2.2 + 6 ≤ 7293034) (h : cZ P b S S' T n L t L2 f) (hw : wL L) (x y sl ld r : Int32) : xC w (d + 5) mX10_delay [.ref b, .int x, .int y, .int sl, .int ld, .int r] P (kO b S S' T n L t L2 f P (mI (aDelay L x y sl ld r))) := by
  have h1 := h.1
  refine xC_of (by decide) (ble rfl) (ls := [some (.ref b), some (.int x), some (.int y), some (.int sl), some (.int ld), some (.int r), none, none]) rfl ?_
  by_cases hx : ix x L.cc
  rotate_left
  · rw [show aDelay L x y sl ld r = .error 1 from if_neg hx]
    refine sX10_delay_0 (sX10_delay_1 (sX10_delay_2_t (ble rfl) h1 (c_cellAtB h hr hx) (kE (e := 1) h)))
  obtain ⟨j, hj, rfl⟩ := ix_of (by have := h.2.2.2.2.2.2.2.2.2.2.2.1.2.1; omega) hx
  obtain ⟨hc, j12, j31⟩ := h.cell hj
  have hC := hc.1
  have wb := h.2.2.2.2.2.2.2.2.2.2.2.1.2.2.1 j j12
  have wc := (hw.2.2.2.2.2 j hj).1
  by_cases hy : ix y (L.cs j).ac
  rotate_left
  · rw [show aDelay L (nI j) y sl ld r = .error 1 by unfold aDelay; rw [if_pos hx, nI_clamp j31, if_neg hy]]
    refine sX10_delay_0 (sX10_delay_1 (sX10_delay_2 (ble rfl) h1 (c_cellAt h hj) (sX10_delay_5 rfl (sX10_delay_7 (sX10_delay_8 (sX10_delay_10 (by assumption) (by rfl) (sX10_delay_13_t (ble rfl) (c_requireIndex_bad (ix_bad hy) hr.1 hr.2) (kE (e := 1) h))))))))
  obtain ⟨i, hi, rfl⟩ := ix_of (by omega) hy
  obtain ⟨tt, htc, et⟩ : ∃ tt, tt < L.tc ∧ (L.cs j).arcs (i * 5 + if r = 0 then 4 else 3) = nI tt := by
    obtain ⟨_, _, ⟨t3, h3, g3⟩, t4, h4, g4⟩ := wc.2.2.2.2.2.2.2.1 i hi
    split
    · exact ⟨t4, h4, g4⟩
    · exact ⟨t3, h3, g3⟩
  have t12 := hw.1
  have e1 : aDelay L (nI j) (nI i) sl ld r = if sl < 0 ∨ 1000000 < sl ∨ ld < 0 ∨ 1000000 < ld then .error 2 else .ok (jnd (L.ts tt).1 (L.ts tt).2.1 (L.ts tt).2.2.1 (L.ts tt).2.2.2.1 (L.ts tt).2.2.2.2 sl ld) := by
    unfold aDelay
    rw [if_pos hx, nI_clamp j31, if_pos hy, nI_clamp (by omega), et, nI_clamp (by omega)]
  rw [e1]
  have B : (sl < 0 ∨ 1000000 < sl ∨ ld < 0 ∨ 1000000 < ld) → X w mX10_delay (d + 5) (kO b S S' T n L t L2 f P (mI (if sl < 0 ∨ 1000000 < sl ∨ ld < 0 ∨ 1000000 < ld then .error 2 else .ok (jnd (L.ts tt).1 (L.ts tt).2.1 (L.ts tt).2.2.1 (L.ts tt).2.2.2.1 (L.ts tt).2.2.2.2 sl ld)))) 38 [some (.ref b), some (.int (nI j)), some (.int (nI i)), some (.int sl), some (.int ld), some (.int r), some (.ref (S + 76 + 7 * j)), none] [] P := by
    intro z
    rw [if_pos z]
    exact sX10_delay_38 (ble rfl) hr.1 hr.2 (kE (e := 2) h)
  have wt := hw.2.2.2.2.1 tt htc
  have hS := h.2.2.1
  have hSo := hS.1.1
  have hB := hS.2.1 tt (by omega)
  have D : ∀ qq : Nat, qq < 5 → (L.cs j).arcs (i * 5 + qq) = nI tt → X w mX10_delay (d + 5) (kO b S S' T n L t L2 f P (mI (.ok (jnd (L.ts tt).1 (L.ts tt).2.1 (L.ts tt).2.2.1 (L.ts tt).2.2.2.1 (L.ts tt).2.2.2.2 sl ld)))) 59 [some (.ref b), some (.int (nI j)), some (.int (nI i)), some (.int sl), some (.int ld), some (.int r), some (.ref (S + 76 + 7 * j)), none] [.int (nI qq), .int (nI i), .ref (S + 76 + 7 * j)] P := by
    intro qq hq eq
    refine sX10_delay_59 (ble rfl) hC (c_arcPart hC hc.2.2.2.2.2.2 (by omega) hq) ?_
    rw [eq]
    refine sX10_delay_62 rfl (sX10_delay_64 (sX10_delay_65 (by assumption) (by rfl) (sX10_delay_68 (by assumption) (by rfl) (sX10_delay_71 (sX10_delay_73 hS.1.2.2.1 (Or.inl rfl) (vp_in_nI (by omega) (by omega)) (by rw [nI_clamp (by omega)]; exact if_pos (by omega)) (sX10_delay_74 (sX10_delay_75 (sX10_delay_77 (ble rfl) hB.1 (c_joined sl ld hB wt.2.2.1 wt.2.2.2.1 wt.1 wt.2.1) (sX10_delay_80 ⟨rfl, h, cF.rf⟩)))))))))
  refine sX10_delay_0 (sX10_delay_1 (sX10_delay_2 (ble rfl) h1 (c_cellAt h hj) (sX10_delay_5 rfl (sX10_delay_7 (sX10_delay_8 (sX10_delay_10 (by assumption) (by rfl) (sX10_delay_13 (ble rfl) (c_requireIndex_ok hy.1 hy.2) (sX10_delay_16 (sX10_delay_17 (fun g1 => ?_) (fun g1 => ?_))))))))))
  · exact B (Or.inl g1)
  refine sX10_delay_20 (sX10_delay_21 (sX10_delay_23 (fun g2 => ?_) (fun g2 => ?_)))
  · exact B (Or.inr (Or.inl (by grind)))
  refine sX10_delay_26 (sX10_delay_28 (fun g3 => ?_) (fun g3 => ?_))
  · exact B (Or.inr (Or.inr (Or.inl g3)))
  refine sX10_delay_31 (sX10_delay_33 (sX10_delay_35 (fun g4 => ?_) (fun g4 => ?_)))
  rotate_left
  · exact B (Or.inr (Or.inr (Or.inr (by grind))))
  rw [if_neg (by rintro (z | z | z | z) <;> grind)]
  refine sX10_delay_46 (sX10_delay_48 (sX10_delay_49 (sX10_delay_51 (fun h9 => ?_) (fun h9 => ?_))))
  · rw [if_pos h9] at et
    refine sX10_delay_58 ?_
    exact D 4 (by omega) et
  · rw [if_neg h9] at et
    refine sX10_delay_54 (sX10_delay_55 ?_)
    exact D 3 (by omega) et
theorem tI {x : Int32} {n : Nat} (hn : n < 2 ^ 31) (h : ¬ ix x n) : x.toInt < 0 ∨ (n : Int) - 1 < x.toInt := by
  rcases ix_bad h with z | z
  · left
    rw [Int32.lt_iff_toInt_lt] at z
    exact z
  · right
    rw [Int32.lt_iff_toInt_lt, nI_t hn] at z
    omega
theorem k_count (hr : P.2.1 + 1 ≤ w.z + 601024 ∧ P.2.2 + 6 ≤ 7293034) (h : cZ P b S S' T n L t L2 f) (x : Int32) : xC w (d + 1) mX10_count [.ref b, .int x] P (kO b S S' T n L t L2 f P (mI (aCount L n x))) := by
  have h1 := h.1
  have hSo := h.2.2.1.1.1
  refine xC_of (by decide) (ble rfl) (ls := [some (.ref b), some (.int x)]) rfl ?_
  refine sX10_count_0 ?_
  by_cases hx : ix x 3
  · obtain ⟨i, hi, rfl⟩ := ix_of (by omega) hx
    have : i = 0 ∨ i = 1 ∨ i = 2 := by omega
    rcases this with e | e | e <;> subst e
    · refine X_tableIn (M := mX10_count) (off := 27) (tgt := 28) dX10_count_1 (by decide) (by decide) (by decide) (by decide) ?_
      refine sX10_count_28 (sX10_count_29 (by assumption) (by rfl) (sX10_count_32 (by assumption) (by rfl) (sX10_count_35 ⟨rfl, h, cF.rf⟩)))
    · refine X_tableIn (M := mX10_count) (off := 35) (tgt := 36) dX10_count_1 (by decide) (by decide) (by decide) (by decide) ?_
      refine sX10_count_36 (sX10_count_37 (by assumption) (by rfl) (sX10_count_40 (by assumption) (by rfl) (sX10_count_43 ⟨rfl, h, cF.rf⟩)))
    · refine X_tableIn (M := mX10_count) (off := 43) (tgt := 44) dX10_count_1 (by decide) (by decide) (by decide) (by decide) ?_
      refine sX10_count_44 (sX10_count_45 (by assumption) (by rfl) (sX10_count_48 ⟨rfl, h, cF.rf⟩))
  · refine X_tableOut (M := mX10_count) (tgt := 49) dX10_count_1 (by have := tI (by omega) hx; omega) (by decide) ?_
    have hx : ¬ (¬ x < 0 ∧ x < 3) := hx
    rw [show aCount L n x = .error 1 by unfold aCount; rw [if_neg (by grind), if_neg (by grind), if_neg (by grind)]]
    exact sX10_count_49 (ble rfl) hr.1 hr.2 (kE (e := 1) h)
theorem k_cell (hr : P.2.1 + 1 ≤ w.z + 601024 ∧ P.2.2 + 6 ≤ 7293034) (h : cZ P b S S' T n L t L2 f) (hw : wL L) (x y : Int32) : xC w (d + 3) mX10_cell [.ref b, .int x, .int y] P (kO b S S' T n L t L2 f P (mI (aCell L x y))) := by
  have h1 := h.1
  refine xC_of (by decide) (ble rfl) (ls := [some (.ref b), some (.int x), some (.int y), none]) rfl ?_
  by_cases hx : ix x L.cc
  rotate_left
  · rw [show aCell L x y = .error 1 from if_neg hx]
    refine sX10_cell_0 (sX10_cell_1 (sX10_cell_2_t (ble rfl) h1 (c_cellAtB h hr hx) (kE (e := 1) h)))
  obtain ⟨j, hj, rfl⟩ := ix_of (by have := h.2.2.2.2.2.2.2.2.2.2.2.1.2.1; omega) hx
  obtain ⟨hc, j12, j31⟩ := h.cell hj
  have hC := hc.1
  have wb := h.2.2.2.2.2.2.2.2.2.2.2.1.2.2.1 j j12
  have wc := (hw.2.2.2.2.2 j hj).1
  rw [show aCell L (nI j) y = celV (L.cs j) y by unfold aCell; rw [if_pos hx, nI_clamp j31]]
  refine sX10_cell_0 (sX10_cell_1 (sX10_cell_2 (ble rfl) h1 (c_cellAt h hj) (sX10_cell_5 rfl (sX10_cell_6 ?_))))
  by_cases hy : ix y 8
  · obtain ⟨i, hi, rfl⟩ := ix_of (by omega) hy
    have v0 : vp_in (0 : Int32) 3 := vp_in_nI (n := 0) (by omega) (by omega)
    have v1 : vp_in (1 : Int32) 3 := vp_in_nI (n := 1) (by omega) (by omega)
    have v2 : vp_in (2 : Int32) 3 := vp_in_nI (n := 2) (by omega) (by omega)
    have : i = 0 ∨ i = 1 ∨ i = 2 ∨ i = 3 ∨ i = 4 ∨ i = 5 ∨ i = 6 ∨ i = 7 := by omega
    rcases this with e | e | e | e | e | e | e | e <;> subst e
    · refine X_tableIn (M := mX10_cell) (off := 45) (tgt := 52) dX10_cell_7 (by decide) (by decide) (by decide) (by decide) ?_
      refine sX10_cell_52 (sX10_cell_53 (by assumption) (by rfl) (sX10_cell_56 ⟨rfl, h, cF.rf⟩))
    · refine X_tableIn (M := mX10_cell) (off := 50) (tgt := 57) dX10_cell_7 (by decide) (by decide) (by decide) (by decide) ?_
      refine sX10_cell_57 (sX10_cell_58 (by assumption) (by rfl) (sX10_cell_61 ⟨rfl, h, cF.rf⟩))
    · refine X_tableIn (M := mX10_cell) (off := 55) (tgt := 62) dX10_cell_7 (by decide) (by decide) (by decide) (by decide) ?_
      refine sX10_cell_62 (sX10_cell_63 (by assumption) (by rfl) (sX10_cell_66 ⟨rfl, h, cF.rf⟩))
    · refine X_tableIn (M := mX10_cell) (off := 60) (tgt := 67) dX10_cell_7 (by decide) (by decide) (by decide) (by decide) ?_
      refine sX10_cell_67 (sX10_cell_68 (by assumption) (by rfl) (sX10_cell_71 (sX10_cell_72 hc.2.2.2.1 v0 (sX10_cell_73 ⟨rfl, h, cF.rf⟩))))
    · refine X_tableIn (M := mX10_cell) (off := 67) (tgt := 74) dX10_cell_7 (by decide) (by decide) (by decide) (by decide) ?_
      refine sX10_cell_74 (sX10_cell_75 (by assumption) (by rfl) (sX10_cell_78 (sX10_cell_79 hc.2.2.2.1 v1 (sX10_cell_80 ⟨rfl, h, cF.rf⟩))))
    · refine X_tableIn (M := mX10_cell) (off := 74) (tgt := 81) dX10_cell_7 (by decide) (by decide) (by decide) (by decide) ?_
      refine sX10_cell_81 (sX10_cell_82 (by assumption) (by rfl) (sX10_cell_85 (sX10_cell_86 hc.2.2.2.1 v2 (sX10_cell_87 ⟨rfl, h, cF.rf⟩))))
    · refine X_tableIn (M := mX10_cell) (off := 81) (tgt := 88) dX10_cell_7 (by decide) (by decide) (by decide) (by decide) ?_
      have hok : ∀ k, k < (L.cs j).ac → vp_in ((L.cs j).arcs (k * 5 + 0)) 6 ∧ vp_in ((L.cs j).arcs (k * 5 + 1)) 3 := by
        intro k hk
        obtain ⟨⟨a1, l1, g1⟩, ⟨a2, l2, g2⟩, _⟩ := wc.2.2.2.2.2.2.2.1 k hk
        have i6 := wc.1
        have o3 := wc.2.1
        exact ⟨by show vp_in ((L.cs j).arcs (k * 5)) 6; rw [g1]; exact vp_in_nI (by omega) (by omega), by rw [g2]; exact vp_in_nI (by omega) (by omega)⟩
      refine sX10_cell_88 (sX10_cell_89 (ble rfl) hC (c_disagreeing hC hc.2.2.2.2.2.2 hc.2.2.1 wb.2.2 hok) (sX10_cell_92 ⟨rfl, h, cF.rf⟩))
    · refine X_tableIn (M := mX10_cell) (off := 86) (tgt := 93) dX10_cell_7 (by decide) (by decide) (by decide) (by decide) ?_
      refine sX10_cell_93 (sX10_cell_94 (by assumption) (by rfl) (sX10_cell_97 ⟨rfl, h, cF.rf⟩))
  · refine X_tableOut (M := mX10_cell) (tgt := 98) dX10_cell_7 (by have := tI (by omega) hy; omega) (by decide) ?_
    have hy : ¬ (¬ y < 0 ∧ y < 8) := hy
    rw [show celV (L.cs j) y = .error 1 by unfold celV; rw [if_neg (by grind), if_neg (by grind), if_neg (by grind), if_neg (by grind), if_neg (by grind), if_neg (by grind), if_neg (by grind), if_neg (by grind)]]
    exact sX10_cell_98 (ble rfl) hr.1 hr.2 (kE (e := 1) h)
end RK
