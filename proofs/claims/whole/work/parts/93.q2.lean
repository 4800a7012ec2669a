section Q2
variable {w : xWd} {d o : Nat} {F : mF} {T : Nat → Int32} {n b : Nat} {L : liT}
theorem m_agrees {c a : Nat} {x : ceT} {tc : Nat} (hc : c < 24) (rc : celR F c x) (wc : wC tc x) (ha : a < x.ac) : yC w (d + 1) mX11_agrees [.ref o, .int (nI c), .int (nI a)] o F (yR (some (.int (agr x.arcs x.tr a))) F) := by
  obtain ⟨w1, w2, w3, w4, w5, w6, w7, w8, w9⟩ := id wc
  obtain ⟨⟨i, hi, ei⟩, ⟨u, hu, eu⟩, _, _⟩ := w8 a ha
  have r19 := rc.2.2.2.2.2.2.2.2.2.2.2.1
  have g0 : F.a 19 (50 * c + (a * 5)) = nI i := by rw [r19 (a * 5) (by omega)]; exact ei
  have g1 : F.a 19 (50 * c + (a * 5 + 1)) = nI u := by rw [r19 (a * 5 + 1) (by omega)]; exact eu
  have g2 : F.a 19 (50 * c + (a * 5 + 2)) = x.arcs (a * 5 + 2) := r19 (a * 5 + 2) (by omega)
  refine yC_of (by decide) (ble rfl) (ls := [some (.ref o), some (.int (nI c)), some (.int (nI a)), none, none, none]) rfl ?_
  refine yX11_agrees_0 (yX11_agrees_1 (yX11_agrees_3 (yX11_agrees_4 (yX11_agrees_5 (yX11_agrees_6 (yX11_agrees_7 ?_))))))
  rw [show (5 : Int32) * (10 * nI c + nI a) = nI (50 * c + a * 5) by rw [show (10 : Int32) * nI c + nI a = nI (10 * c + a) from ixm 10 _ _, show (5 : Int32) * nI (10 * c + a) = nI (5 * (10 * c + a)) from pk_mul 5 _]; congr 1; omega]
  refine yX11_agrees_8 rfl (yX11_agrees_9 (yX11_agrees_10 (yX11_agrees_13 (yX11_agrees_14 (yX11_agrees_15 (yX11_agrees_16 (yX11_agrees_17 (yX11_agrees_20 (yX11_agrees_21 (yX11_agrees_22 (yX11_agrees_23 (ble rfl) rfl (i := 50 * c + (a * 5 + 1)) (by rw [nI_1]; rfl) (by omega) ?_)))))))))))
  rw [g1]
  refine yX11_agrees_24 (yX11_agrees_25 (ble rfl) rfl (i := 3 * c + u) (ixm 3 _ _) (by omega) ?_)
  rw [rc.2.2.2.2.2.2.2.2.2.2.1 u hu]
  refine yX11_agrees_26 (yX11_agrees_27 (yX11_agrees_30 (yX11_agrees_31 (ble rfl) rfl (i := 50 * c + a * 5) rfl (by omega) ?_)))
  rw [g0]
  refine yX11_agrees_32 (yX11_agrees_33 (yX11_agrees_36 (yX11_agrees_37 (ble rfl) rfl (i := c) rfl hc ?_)))
  rw [rc.2.2.1]
  refine yX11_agrees_38 (ble rfl) (m_senseOf hi w1 (w9 u hu)) (yX11_agrees_41 rfl (yX11_agrees_43 (yX11_agrees_44 (yX11_agrees_47 (yX11_agrees_48 (yX11_agrees_49 (yX11_agrees_50 (ble rfl) rfl (i := 50 * c + (a * 5 + 2)) (nI_add _ 2) (by omega) ?_)))))))
  rw [g2]
  have ea : agr x.arcs x.tr a = if x.arcs (a * 5 + 2) = 0 ∨ sns (x.tr u) i = x.arcs (a * 5 + 2) ∨ sns (x.tr u) i = 2 then 1 else 0 := by
    unfold agr
    rw [show x.arcs (a * 5 + 0) = nI i from ei, eu, nI_clamp (by omega), nI_clamp (by omega)]
  rw [ea]
  generalize sns (x.tr u) i = z
  generalize x.arcs (a * 5 + 2) = z2
  refine yX11_agrees_51 rfl ?_
  refine yX11_agrees_53 (yX11_agrees_55 (fun h55 => ?_) (fun h55 => ?_))
  · refine yX11_agrees_71 (yX11_agrees_72 (yX11_agrees_76 (by first | exact Or.inl rfl | exact Or.inr rfl) ?_))
    refine ⟨?_, rfl⟩; simp_all
  · refine yX11_agrees_58 (yX11_agrees_60 (yX11_agrees_61 (fun h61 => ?_) (fun h61 => ?_)))
    · refine yX11_agrees_71 (yX11_agrees_72 (yX11_agrees_76 (by first | exact Or.inl rfl | exact Or.inr rfl) ?_))
      refine ⟨?_, rfl⟩; simp_all
    · refine yX11_agrees_64 (yX11_agrees_66 (yX11_agrees_68 (fun h68 => ?_) (fun h68 => ?_)))
      · refine yX11_agrees_75 (yX11_agrees_76 (by first | exact Or.inl rfl | exact Or.inr rfl) ?_)
        refine ⟨?_, rfl⟩; simp_all
      · refine yX11_agrees_71 (yX11_agrees_72 (yX11_agrees_76 (by first | exact Or.inl rfl | exact Or.inr rfl) ?_))
        refine ⟨?_, rfl⟩; simp_all
theorem q_sense (hz : mZ F T n b L) (k x y : Int32) : yC w (d + 1) mX11_sense [.ref o, .int k, .int x, .int y] o F (yR (some (.int (vI (aSense L k x y)))) (F.uS 0 (eN (aSense L k x y)))) := by
  refine yC_of (by decide) (ble rfl) (ls := [some (.ref o), some (.int k), some (.int x), some (.int y), none]) rfl ?_
  have E : ∀ z, aSense L k x y = .error 1 → Y w mX11_sense (d + 1) (yR (some (.int (vI (aSense L k x y)))) (F.uS 0 (eN (aSense L k x y)))) o 50 [some (.ref o), some (.int k), some (.int x), some (.int y), some (.int z)] [.ref o] F := by
    intro z e
    rw [e]
    refine yX11_sense_50 (yX11_sense_51 (yX11_sense_55 (yX11_sense_58 (yX11_sense_59 (yX11_sense_62 (fun h => absurd h n10) (fun _ => ?_))))))
    refine yX11_sense_65 (yX11_sense_66 (yX11_sense_91 ⟨rfl, rfl⟩))
  refine yX11_sense_0 (yX11_sense_2 (yX11_sense_3 (yX11_sense_6 (yX11_sense_7 (yX11_sense_8 (yX11_sense_9 rfl (yX11_sense_11 (yX11_sense_12 (yX11_sense_13 (yX11_sense_14 (ble rfl) (m_isCell hz k) (yX11_sense_17 (fun h6 => ?_) (fun h6 => ?_))))))))))))
  · exact E _ (if_neg (b1_0 h6))
  have h6 := b1_1 h6
  obtain ⟨j, hj, rfl⟩ := ix_of hz.cc h6
  obtain ⟨rc, wc, _, c24, hc, j31⟩ := hz.cell hj
  have w1 := wc.1
  have w2 := wc.2.1
  rw [hc]
  have e1 : aSense L (nI j) x y = if ix x (L.cs j).i then (if ix y (L.cs j).o then .ok (sns ((L.cs j).tr y.toNatClampNeg) x.toNatClampNeg) else .error 1) else .error 1 := by unfold aSense; rw [if_pos h6, nI_clamp j31]
  refine yX11_sense_20 (yX11_sense_21 (fun h10 => ?_) (fun h10 => ?_))
  · exact E _ (e1.trans (if_neg (fun z => z.1 h10)))
  refine yX11_sense_24 (yX11_sense_25 (yX11_sense_26 (yX11_sense_29 (yX11_sense_31 (ble rfl) rfl (i := 12 * b + j) rfl c24 ?_))))
  rw [rc.2.2.1]
  refine yX11_sense_32 (fun h11 => ?_) (fun h11 => ?_)
  · exact E _ (e1.trans (if_neg (fun z => by have := z.2; grind)))
  have hx : ix x (L.cs j).i := ⟨h10, by grind⟩
  refine yX11_sense_35 (yX11_sense_36 (fun h12 => ?_) (fun h12 => ?_))
  · exact E _ (e1.trans (by rw [if_pos hx, if_neg (fun z => z.1 h12)]))
  refine yX11_sense_39 (yX11_sense_40 (yX11_sense_41 (yX11_sense_44 (yX11_sense_46 (ble rfl) rfl (i := 12 * b + j) rfl c24 ?_))))
  rw [rc.2.2.2.1]
  refine yX11_sense_47 (fun h13 => ?_) (fun h13 => ?_)
  rotate_left
  · exact E _ (e1.trans (by rw [if_pos hx, if_neg (fun z => h13 z.2)]))
  have hy : ix y (L.cs j).o := ⟨h12, h13⟩
  rw [e1, if_pos hx, if_pos hy]
  obtain ⟨i, hi, rfl⟩ := ix_of (by omega) hx
  obtain ⟨u, hu, rfl⟩ := ix_of (by omega) hy
  rw [nI_clamp (by omega), nI_clamp (by omega)]
  refine yX11_sense_54 (yX11_sense_55 (yX11_sense_58 (yX11_sense_59 (yX11_sense_62 (fun _ => ?_) (fun h => absurd z00 h)))))
  refine yX11_sense_69 (yX11_sense_70 (yX11_sense_73 (yX11_sense_74 (yX11_sense_76 (yX11_sense_77 (yX11_sense_78 (yX11_sense_79 (ble rfl) rfl (i := 3 * (12 * b + j) + u) (ixm 3 _ _) (by omega) ?_)))))))
  rw [show (F.uS 0 0).l 17 (3 * (12 * b + j) + u) = (L.cs j).tr u from rc.2.2.2.2.2.2.2.2.2.2.1 u hu]
  refine yX11_sense_80 (yX11_sense_81 (yX11_sense_82 (yX11_sense_85 (yX11_sense_87 (ble rfl) rfl (i := 12 * b + j) rfl c24 ?_))))
  rw [show (F.uS 0 0).a 13 (12 * b + j) = nI (L.cs j).i from rc.2.2.1]
  refine yX11_sense_88 (ble rfl) (m_senseOf hi w1 (wc.2.2.2.2.2.2.2.2 u hu)) (yX11_sense_91 ⟨rfl, rfl⟩)
/-- whether there is such an arc -/
theorem m_isArc (hz : mZ F T n b L) (k a : Int32) : yC w (d + 1) mX11_isArc [.ref o, .int k, .int a] o F (yR (some (.int (if ix k L.cc ∧ ix a (L.cs k.toNatClampNeg).ac then 1 else 0))) F) := by
  refine yC_of (by decide) (ble rfl) (ls := [some (.ref o), some (.int k), some (.int a)]) rfl ?_
  refine yX11_isArc_0 (yX11_isArc_1 (yX11_isArc_2 (ble rfl) (m_isCell hz k) (yX11_isArc_5 (fun h6 => ?_) (fun h6 => ?_))))
  · refine yX11_isArc_34 (yX11_isArc_35 (Or.inl rfl) ⟨by rw [if_neg (fun z => b1_0 h6 z.1)], rfl⟩)
  have h6 := b1_1 h6
  obtain ⟨j, hj, rfl⟩ := ix_of hz.cc h6
  obtain ⟨rc, wc, _, c24, hc, j31⟩ := hz.cell hj
  rw [nI_clamp j31]
  refine yX11_isArc_8 (yX11_isArc_9 (fun h10 => ?_) (fun h10 => ?_))
  · refine yX11_isArc_34 (yX11_isArc_35 (Or.inl rfl) ⟨by rw [if_neg (fun z => z.2.1 h10)], rfl⟩)
  refine yX11_isArc_12 (yX11_isArc_13 (yX11_isArc_14 (yX11_isArc_17 (yX11_isArc_19 (yX11_isArc_20 (yX11_isArc_23 (yX11_isArc_24 (yX11_isArc_25 (yX11_isArc_26 (ble rfl) rfl (i := 12 * b + j) hc c24 ?_)))))))))
  rw [rc.2.2.2.2.1]
  refine yX11_isArc_27 (fun h11 => ?_) (fun h11 => ?_)
  · refine yX11_isArc_34 (yX11_isArc_35 (Or.inl rfl) ⟨by rw [if_neg (fun z => by have := z.2.2; grind)], rfl⟩)
  · refine yX11_isArc_30 (yX11_isArc_31 (yX11_isArc_35 (Or.inr rfl) ⟨by rw [if_pos ⟨h6, h10, by grind⟩], rfl⟩))
theorem q_arc (hz : mZ F T n b L) (k a x : Int32) : yC w (d + 2) mX11_arc [.ref o, .int k, .int a, .int x] o F (yR (some (.int (vI (aArc L k a x)))) (F.uS 0 (eN (aArc L k a x)))) := by
  refine yC_of (by decide) (ble rfl) (ls := [some (.ref o), some (.int k), some (.int a), some (.int x), none]) rfl ?_
  have E : aArc L k a x = .error 1 → Y w mX11_arc (d + 2) (yR (some (.int (vI (aArc L k a x)))) (F.uS 0 (eN (aArc L k a x)))) o 19 [some (.ref o), some (.int k), some (.int a), some (.int x), none] [.ref o] F := by
    intro e
    rw [e]
    refine yX11_arc_19 (yX11_arc_20 (yX11_arc_24 (yX11_arc_27 (yX11_arc_28 (yX11_arc_31 (fun h => absurd h n10) (fun _ => ?_))))))
    refine yX11_arc_34 (yX11_arc_35 ⟨rfl, rfl⟩)
  refine yX11_arc_0 (yX11_arc_1 (yX11_arc_2 (yX11_arc_3 (yX11_arc_4 (ble rfl) (m_isArc hz k a) (yX11_arc_7 (fun h6 => ?_) (fun h6 => ?_))))))
  · refine E ?_
    have h6 := b1_0 h6
    unfold aArc
    by_cases z : ix k L.cc
    · rw [if_pos z, if_neg (fun y => h6 ⟨z, y⟩)]
    · rw [if_neg z]
  obtain ⟨g6, g7⟩ := b1_1 h6
  obtain ⟨j, hj, rfl⟩ := ix_of hz.cc g6
  obtain ⟨rc, wc, _, c24, hc, j31⟩ := hz.cell hj
  have w3 := wc.2.2.1
  rw [nI_clamp j31] at g7
  obtain ⟨i, hi, rfl⟩ := ix_of (by omega) g7
  have e1 : aArc L (nI j) (nI i) x = if ix x 6 then (if x < 5 then .ok ((L.cs j).arcs (i * 5 + x.toNatClampNeg)) else .ok (agr (L.cs j).arcs (L.cs j).tr i)) else .error 1 := by unfold aArc; rw [if_pos g6, nI_clamp j31, if_pos g7, nI_clamp (by omega)]
  refine yX11_arc_10 (yX11_arc_11 (fun h10 => ?_) (fun h10 => ?_))
  · exact E (e1.trans (if_neg (fun z => z.1 h10)))
  refine yX11_arc_14 (yX11_arc_15 (yX11_arc_16 (fun h11 => ?_) (fun h11 => ?_)))
  rotate_left
  · exact E (e1.trans (if_neg (fun z => h11 (by have : x < 6 := z.2; grind))))
  have hx : ix x 6 := ⟨h10, by show x < 6; grind⟩
  rw [e1, if_pos hx]
  obtain ⟨q, hq, rfl⟩ := ix_of (by omega) hx
  rw [nI_clamp (by omega)]
  refine yX11_arc_23 (yX11_arc_24 (yX11_arc_27 (yX11_arc_28 (yX11_arc_31 (fun _ => ?_) (fun h => absurd z00 h)))))
  refine yX11_arc_36 (yX11_arc_38 (yX11_arc_39 (yX11_arc_42 (yX11_arc_43 (yX11_arc_44 ?_)))))
  rw [show (12 : Int32) * (F.uS 0 0).s 3 + nI j = nI (12 * b + j) from hc]
  refine yX11_arc_45 rfl (yX11_arc_47 (yX11_arc_48 (yX11_arc_49 (fun h12 => ?_) (fun h12 => ?_))))
  · rw [if_neg (by grind)]
    refine yX11_arc_71 (yX11_arc_72 (yX11_arc_74 (yX11_arc_75 (ble rfl) (m_agrees (F := F.uS 0 0) c24 rc wc hi) ?_)))
    have hag : agr (L.cs j).arcs (L.cs j).tr i = 0 ∨ agr (L.cs j).arcs (L.cs j).tr i = 1 := by unfold agr; split; exact Or.inr rfl; exact Or.inl rfl
    refine yX11_arc_78 (fun h13 => ?_) (fun h13 => ?_)
    · refine yX11_arc_85 (yX11_arc_86 ⟨congrArg (fun z => some (Value.int z)) h13.symm, rfl⟩)
    · refine yX11_arc_81 (yX11_arc_82 (yX11_arc_86 ⟨congrArg (fun z => some (Value.int z)) (hag.resolve_left h13).symm, rfl⟩))
  · rw [if_pos (by grind)]
    have hq5 : q < 5 := by
      rcases Nat.lt_or_ge q 5 with z | z
      · exact z
      · exact absurd (nI_le (a := 5) z (by omega)) h12
    refine yX11_arc_52 (yX11_arc_53 (yX11_arc_56 (yX11_arc_57 (yX11_arc_59 (yX11_arc_61 (yX11_arc_62 (yX11_arc_63 (yX11_arc_64 (yX11_arc_65 (yX11_arc_66 (yX11_arc_67 (ble rfl) rfl (i := 50 * (12 * b + j) + (i * 5 + q)) ?_ (by omega) (yX11_arc_68 (yX11_arc_86 ⟨congrArg (fun z => some (Value.int z)) (rc.2.2.2.2.2.2.2.2.2.2.2.1 (i * 5 + q) (by omega)), rfl⟩)))))))))))))
    rw [show (10 : Int32) * nI (12 * b + j) + nI i = nI (10 * (12 * b + j) + i) from ixm 10 _ _, show (5 : Int32) * nI (10 * (12 * b + j) + i) + nI q = nI (5 * (10 * (12 * b + j) + i) + q) from ixm 5 _ _]
    congr 1
    omega
theorem q_cell (hz : mZ F T n b L) (k x : Int32) : yC w (d + 2) mX11_cell [.ref o, .int k, .int x] o F (yR (some (.int (vI (aCell L k x)))) (F.uS 0 (eN (aCell L k x)))) := by
  refine yC_of (by decide) (ble rfl) (ls := [some (.ref o), some (.int k), some (.int x), none, none, none]) rfl ?_
  have E : aCell L k x = .error 1 → Y w mX11_cell (d + 2) (yR (some (.int (vI (aCell L k x)))) (F.uS 0 (eN (aCell L k x)))) o 19 [some (.ref o), some (.int k), some (.int x), none, none, none] [.ref o] F := by
    intro e
    rw [e]
    refine yX11_cell_19 (yX11_cell_20 (yX11_cell_24 (yX11_cell_27 (yX11_cell_28 (yX11_cell_31 (fun h => absurd h n10) (fun _ => ?_))))))
    refine yX11_cell_34 (yX11_cell_35 ⟨rfl, rfl⟩)
  refine yX11_cell_0 (yX11_cell_1 (yX11_cell_2 (yX11_cell_3 (ble rfl) (m_isCell hz k) (yX11_cell_6 (fun h6 => ?_) (fun h6 => ?_)))))
  · exact E (if_neg (b1_0 h6))
  have h6 := b1_1 h6
  obtain ⟨j, hj, rfl⟩ := ix_of hz.cc h6
  obtain ⟨rc, wc, _, c24, hc, j31⟩ := hz.cell hj
  have e1 : aCell L (nI j) x = celV (L.cs j) x := by unfold aCell; rw [if_pos h6, nI_clamp j31]
  have eE : ¬ ix x 8 → celV (L.cs j) x = .error 1 := by
    intro z
    have z : ¬ (¬ x < 0 ∧ x < 8) := z
    unfold celV
    rw [if_neg (by grind), if_neg (by grind), if_neg (by grind), if_neg (by grind), if_neg (by grind), if_neg (by grind), if_neg (by grind), if_neg (by grind)]
  refine yX11_cell_9 (yX11_cell_10 (fun h10 => ?_) (fun h10 => ?_))
  · exact E (e1.trans (eE (fun z => z.1 h10)))
  refine yX11_cell_13 (yX11_cell_14 (yX11_cell_16 (fun h11 => ?_) (fun h11 => ?_)))
  rotate_left
  · exact E (e1.trans (eE (fun z => h11 (by have : x < 8 := z.2; grind))))
  have hx : ix x 8 := ⟨h10, by show x < 8; grind⟩
  rw [e1]
  refine yX11_cell_23 (yX11_cell_24 (yX11_cell_27 (yX11_cell_28 (yX11_cell_31 (fun _ => ?_) (fun h => absurd z00 h)))))
  refine yX11_cell_36 (yX11_cell_38 (yX11_cell_39 (yX11_cell_42 (yX11_cell_43 (yX11_cell_44 ?_)))))
  rw [show (12 : Int32) * (F.uS 0 0).s 3 + nI j = nI (12 * b + j) from hc]
  unfold celV
  refine yX11_cell_45 rfl (yX11_cell_46 (yX11_cell_47 (fun h0 => ?_) (fun h0 => ?_)))
  rotate_left
  · rw [if_pos (by grind)]
    refine yX11_cell_50 (yX11_cell_51 (yX11_cell_54 (yX11_cell_55 (ble rfl) rfl (i := 12 * b + j) rfl c24 (yX11_cell_56 ⟨congrArg (fun z => some (Value.int z)) rc.2.2.1, rfl⟩))))
  rw [if_neg h0]
  refine yX11_cell_57 (yX11_cell_58 (yX11_cell_59 (fun h1 => ?_) (fun h1 => ?_)))
  rotate_left
  · rw [if_pos h1]
    refine yX11_cell_62 (yX11_cell_63 (yX11_cell_66 (yX11_cell_67 (ble rfl) rfl (i := 12 * b + j) rfl c24 (yX11_cell_68 ⟨congrArg (fun z => some (Value.int z)) rc.2.2.2.1, rfl⟩))))
  rw [if_neg h1]
  refine yX11_cell_69 (yX11_cell_70 (yX11_cell_71 (fun h2 => ?_) (fun h2 => ?_)))
  rotate_left
  · rw [if_pos h2]
    refine yX11_cell_74 (yX11_cell_75 (yX11_cell_78 (yX11_cell_79 (ble rfl) rfl (i := 12 * b + j) rfl c24 (yX11_cell_80 ⟨congrArg (fun z => some (Value.int z)) rc.2.2.2.2.1, rfl⟩))))
  rw [if_neg h2]
  refine yX11_cell_81 (yX11_cell_82 (yX11_cell_84 (fun h3 => ?_) (fun h3 => ?_)))
  rotate_left
  · obtain ⟨q, hq, rfl⟩ := ix_of (by omega) hx
    have hq6 : q < 6 := by
      rcases Nat.lt_or_ge q 6 with z | z
      · exact z
      · exact absurd (nI_le (a := 6) z (by omega)) h3
    have hq3 : 3 ≤ q := by
      rcases Nat.lt_or_ge q 3 with z | z
      · have : q = 0 ∨ q = 1 ∨ q = 2 := by omega
        rcases this with y | y | y
        · subst y; exact absurd rfl h0
        · subst y; exact absurd rfl h1
        · subst y; exact absurd rfl h2
      · exact z
    obtain ⟨p, rfl⟩ : ∃ p, q = 3 + p := ⟨q - 3, by omega⟩
    have ep : ∀ p, (p = 0 ∨ p = 1 ∨ p = 2) → (if nI (3 + p) = 3 then (Except.ok ((L.cs j).am 0) : Except Nat Int32) else if nI (3 + p) = 4 then .ok ((L.cs j).am 1) else if nI (3 + p) = 5 then .ok ((L.cs j).am 2) else if nI (3 + p) = 6 then .ok (dsg (L.cs j).arcs (L.cs j).tr (L.cs j).ac 0 0) else if nI (3 + p) = 7 then .ok (L.cs j).pl else .error 1) = .ok ((L.cs j).am p) := by
      intro p h
      rcases h with y | y | y <;> subst y <;> rfl
    rw [ep p (by omega)]
    refine yX11_cell_87 (yX11_cell_88 (yX11_cell_91 (yX11_cell_92 (yX11_cell_93 (yX11_cell_94 (yX11_cell_95 (yX11_cell_96 (yX11_cell_97 (yX11_cell_98 (ble rfl) rfl (i := 3 * (12 * b + j) + p) (by rw [show (3 : Int32) * nI (12 * b + j) = nI (3 * (12 * b + j)) from pk_mul 3 _, ← nI_add 3 p, ← nI_add (3 * (12 * b + j)) p]; show nI (3 * (12 * b + j)) + (3 + nI p) - 3 = _; grind) (by omega) (yX11_cell_99 ⟨congrArg (fun z => some (Value.int z)) (rc.2.2.2.2.2.2.2.1 p (by omega)), rfl⟩))))))))))
  rw [if_neg (by grind), if_neg (by grind), if_neg (by grind)]
  refine yX11_cell_100 (yX11_cell_101 (yX11_cell_103 (fun h7 => ?_) (fun h7 => ?_)))
  rotate_left
  · rw [if_neg (by grind), if_pos h7]
    refine yX11_cell_106 (yX11_cell_107 (yX11_cell_110 (yX11_cell_111 (ble rfl) rfl (i := 12 * b + j) rfl c24 (yX11_cell_112 ⟨congrArg (fun z => some (Value.int z)) rc.2.1, rfl⟩))))
  rw [if_pos (by have : x < 8 := hx.2; grind)]
  have Lp : ∀ m a (v : Int32), a + m = (L.cs j).ac → Y w mX11_cell (d + 2) (yR (some (.int (dsg (L.cs j).arcs (L.cs j).tr m a v))) (F.uS 0 0)) o 119 [some (.ref o), some (.int (nI j)), some (.int x), some (.int (nI (12 * b + j))), some (.int v), some (.int (nI a))] [] (F.uS 0 0) := by
    have w3 := wc.2.2.1
    intro m
    induction m with
    | zero =>
      intro a v ha
      refine yX11_cell_119 (yX11_cell_121 (yX11_cell_122 (yX11_cell_125 (yX11_cell_126 (ble rfl) rfl (i := 12 * b + j) rfl c24 ?_))))
      rw [show (F.uS 0 0).a 18 (12 * b + j) = nI (L.cs j).ac from rc.2.2.2.2.1]
      refine yX11_cell_127 (fun _ => ?_) (fun h9 => absurd (nI_le (by omega) (by omega)) h9)
      refine yX11_cell_156 (yX11_cell_158 ⟨rfl, rfl⟩)
    | succ m ih =>
      intro a v ha
      refine yX11_cell_119 (yX11_cell_121 (yX11_cell_122 (yX11_cell_125 (yX11_cell_126 (ble rfl) rfl (i := 12 * b + j) rfl c24 ?_))))
      rw [show (F.uS 0 0).a 18 (12 * b + j) = nI (L.cs j).ac from rc.2.2.2.2.1]
      refine yX11_cell_127 (fun h9 => absurd h9 (nI_ge (by omega) (by omega))) (fun _ => ?_)
      refine yX11_cell_130 (yX11_cell_132 (yX11_cell_133 (yX11_cell_134 (yX11_cell_136 (ble rfl) (m_agrees (F := F.uS 0 0) c24 rc wc (by omega)) (yX11_cell_139 (fun h9 => ?_) (fun h9 => ?_))))))
      · refine yX11_cell_146 (yX11_cell_147 (yX11_cell_148 rfl (yX11_cell_150 rfl (yX11_cell_153 ?_))))
        rw [nI_1, show dsg (L.cs j).arcs (L.cs j).tr (m + 1) a v = dsg (L.cs j).arcs (L.cs j).tr m (a + 1) (v + 1) by simp [dsg, h9]]
        exact ih (a + 1) (v + 1) (by omega)
      · refine yX11_cell_142 (yX11_cell_143 (yX11_cell_147 (yX11_cell_148 rfl (yX11_cell_150 rfl (yX11_cell_153 ?_)))))
        rw [nI_1, show dsg (L.cs j).arcs (L.cs j).tr (m + 1) a v = dsg (L.cs j).arcs (L.cs j).tr m (a + 1) v by simp [dsg, h9], show v + 0 = v by grind]
        exact ih (a + 1) v (by omega)
  refine yX11_cell_113 (yX11_cell_114 rfl (yX11_cell_116 (yX11_cell_117 rfl ?_)))
  exact Lp _ 0 0 (by omega)
theorem q_letter (hz : mZ F T n b L) (k p i : Int32) : yC w (d + 1) mX11_letter [.ref o, .int k, .int p, .int i] o F (yR (some (.int (vI (aLetter L k p i)))) (F.uS 0 (eN (aLetter L k p i)))) := by
  refine yC_of (by decide) (ble rfl) (ls := [some (.ref o), some (.int k), some (.int p), some (.int i), none, none, none, none]) rfl ?_
  have E : ∀ z, aLetter L k p i = .error 1 → Y w mX11_letter (d + 1) (yR (some (.int (vI (aLetter L k p i)))) (F.uS 0 (eN (aLetter L k p i)))) o 48 [some (.ref o), some (.int k), some (.int p), some (.int i), some (.int z), none, none, none] [.ref o] F := by
    intro z e
    rw [e]
    refine yX11_letter_48 (yX11_letter_49 (yX11_letter_53 (yX11_letter_56 (yX11_letter_57 (yX11_letter_60 (fun h => absurd h n10) (fun _ => ?_))))))
    refine yX11_letter_63 (yX11_letter_64 ⟨rfl, rfl⟩)
  refine yX11_letter_0 (yX11_letter_2 (yX11_letter_3 (yX11_letter_6 (yX11_letter_7 (yX11_letter_8 (yX11_letter_9 rfl (yX11_letter_11 (yX11_letter_12 (yX11_letter_13 (yX11_letter_14 (ble rfl) (m_isCell hz k) (yX11_letter_17 (fun h6 => ?_) (fun h6 => ?_))))))))))))
  · exact E _ (if_neg (b1_0 h6))
  have h6 := b1_1 h6
  obtain ⟨j, hj, rfl⟩ := ix_of hz.cc h6
  obtain ⟨rc, wc, _, c24, hc, j31⟩ := hz.cell hj
  have w1 := wc.1
  have w2 := wc.2.1
  rw [hc]
  have e1 : aLetter L (nI j) p i = (if p = -1 ∨ ix p ((L.cs j).i + (L.cs j).o) then (if 0 ≤ i then .ok (chO (if p = -1 then (L.cs j).nm else (L.cs j).pins p.toNatClampNeg) i) else .error 1) else .error 1) := by unfold aLetter; rw [if_pos h6, nI_clamp j31]
  refine yX11_letter_20 (yX11_letter_21 (yX11_letter_22 (fun h10 => ?_) (fun h10 => ?_)))
  · exact E _ (e1.trans (if_neg (fun z => by
      rcases z with z | z
      · grind
      · have := z.1; grind)))
  refine yX11_letter_25 (yX11_letter_26 (yX11_letter_27 (yX11_letter_30 (yX11_letter_32 (ble rfl) rfl (i := 12 * b + j) rfl c24 (yX11_letter_33 (yX11_letter_34 (yX11_letter_37 (yX11_letter_39 (ble rfl) rfl (i := 12 * b + j) rfl c24 ?_))))))))
  rw [rc.2.2.1, rc.2.2.2.1]
  refine yX11_letter_40 ?_
  rw [nI_add]
  refine yX11_letter_41 (fun h11 => ?_) (fun h11 => ?_)
  · refine E _ (e1.trans (if_neg (fun z => ?_)))
    rcases z with z | z
    · have : nI 0 ≤ nI ((L.cs j).i + (L.cs j).o) := nI_le (Nat.zero_le _) (by omega)
      have : (0 : Int32) ≤ nI ((L.cs j).i + (L.cs j).o) := this
      grind
    · have := z.2; grind
  have hp : p = -1 ∨ ix p ((L.cs j).i + (L.cs j).o) := by
    by_cases z : p = -1
    · exact Or.inl z
    · exact Or.inr ⟨by grind, by grind⟩
  refine yX11_letter_44 (yX11_letter_45 (fun h12 => ?_) (fun h12 => ?_))
  rotate_left
  · exact E _ (e1.trans (by rw [if_pos hp, if_neg h12]))
  rw [e1, if_pos hp, if_pos h12]
  clear E e1
  refine yX11_letter_52 (yX11_letter_53 (yX11_letter_56 (yX11_letter_57 (yX11_letter_60 (fun _ => ?_) (fun h => absurd z00 h)))))
  have G : ∀ x : Int64, Y w mX11_letter (d + 1) (yR (some (.int (chO x i))) (F.uS 0 0)) o 129 [some (.ref o), some (.int (nI j)), some (.int p), some (.int i), some (.int (nI (12 * b + j))), none, none, none] [.long x] (F.uS 0 0) := by
    intro x
    have H : ∀ c : Int32, c = (if i < 8 then ((x.toUInt64 >>> (((8 : Int32) * (7 - i)).toInt64.toUInt64 &&& Int64.toUInt64 63)).toInt64.toInt32 &&& 255) else 0) → Y w mX11_letter (d + 1) (yR (some (.int (chO x i))) (F.uS 0 0)) o 156 [some (.ref o), some (.int (nI j)), some (.int p), some (.int i), some (.int (nI (12 * b + j))), some (.long x), none, none] [.int c] (F.uS 0 0) := by
      intro c hc
      have ec : chO x i = if c = 0 then -1 else c := by unfold chO; rw [← hc]
      rw [ec]
      refine yX11_letter_156 rfl (yX11_letter_158 (yX11_letter_160 (fun h => ?_) (fun h => ?_)))
      · refine yX11_letter_167 (yX11_letter_169 ⟨by rw [if_neg h], rfl⟩)
      · refine yX11_letter_163 (yX11_letter_164 (yX11_letter_169 ⟨by rw [if_pos h], rfl⟩))
    refine yX11_letter_129 rfl (yX11_letter_131 (yX11_letter_132 (yX11_letter_134 (fun h => ?_) (fun h => ?_))))
    · refine yX11_letter_155 ?_
      exact H 0 (by rw [if_neg (by grind)])
    · obtain ⟨q, hq, rfl⟩ := ix_of (k := i) (n := 8) (by omega) ⟨by grind, by show i < 8; grind⟩
      refine yX11_letter_137 (yX11_letter_139 (yX11_letter_141 (yX11_letter_143 (yX11_letter_144 (yX11_letter_145 (yX11_letter_146 (yX11_letter_147 (yX11_letter_150 (yX11_letter_151 (yX11_letter_152 ?_))))))))))
      exact H _ (by rw [if_pos (by grind)]; exact ch_eq x hq)
  refine yX11_letter_65 (yX11_letter_66 (yX11_letter_67 (fun h13 => ?_) (fun h13 => ?_)))
  rotate_left
  · rw [if_pos h13]
    refine yX11_letter_70 (yX11_letter_71 (yX11_letter_74 (yX11_letter_76 (ble rfl) rfl (i := 12 * b + j) rfl c24 (yX11_letter_77 ?_))))
    rw [show (F.uS 0 0).l 10 (12 * b + j) = (L.cs j).nm from rc.1]
    exact G _
  rw [if_neg h13]
  have hp := hp.resolve_left h13
  obtain ⟨q, hq, rfl⟩ := ix_of (by omega) hp
  rw [nI_clamp (by omega)]
  refine yX11_letter_80 (yX11_letter_81 (yX11_letter_82 (yX11_letter_85 (yX11_letter_87 (ble rfl) rfl (i := 12 * b + j) rfl c24 ?_))))
  rw [show (F.uS 0 0).a 13 (12 * b + j) = nI (L.cs j).i from rc.2.2.1]
  refine yX11_letter_88 (fun h14 => ?_) (fun h14 => ?_)
  · have h14 : (L.cs j).i ≤ q := (nI_leI (by omega) (by omega)).mp h14
    obtain ⟨r, rfl⟩ : ∃ r, q = (L.cs j).i + r := ⟨q - (L.cs j).i, by omega⟩
    refine yX11_letter_106 (yX11_letter_107 (yX11_letter_110 (yX11_letter_112 (yX11_letter_114 (yX11_letter_115 (yX11_letter_117 (yX11_letter_118 (yX11_letter_119 (yX11_letter_120 (yX11_letter_121 (yX11_letter_124 (yX11_letter_126 (ble rfl) rfl (i := 12 * b + j) rfl c24 ?_))))))))))))
    rw [show (F.uS 0 0).a 13 (12 * b + j) = nI (L.cs j).i from rc.2.2.1]
    have ei : (9 : Int32) * nI (12 * b + j) + 6 + nI ((L.cs j).i + r) - nI (L.cs j).i = nI (9 * (12 * b + j) + 6 + r) := by
      rw [show (9 : Int32) * nI (12 * b + j) + 6 = nI (9 * (12 * b + j) + 6) from ixm 9 _ 6, ← nI_add (L.cs j).i r, ← nI_add (9 * (12 * b + j) + 6) r]
      grind
    refine yX11_letter_127 (yX11_letter_128 (ble rfl) rfl (i := 9 * (12 * b + j) + 6 + r) ei (by omega) ?_)
    rw [show (F.uS 0 0).l 12 (9 * (12 * b + j) + 6 + r) = (L.cs j).pins ((L.cs j).i + r) from rc.2.2.2.2.2.2.1 r (by omega)]
    exact G _
  · have h14 : q < (L.cs j).i := by
      rcases Nat.lt_or_ge q (L.cs j).i with z | z
      · exact z
      · exact absurd (nI_le z (by omega)) h14
    refine yX11_letter_91 (yX11_letter_92 (yX11_letter_95 (yX11_letter_97 (yX11_letter_99 (yX11_letter_100 (yX11_letter_101 (yX11_letter_102 (ble rfl) rfl (i := 9 * (12 * b + j) + q) (ixm 9 _ _) (by omega) (yX11_letter_103 ?_))))))))
    rw [show (F.uS 0 0).l 12 (9 * (12 * b + j) + q) = (L.cs j).pins q from rc.2.2.2.2.2.1 q h14]
    exact G _
end Q2
