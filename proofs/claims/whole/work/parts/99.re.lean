section RE
variable {w : xWd} {d : Nat} {P P1 P2 : xH} {b S n q k : Nat} {T : Nat → Int32} {t : tSt} {L : liT}
theorem r_sense (h : rP w P b S T n q t L) : xC w (d + 5) mX5_takeSense [.ref (b + 162)] P (rO w b S T n P (bnd (rSense (tkOf T n) q) (fun x => .ok (some (.int x.1), x.2, t, L)))) := by
  obtain ⟨hR, hW, _, _, _, _, _, _, hr, _⟩ := id h
  refine xC_of (by decide) (ble rfl) (ls := [some (.ref (b + 162)), none]) rfl ?_
  have A : ∀ v, v = sSe (tkOf T n) q → X w mX5_takeSense (d + 5) (rO w b S T n P (bnd (rSense (tkOf T n) q) (fun x => .ok (some (.int x.1), x.2, t, L)))) 35 [some (.ref (b + 162)), none] [.int v] P := by
    intro v hv
    have G : (¬ v = 0 ∨ ¬ sW T n q 24 = 0) → X w mX5_takeSense (d + 5) (rO w b S T n P (bnd (rSense (tkOf T n) q) (fun x => .ok (some (.int x.1), x.2, t, L)))) 53 [some (.ref (b + 162)), some (.int v)] [] P := by
      intro z
      rw [show rSense (tkOf T n) q = .ok (sSe (tkOf T n) q, sE T n q) from dmd_t (by rw [← hv]; exact z), ← hv]
      refine sX5_takeSense_53 (sX5_takeSense_54 (sX5_takeSense_58 (ble rfl) (c_dem1 (by decide)) (sX5_takeSense_61 (sX5_takeSense_62 (by assumption) (by rfl) (sX5_takeSense_65_r (ble rfl) hW (w_step h) (fun P1 h1 => ?_))))))
      refine sX5_takeSense_68 (sX5_takeSense_69 ⟨rfl, h1⟩)
    refine sX5_takeSense_35 rfl (sX5_takeSense_36 (sX5_takeSense_37 (fun z => ?_) (fun z => ?_)))
    · exact G (Or.inl z)
    · refine sX5_takeSense_40 (sX5_takeSense_41 (by assumption) (by rfl) (sX5_takeSense_44 (sX5_takeSense_47 (ble rfl) hW (w_is (i := 24) h (by decide)) (sX5_takeSense_50 (fun y => ?_) (fun y => ?_)))))
      · rw [show rSense (tkOf T n) q = .error (sS T n q) from dmd_f (by rw [← hv]; rintro (x | x); exact x z; exact x y)]
        refine sX5_takeSense_57 (sX5_takeSense_58_t (ble rfl) (c_dem0 hr) (rE.mk' h rF.rf))
      · exact G (Or.inr y)
  refine sX5_takeSense_0 (sX5_takeSense_1 (by assumption) (by rfl) (sX5_takeSense_4 (sX5_takeSense_7 (ble rfl) hW (w_is (i := 22) h (by decide)) (sX5_takeSense_10 (fun z => ?_) (fun z => ?_)))))
  · refine sX5_takeSense_17 (sX5_takeSense_18 (by assumption) (by rfl) (sX5_takeSense_21 (sX5_takeSense_24 (ble rfl) hW (w_is (i := 23) h (by decide)) (sX5_takeSense_27 (fun y => ?_) (fun y => ?_)))))
    · refine sX5_takeSense_34 ?_
      exact A 0 ((if_neg (fun x => x z)).trans (if_neg (fun x => x y))).symm
    · refine sX5_takeSense_30 (sX5_takeSense_31 ?_)
      exact A (-1) ((if_neg (fun x => x z)).trans (if_pos y)).symm
  · refine sX5_takeSense_13 (sX5_takeSense_14 ?_)
    exact A 1 (if_pos z).symm
theorem r_tak (h : rP w P b S T n q t L) : xC w (d + 2) mX5_takeTable [.ref (b + 162)] P (rO w b S T n P (bnd (rTak (tkOf T n) L q) (fun x => .ok (some (.int x.1), x.2, t, L)))) := by
  obtain ⟨hR, hW, _, _, hS, _, _, _, hr, _, hw⟩ := id h
  have hO := hS.1.1
  refine xC_of (by decide) (ble rfl) (ls := [some (.ref (b + 162)), none]) rfl ?_
  refine sX5_takeTable_0 (sX5_takeTable_1 (by assumption) (by rfl) (sX5_takeTable_4 (ble rfl) hW (w_name h) (sX5_takeTable_7 (sX5_takeTable_8 (by assumption) (by rfl) (sX5_takeTable_11 (by assumption) (by rfl) (sX5_takeTable_14 (sX5_takeTable_15 (by assumption) (by rfl) (sX5_takeTable_18 (by assumption) (by rfl) (sX5_takeTable_21 (ble rfl) (c_find L.tn _ hS.1.2.1 hw.1 (by omega)) (sX5_takeTable_24 rfl (sX5_takeTable_25 (sX5_takeTable_26 (sX5_takeTable_27 (fun z => ?_) (fun z => ?_))))))))))))))
  · rw [show rTak (tkOf T n) L q = .error (sS T n q) from dmd_f (fun y => y z)]
    refine sX5_takeTable_34 (sX5_takeTable_35_t (ble rfl) (c_dem0 hr) (rE.mk' h rF.rf))
  · rw [show rTak (tkOf T n) L q = .ok (fnd L.tn (sN T n q) 0 L.tc, sE T n q) from dmd_t z]
    refine sX5_takeTable_30 (sX5_takeTable_31 (sX5_takeTable_35 (ble rfl) (c_dem1 (by decide)) (sX5_takeTable_38 (sX5_takeTable_39 (by assumption) (by rfl) (sX5_takeTable_42_r (ble rfl) hW (w_step h) (fun P1 h1 => ?_))))))
    refine sX5_takeTable_45 (sX5_takeTable_46 ⟨rfl, h1⟩)
theorem r_arc {c : ceT} (hc : L.cs k = c) (hk : k < 12) (h : rP w P b S T n q t L) : xC w (d + 6) mX5_readArc [.ref (b + 162), .ref (S + 76 + 7 * k)] P (rO w b S T n P (bnd (rArc (tkOf T n) L c q) (fun x => .ok (none, x.2, t, upC L k x.1)))) := by
  obtain ⟨hR, hW, _, _, _, _, _, _, hr, _⟩ := id h
  obtain ⟨hp, hi, ho, ha⟩ := h.cell hk
  rw [hc] at hp hi ho ha
  obtain ⟨nm, pl, pins, i, o, tr, am, tl, pw, pt, arcs, ac⟩ := c
  have hi : i ≤ 6 := hi
  have ho : o ≤ 3 := ho
  have ha : ac ≤ 10 := ha
  have hO : P.1 (S + 76 + 7 * k) = some (cO (S + 76 + 7 * k) nm pl i o pt ac) := hp.1
  refine xC_of (by decide) (ble rfl) (ls := [some (.ref (b + 162)), some (.ref (S + 76 + 7 * k)), none, none, none, none, none]) rfl ?_
  rw [show rArc (tkOf T n) L (nm, pl, pins, i, o, tr, am, tl, pw, pt, arcs, ac) q = dmd (ac < 10) (sS T n q)
    (dmd (¬ fnd pins (sN T n (sE T n q)) 0 i = -1) (sS T n (sE T n q))
      (dmd (0 ≤ fnd pins (sN T n (sE T n (sE T n q))) 0 (i + o) - nI i ∧ hsA arcs (fnd pins (sN T n (sE T n q)) 0 i) (fnd pins (sN T n (sE T n (sE T n q))) 0 (i + o) - nI i) ac 0 = 0) (sS T n (sE T n (sE T n q)))
        (bnd (rSense (tkOf T n) (sE T n (sE T n (sE T n q)))) (fun x => bnd (rTak (tkOf T n) L x.2) (fun y => bnd (rTak (tkOf T n) L y.2) (fun z =>
          .ok ((nm, pl, pins, i, o, tr, am, tl, pw, pt, adA arcs ac (fnd pins (sN T n (sE T n q)) 0 i) (fnd pins (sN T n (sE T n (sE T n q))) 0 (i + o) - nI i) x.1 y.1 z.1, ac + 1), z.2))))))) from rfl]
  refine sX5_readArc_0 (sX5_readArc_1 (by assumption) (by rfl) (sX5_readArc_4 (sX5_readArc_6 (fun z => ?_) (fun z => ?_))))
  · have z : ¬ ac < 10 := fun y => absurd z (nI_ge (b := 10) y (by omega))
    rw [dmd_f z]
    refine sX5_readArc_13 (sX5_readArc_14_t (ble rfl) (c_dem0 hr) (rE.mk' h rF.rf))
  have z : ac < 10 := by
    rcases Nat.lt_or_ge ac 10 with y | y
    · exact y
    · exact absurd (nI_le (a := 10) y (by omega)) z
  rw [dmd_t z]
  refine sX5_readArc_9 (sX5_readArc_10 (sX5_readArc_14 (ble rfl) (c_dem1 (by decide)) (sX5_readArc_17 (sX5_readArc_18 (by assumption) (by rfl) (sX5_readArc_21_r (ble rfl) hW (w_step h) (fun P1 h1 => ?_))))))
  obtain ⟨h1, F1⟩ := h1
  generalize sE T n q = q1 at h1 ⊢
  obtain ⟨hR1, hW1, _, _, _, _, _, _, hr1, _⟩ := id h1
  obtain ⟨hp1, _⟩ := h1.cell hk
  rw [hc] at hp1
  have hO1 : P1.1 (S + 76 + 7 * k) = some (cO (S + 76 + 7 * k) nm pl i o pt ac) := hp1.1
  refine sX5_readArc_24 (sX5_readArc_25 (sX5_readArc_26 (by assumption) (by rfl) (sX5_readArc_29 (ble rfl) hW1 (w_name h1) (sX5_readArc_32 (ble rfl) hO1 (c_inputNamed (sN T n q1) hO1 hp1.2.1 hi) (sX5_readArc_35 rfl (sX5_readArc_36 (sX5_readArc_37 (sX5_readArc_38 (fun y => ?_) (fun y => ?_)))))))))
  · rw [dmd_f (fun x => x y)]
    refine sX5_readArc_45 (sX5_readArc_46_t (ble rfl) (c_dem0 hr1) (rE.mk' h1 F1))
  rw [dmd_t y]
  refine sX5_readArc_41 (sX5_readArc_42 (sX5_readArc_46 (ble rfl) (c_dem1 (by decide)) (sX5_readArc_49 (sX5_readArc_50 (by assumption) (by rfl) (sX5_readArc_53_r (ble rfl) hW1 (w_step h1) (fun P2 h2 => ?_))))))
  obtain ⟨h2, F2⟩ := h2
  have F02 := F1.tr F2
  have e0 : (nm, pl, pins, i, o, tr, am, tl, pw, pt, arcs, ac).2.2.1 = pins := rfl
  generalize sE T n q1 = q2 at h2 ⊢
  generalize hin : fnd pins (sN T n q1) 0 i = fi at y ⊢
  obtain ⟨hR2, hW2, _, _, _, _, _, _, hr2, _⟩ := id h2
  obtain ⟨hp2, _⟩ := h2.cell hk
  rw [hc] at hp2
  have hO2 : P2.1 (S + 76 + 7 * k) = some (cO (S + 76 + 7 * k) nm pl i o pt ac) := hp2.1
  refine sX5_readArc_56 (sX5_readArc_57 (sX5_readArc_58 (by assumption) (by rfl) (sX5_readArc_61 (ble rfl) hW2 (w_name h2) (sX5_readArc_64 (ble rfl) hO2 (c_pinNamed (sN T n q2) hO2 hp2.2.1 hi ho) (sX5_readArc_67 (sX5_readArc_68 (by assumption) (by rfl) (sX5_readArc_71 ?_)))))))
  show X w mX5_readArc (d + 6) _ 72 _ [.int (fnd pins (sN T n q2) 0 (i + o) - nI i)] P2
  generalize fnd pins (sN T n q2) 0 (i + o) - nI i = fo
  refine sX5_readArc_72 rfl (sX5_readArc_73 (sX5_readArc_74 (fun x => ?_) (fun x => ?_)))
  · rw [dmd_f (fun v => by have := v.1; grind)]
    refine sX5_readArc_90 (sX5_readArc_91_t (ble rfl) (c_dem0 hr2) (rE.mk' h2 F02))
  refine sX5_readArc_77 (sX5_readArc_78 (sX5_readArc_79 (sX5_readArc_80 (ble rfl) hO2 (c_hasArc fi fo hO2 hp2.2.2.2.2.2.2 ha) (sX5_readArc_83 (fun v => ?_) (fun v => ?_)))))
  · rw [dmd_f (fun u => v u.2)]
    refine sX5_readArc_90 (sX5_readArc_91_t (ble rfl) (c_dem0 hr2) (rE.mk' h2 F02))
  rw [dmd_t ⟨by grind, v⟩]
  refine sX5_readArc_86 (sX5_readArc_87 (sX5_readArc_91 (ble rfl) (c_dem1 (by decide)) (sX5_readArc_94 (sX5_readArc_95 (by assumption) (by rfl) (sX5_readArc_98_r (ble rfl) hW2 (w_step h2) (fun P3 h3 => ?_))))))
  obtain ⟨h3, F3⟩ := h3
  have F03 := F02.tr F3
  generalize sE T n q2 = q3 at h3 ⊢
  match g1 : rSense (tkOf T n) q3 with
  | .error s =>
    refine sX5_readArc_101 (sX5_readArc_102_g (ble rfl) h3.1 (rO_er (r_sense h3) (s := s) (by rw [g1]; rfl)) (fun _ _ z => (rE.no z).elim) (fun _ _ z => Xt_out rfl (z.up F03)))
  | .ok x1 =>
  refine sX5_readArc_101 (sX5_readArc_102_r (ble rfl) h3.1 (rO_ok (r_sense h3) (x := (some (.int x1.1), x1.2, t, L)) (by rw [g1]; rfl)) (fun P4 h4 => ?_))
  obtain ⟨h4, F4⟩ := h4
  have F04 := F03.tr F4
  have h4 : rP w P4 b S T n x1.2 t L := h4
  show X w mX5_readArc (d + 6) (rO w b S T n P (bnd (bnd (rTak (tkOf T n) L x1.2) (fun y => bnd (rTak (tkOf T n) L y.2) (fun z => .ok ((nm, pl, pins, i, o, tr, am, tl, pw, pt, adA arcs ac fi fo x1.1 y.1 z.1, ac + 1), z.2)))) (fun x => .ok (none, x.2, t, upC L k x.1)))) _ _ _ _
  match g2 : rTak (tkOf T n) L x1.2 with
  | .error s =>
    refine sX5_readArc_105 rfl (sX5_readArc_107 (sX5_readArc_108_g (ble rfl) h4.1 (rO_er (r_tak h4) (s := s) (by rw [g2]; rfl)) (fun _ _ z => (rE.no z).elim) (fun _ _ z => Xt_out rfl (z.up F04))))
  | .ok x2 =>
  refine sX5_readArc_105 rfl (sX5_readArc_107 (sX5_readArc_108_r (ble rfl) h4.1 (rO_ok (r_tak h4) (x := (some (.int x2.1), x2.2, t, L)) (by rw [g2]; rfl)) (fun P5 h5 => ?_)))
  obtain ⟨h5, F5⟩ := h5
  have F05 := F04.tr F5
  have h5 : rP w P5 b S T n x2.2 t L := h5
  show X w mX5_readArc (d + 6) (rO w b S T n P (bnd (bnd (rTak (tkOf T n) L x2.2) (fun z => .ok ((nm, pl, pins, i, o, tr, am, tl, pw, pt, adA arcs ac fi fo x1.1 x2.1 z.1, ac + 1), z.2))) (fun x => .ok (none, x.2, t, upC L k x.1)))) _ _ _ _
  match g3 : rTak (tkOf T n) L x2.2 with
  | .error s =>
    refine sX5_readArc_111 rfl (sX5_readArc_113 (sX5_readArc_114_g (ble rfl) h5.1 (rO_er (r_tak h5) (s := s) (by rw [g3]; rfl)) (fun _ _ z => (rE.no z).elim) (fun _ _ z => Xt_out rfl (z.up F05))))
  | .ok x3 =>
  refine sX5_readArc_111 rfl (sX5_readArc_113 (sX5_readArc_114_r (ble rfl) h5.1 (rO_ok (r_tak h5) (x := (some (.int x3.1), x3.2, t, L)) (by rw [g3]; rfl)) (fun P6 h6 => ?_)))
  obtain ⟨h6, F6⟩ := h6
  have F06 := F05.tr F6
  have h6 : rP w P6 b S T n x3.2 t L := h6
  obtain ⟨hp6, _⟩ := h6.cell hk
  rw [hc] at hp6
  refine sX5_readArc_117 rfl (sX5_readArc_119 (sX5_readArc_120 (sX5_readArc_121 (sX5_readArc_122 (sX5_readArc_124 (sX5_readArc_126 (sX5_readArc_128_r (ble rfl) hp6.1 (c_addArc fi fo x1.1 x2.1 x3.1 hp6 z) (fun P7 h7 => ?_))))))))
  obtain ⟨h8, F8⟩ := h6.ce (k := k) hk h7.1 h7.2 ⟨hi, ho, by show ac + 1 ≤ 10; omega⟩
  refine sX5_readArc_131 ⟨rfl, h8, F06.tr F8⟩
end RE
