section RJ
variable {w : xWd} {d : Nat} {P P1 P2 : xH} {b S S' n q k : Nat} {T : Nat → Int32} {t : tSt} {L L2 : liT} {f : Nat → Int32}
theorem c_match {m a1 a2 mi : Nat} {c1 c2 : ceT} {v0 : Int32} {sf : Nat → Int32} {p1 p2 : Nat → Int64} {tc : Nat} (h : P.1 m = some (xO 2 [.ref (m + 1), .ref (m + 2), .ref (m + 3), .int v0])) (h1 : P.1 (m + 1) = some (xA 0 6 sf)) (h2 : P.1 (m + 2) = some (xJ 128 p1)) (h3 : P.1 (m + 3) = some (xJ 128 p2)) (hc1 : pC P a1 c1) (hc2 : pC P a2 c2) (d1 : a1 + 6 < m ∨ m + 3 < a1) (d2 : a2 + 6 < m ∨ m + 3 < a2) (w1 : wC tc c1) (w2 : wC tc c2) (o1 : 0 < c1.o) (o2 : 0 < c2.o) :
    xC w (d + 15) mX3_match [.ref m, .ref a1, .ref a2] P (fun oc P' => oc = .returned (some (.int (mtB c1 c2))) ∧ same P P' m (m + 4) ∧ ∃ v1 sf' p1' p2', P'.1 m = some (xO 2 [.ref (m + 1), .ref (m + 2), .ref (m + 3), .int v1]) ∧ P'.1 (m + 1) = some (xA 0 6 sf') ∧ P'.1 (m + 2) = some (xJ 128 p1') ∧ P'.1 (m + 3) = some (xJ 128 p2') ∧ ∀ v, mtc c1 c2 = some v → ∀ j, j < c1.i → sf' j = nI (v j)) := by
  have i6 := w1.1
  have i6' := w2.1
  have hx := within_bt i6 (w1.2.2.2.2.2.2.2.2 0 o1)
  have hy := within_bt i6' (w2.2.2.2.2.2.2.2.2 0 o2)
  have hO1 := hc1.1
  have hO2 := hc2.1
  refine xC_of (by decide) (ble rfl) (ls := [some (.ref m), some (.ref a1), some (.ref a2), none]) rfl ?_
  refine sX3_match_0 (sX3_match_1 (by assumption) (by rfl) (sX3_match_4 (sX3_match_5 (by assumption) (by rfl) (sX3_match_8 (fun z => ?_) (fun z => ?_)))))
  rotate_left
  · have hne : c1.i ≠ c2.i := fun y => z (by rw [y])
    obtain ⟨e1, e2⟩ := fR_mt (a := c1) (c := c2) (z := 0) (f := sf) (Or.inr ⟨rfl, Or.inl hne⟩)
    refine sX3_match_11 (sX3_match_12 (Or.inl rfl) ⟨by rw [← e1], same.rf, v0, sf, p1, p2, h, h1, h2, h3, e2⟩)
  have hi : c1.i = c2.i := (nI_eq (by omega) (by omega)).mp z
  rw [← hi] at hy
  have key : ∀ z sf', fR c1.i c1.i (c1.tr 0) (c2.tr 0) z sf' → z = mtB c1 c2 ∧ ∀ v, mtc c1 c2 = some v → ∀ j, j < c1.i → sf' j = nI (v j) := fun z sf' hf => fR_mt (by rw [← hi]; exact hf)
  have v1 : vp_in (1 : Int32) 128 := vp_in_nI (n := 1) (by omega) (by omega)
  have v0' : vp_in (0 : Int32) 3 := vp_in_nI (n := 0) (by omega) (by omega)
  refine sX3_match_13 (sX3_match_14 (sX3_match_15 (by assumption) (by rfl) (sX3_match_18 h (ble rfl) ?_)))
  show X w mX3_match (d + 15) _ 21 _ [] (xs P m (xO 2 [.ref (m + 1), .ref (m + 2), .ref (m + 3), .int (nI c1.i)]))
  have K0 : ∀ {a : Nat} {o : Option xE}, a ≠ m → P.1 a = o → (xs P m (xO 2 [.ref (m + 1), .ref (m + 2), .ref (m + 3), .int (nI c1.i)])).1 a = o := fun ha e => xs_n ha e
  have A0 : mP (xs P m (xO 2 [.ref (m + 1), .ref (m + 2), .ref (m + 3), .int (nI c1.i)])) m c1.i sf p1 p2 := ⟨xs_s, K0 (by omega) h1, K0 (by omega) h2, K0 (by omega) h3⟩
  have S0 : same P (xs P m (xO 2 [.ref (m + 1), .ref (m + 2), .ref (m + 3), .int (nI c1.i)])) m (m + 4) := same.rf.xs (by omega) (by omega)
  generalize xs P m (xO 2 [.ref (m + 1), .ref (m + 2), .ref (m + 3), .int (nI c1.i)]) = P0 at A0 S0 ⊢
  have t1 := S0.get (q := a1 + 2) (by omega) hc1.2.2.1
  have b1 := S0.get (q := a1) (by omega) hO1
  have A0h := A0.1
  refine sX3_match_21 (sX3_match_22 (by assumption) (by rfl) (sX3_match_25 (sX3_match_26 (sX3_match_27 (by assumption) (by rfl) (sX3_match_30 (sX3_match_31 t1 v0' (sX3_match_32 A0.2.2.1 v1 ?_)))))))
  show X w mX3_match (d + 15) _ 33 _ [] (xs P0 (m + 2) (xJ 128 (vp_updL p1 1 (c1.tr 0))))
  have A1 := A0.s2 (g := vp_updL p1 1 (c1.tr 0))
  have S1 : same P (xs P0 (m + 2) (xJ 128 (vp_updL p1 1 (c1.tr 0)))) m (m + 4) := S0.xs (by omega) (by omega)
  have q1 : vp_updL p1 1 (c1.tr 0) 1 = c1.tr 0 := pk_uLs
  generalize vp_updL p1 1 (c1.tr 0) = g1 at A1 S1 q1 ⊢
  generalize xs P0 (m + 2) (xJ 128 g1) = P1 at A1 S1 ⊢
  have t2 := S1.get (q := a2 + 2) (by omega) hc2.2.2.1
  have b2 := S1.get (q := a2) (by omega) hO2
  have A1h := A1.1
  refine sX3_match_33 (sX3_match_34 (by assumption) (by rfl) (sX3_match_37 (sX3_match_38 (sX3_match_39 (by assumption) (by rfl) (sX3_match_42 (sX3_match_43 t2 v0' (sX3_match_44 A1.2.2.2 v1 ?_)))))))
  show X w mX3_match (d + 15) _ 45 _ [] (xs P1 (m + 3) (xJ 128 (vp_updL p2 1 (c2.tr 0))))
  have A2 := A1.s3 (g := vp_updL p2 1 (c2.tr 0))
  have S2 : same P (xs P1 (m + 3) (xJ 128 (vp_updL p2 1 (c2.tr 0)))) m (m + 4) := S1.xs (by omega) (by omega)
  have q2 : vp_updL p2 1 (c2.tr 0) 1 = c2.tr 0 := pk_uLs
  generalize vp_updL p2 1 (c2.tr 0) = g2 at A2 S2 q2 ⊢
  generalize xs P1 (m + 3) (xJ 128 g2) = P2 at A2 S2 ⊢
  have A2h := A2.1
  refine sX3_match_45 (sX3_match_46 (by assumption) (by rfl) (sX3_match_49 (sX3_match_50 A2.2.2.1 v1 (sX3_match_51 (ble rfl) (c_bitCount _) (sX3_match_54 (sX3_match_55 (by assumption) (by rfl) (sX3_match_58 (sX3_match_59 A2.2.2.2 v1 (sX3_match_60 (ble rfl) (c_bitCount _) ?_)))))))))
  show X w mX3_match (d + 15) _ 63 _ [.int (bitc (g2 1)), .int (bitc (g1 1))] P2
  rw [q1, q2]
  have aC0 : ∀ v, aC (c1.tr 0) (c2.tr 0) v 0 ↔ pc (c1.tr 0) = pc (c2.tr 0) := fun v => ⟨fun h => h 0 (by decide), fun h i _ => h⟩
  have GDc : ∀ v, GD c1.i (c1.tr 0) (c2.tr 0) v ↔ Cd c1.i (c1.tr 0) (c2.tr 0) 0 v ∧ pc (c1.tr 0) = pc (c2.tr 0) := by
    intro v
    constructor
    · intro g
      have := (aC_ck c1.i).mp ((GD_aC i6 hx hy g.1 g.2.1).mp g)
      exact ⟨⟨g.1, g.2.1, fun l _ hl => this.2 l hl⟩, (aC0 v).mp this.1⟩
    · rintro ⟨g, e⟩
      exact (GD_aC i6 hx hy g.1 g.2.1).mpr ((aC_ck c1.i).mpr ⟨(aC0 v).mpr e, fun l hl => g.2.2 l (Nat.zero_le _) hl⟩)
  refine sX3_match_63 (fun z => ?_) (fun z => ?_)
  rotate_left
  · obtain ⟨e1, e2⟩ := key 0 sf (Or.inr ⟨rfl, Or.inr (fun v g => z ((bitc_eq _ _).mpr ((GDc v).mp g).2))⟩)
    exact sX3_match_66 (sX3_match_67 (Or.inl rfl) ⟨by rw [← e1], S2, nI c1.i, sf, g1, g2, A2.1, A2.2.1, A2.2.2.1, A2.2.2.2, e2⟩)
  have hpc := (bitc_eq _ _).mp z
  have Lp : ∀ r k g (P3 : xH), k + r = c1.i → mP P3 m c1.i sf g g2 → same P P3 m (m + 4) → aP g id (c1.tr 0) k → X w mX3_match (d + 15) (fun oc P' => oc = .returned (some (.int (mtB c1 c2))) ∧ same P P' m (m + 4) ∧ ∃ v1 sf' p1' p2', P'.1 m = some (xO 2 [.ref (m + 1), .ref (m + 2), .ref (m + 3), .int v1]) ∧ P'.1 (m + 1) = some (xA 0 6 sf') ∧ P'.1 (m + 2) = some (xJ 128 p1') ∧ P'.1 (m + 3) = some (xJ 128 p2') ∧ ∀ v, mtc c1 c2 = some v → ∀ j, j < c1.i → sf' j = nI (v j)) 70 [some (.ref m), some (.ref a1), some (.ref a2), some (.int (nI k))] [] P3 := by
    intro r
    induction r with
    | zero =>
      intro k g P3 hk A3 S3 ap
      obtain rfl : k = c1.i := by omega
      have A3h := A3.1
      refine sX3_match_70 (sX3_match_71 (sX3_match_72 (by assumption) (by rfl) (sX3_match_75 (fun _ => ?_) (fun z => absurd (Int32.le_refl _) z))))
      have pl := c_place' (w := w) (d := d + 14 - 2 * c1.i - 2) (m := m) (x := c1.tr 0) (y := c2.tr 0) i6 c1.i 0 0 (fun _ => 0) sf g g2 P3 (by omega) A3 (fun j hj => by omega) (fun j _ hj => by omega) ⟨by omega, fun p => ⟨fun z => by simp at z, fun ⟨j, z, _⟩ => by omega⟩⟩ ap (fun l hl i hi => by
        obtain rfl : l = 0 := by omega
        have hi : i < 1 := hi
        obtain rfl : i = 0 := by omega
        exact q2)
      rw [show d + 14 - 2 * c1.i - 2 + 2 * c1.i + 2 = d + 14 by omega] at pl
      refine sX3_match_93 (sX3_match_94 (sX3_match_95 (sX3_match_96_g (ble rfl) A3h pl (fun _ P7 q => ?_) (fun q9 P7 q => by obtain ⟨z, _, _, q, _⟩ := q; cases q))))
      obtain ⟨z2, sf2, g5, q, h4, hs4, _, _, f3⟩ := q
      cases q
      have hz2 : z2 = 0 ∨ z2 = 1 := by rcases f3 with q | q; exact Or.inr q.1; exact Or.inl q.1
      obtain ⟨e1, e2⟩ := key z2 sf2 (by
        rcases f3 with ⟨c1', v, _, c3, c4, c5⟩ | ⟨c1', c2'⟩
        · exact Or.inl ⟨c1', rfl, v, ⟨(GDc v).mpr ⟨c4, hpc⟩, fun v' g z => c5 v' (fun j hj => by omega) ((GDc v').mp g).1 z⟩, c3⟩
        · exact Or.inr ⟨c1', Or.inr (fun v g => c2' v (fun j hj => by omega) ((GDc v).mp g).1)⟩)
      exact sX3_match_99 hz2 ⟨by rw [← e1], S3.tr (hs4.wide (by omega) (by omega)), nI c1.i, sf2, g, g5, h4.1, h4.2.1, h4.2.2.1, h4.2.2.2, e2⟩
    | succ r ih =>
      intro k g P3 hk A3 S3 ap
      have A3h := A3.1
      refine sX3_match_70 (sX3_match_71 (sX3_match_72 (by assumption) (by rfl) (sX3_match_75 (fun z => absurd z (nI_ge (by omega) (by omega))) (fun _ => ?_))))
      refine sX3_match_78 (sX3_match_79 (by assumption) (by rfl) (sX3_match_82 (sX3_match_83 (sX3_match_84_g (ble rfl) (c_split A3.2.2.1 (by omega) (by omega)) (fun _ P8 q => ?_) (fun q9 P8 q => by cases q.1)))))
      obtain ⟨q, g4, rfl, s1, s2⟩ := q
      cases q
      refine sX3_match_87 rfl (sX3_match_90 ?_)
      rw [nI_1]
      exact ih (k + 1) g4 _ (by omega) (A3.s2) (S3.xs (by omega) (by omega)) (aP_split ap s1 s2)
  refine sX3_match_68 (sX3_match_69 rfl ?_)
  exact Lp c1.i 0 g1 P2 (by omega) A2 S2 (fun l hl i hi => by
    obtain rfl : l = 0 := by omega
    have hi : i < 1 := hi
    obtain rfl : i = 0 := by omega
    exact q1)
end RJ
