section RL'
variable {w : xWd} {d : Nat} {P P1 P2 : xH} {b S S' n q k : Nat} {T : Nat → Int32} {t : tSt} {L L2 : liT} {f f' : Nat → Int32}
theorem lt14 {n : Nat} (h : n ≤ 1400) : nI n < 1400 ↔ n < 1400 := by
  rw [Int32.lt_iff_toInt_lt, nI_t (by omega), show (1400 : Int32).toInt = 1400 from rfl]
  omega
theorem may_c {u : Int32} (h : ¬ bMay u = 0) : ∃ c : Nat, c ≤ 126 ∧ u = nI c := by
  have h1 : 10 ≤ u ∧ u ≤ 126 := by
    unfold bMay at h
    grind
  obtain ⟨j, h2, h3⟩ := nI_of2 (x := u) (M := 126) (n := 126) (by decide) (by grind) h1.2
  exact ⟨j, h2, h3⟩
theorem cZ.tp {T1 : Nat → Int32} {n1 : Nat} (h : cZ P b S S' T n L t L2 f) (hn : n1 ≤ 1400) (h0 : P1.1 b = some (xO 8 [.ref (b + 1), .int (nI n1), .ref S, .ref (b + 162), .ref (b + 330), .ref (b + 334)])) (h1 : P1.1 (b + 1) = some (xA 2 1400 T1)) (h2 : P1.2 = P.2) (k : ∀ a, a ≠ b → a ≠ b + 1 → P1.1 a = P.1 a) : cZ P1 b S S' T1 n1 L t L2 f ∧ cF P P1 b := by
  obtain ⟨g1, g2, g3, g4, ⟨ta0, l0, s0, e0, k0, g5⟩, g6, g7, ⟨mi, sf, p1, p2, m1, m2, m3, m4⟩, g9, g10, g11, g12, g13, g14, g15⟩ := h
  exact ⟨⟨h0, h1, g3.cg (fun i a c => k _ (by omega) (by omega)), (k _ (by omega) (by omega)).trans g4, ⟨ta0, l0, s0, e0, k0, (k _ (by omega) (by omega)).trans g5⟩, g6.cg (fun i a c => k _ (by omega) (by omega)), g7.cg (fun i a c => k _ (by omega) (by omega)), ⟨mi, sf, p1, p2, (k _ (by omega) (by omega)).trans m1, (k _ (by omega) (by omega)).trans m2, (k _ (by omega) (by omega)).trans m3, (k _ (by omega) (by omega)).trans m4⟩, (k _ (by omega) (by omega)).trans g9, hn, g11, g12, g13, g14, by rw [h2]; exact g15⟩, cF.of h2 (fun a ha => k a (by omega) (by omega))⟩
theorem chr_k : ∀ c : Fin 127, vp_nar .char ((nI c.val).toUInt32 % 65536).toInt32 = nI c.val := by decide +kernel
theorem k_unit (h : cZ P b S S' T n L t L2 f) (u : Int32) : xC w (d + 1) mX10_unit [.ref b, .int u] P (fun oc P' => oc = .returned (some (.int (uB n u))) ∧ cZ P' b S S' (unS T n u).1 (unS T n u).2 L t L2 f ∧ cF P P' b) := by
  obtain ⟨g1, g2, g3, g4, g5, g6, g7, g8, g9, g10, _⟩ := id h
  refine xC_of (by decide) (ble rfl) (ls := [some (.ref b), some (.int u)]) rfl ?_
  have E : (bMay u = 0 ∨ n = 1400) → X w mX10_unit (d + 1) (fun oc P' => oc = .returned (some (.int (uB n u))) ∧ cZ P' b S S' (unS T n u).1 (unS T n u).2 L t L2 f ∧ cF P P' b) 17 [some (.ref b), some (.int u)] [] P := by
    intro e
    unfold uB unS
    rw [if_pos e, if_pos e]
    refine sX10_unit_17 (sX10_unit_18 (Or.inl rfl) ⟨rfl, h, cF.rf⟩)
  refine sX10_unit_0 (sX10_unit_1 (ble rfl) (c_may u) (sX10_unit_4 (fun z => ?_) (fun z => ?_)))
  · exact E (Or.inl z)
  refine sX10_unit_7 (sX10_unit_8 (by assumption) (by rfl) (sX10_unit_11 (sX10_unit_14 (fun y => ?_) (fun y => ?_))))
  rotate_left
  · exact E (Or.inr (by have z2 : ¬ n < 1400 := fun v => y ((lt14 g10).mpr v); omega))
  have hn : n < 1400 := (lt14 g10).mp y
  unfold uB unS
  rw [if_neg (by rintro (v | v); exact z v; omega), if_neg (by rintro (v | v); exact z v; omega)]
  obtain ⟨c, hc, rfl⟩ := may_c z
  refine sX10_unit_19 (sX10_unit_20 (by assumption) (by rfl) (sX10_unit_23 (sX10_unit_24 (by assumption) (by rfl) (sX10_unit_27 (sX10_unit_28 (sX10_unit_29 g2 (vp_in_nI hn (by omega)) ?_))))))
  rw [nI_clamp (by omega)]
  rw [chr_k ⟨c, by omega⟩]
  have e1 : (xs P (b + 1) (xA 2 1400 (upd T n (nI c)))).1 b = some (xO 8 [.ref (b + 1), .int (nI n), .ref S, .ref (b + 162), .ref (b + 330), .ref (b + 334)]) := xs_n (by omega) g1
  refine sX10_unit_30 (sX10_unit_31 rfl (sX10_unit_32 (by assumption) (by rfl) (sX10_unit_35 (sX10_unit_36 ?_))))
  rw [nI_1]
  refine sX10_unit_37 e1 (ble rfl) (sX10_unit_40 (sX10_unit_41 (Or.inr rfl) ⟨rfl, h.tp (by omega) xs_s (xs_n (by omega) xs_s) rfl (fun a p q => xs_n p (xs_n q rfl))⟩))
theorem ua_1 : ∀ i : Fin 4, (((sk i).toUInt32 &&& Int32.toUInt32 31).toBitVec % 32) = BitVec.ofNat 32 (24 - 8 * i.val) := by decide +kernel
theorem ua_2 : ∀ i : Fin 4, ((sk i &&& 31).toBitVec.smod 32) = BitVec.ofNat 32 (24 - 8 * i.val) := by decide +kernel
theorem uby_u (x : Int32) {i : Nat} (hi : i < 4) : (x.toUInt32 >>> ((sk i).toUInt32 &&& Int32.toUInt32 31)).toInt32 &&& 255 = uby x i := by
  apply i32_b
  intro t ht
  unfold uby
  rw [Int32.toBitVec_and, Int32.toBitVec_and, BitVec.getLsbD_and, BitVec.getLsbD_and, c255 ⟨t, ht⟩]
  have e : (x >>> (sk i &&& 31)).toBitVec = x.toBitVec.sshiftRight (24 - 8 * i) := by
    show x.toBitVec.sshiftRight' ((sk i &&& 31).toBitVec.smod 32) = _
    rw [ua_2 ⟨i, hi⟩]
    show x.toBitVec.sshiftRight (BitVec.ofNat 32 (24 - 8 * i)).toNat = _
    rw [BitVec.toNat_ofNat, Nat.mod_eq_of_lt (by omega)]
  have e2 : ((x.toUInt32 >>> ((sk i).toUInt32 &&& Int32.toUInt32 31)).toInt32).toBitVec = x.toBitVec >>> (24 - 8 * i) := by
    show x.toBitVec >>> (((sk i).toUInt32 &&& Int32.toUInt32 31).toBitVec % 32) = _
    rw [ua_1 ⟨i, hi⟩]
    show x.toBitVec >>> (BitVec.ofNat 32 (24 - 8 * i)).toNat = _
    rw [BitVec.toNat_ofNat, Nat.mod_eq_of_lt (by omega)]
  rw [e, e2, BitVec.getLsbD_sshiftRight, BitVec.getLsbD_ushiftRight]
  by_cases h8 : t < 8
  · have h1 : 24 - 8 * i + t < 32 := by omega
    simp [h8, h1, ht]
  · simp [h8]
theorem k_units (h : cZ P b S S' T n L t L2 f) (x : Int32) : xC w (d + 1) mX10_units [.ref b, .int x] P (fun oc P' => oc = .returned (some (.int (usV (ust x 4 0 T n)))) ∧ ∃ T1 n1, cZ P' b S S' T1 n1 L t L2 f ∧ cF P P' b ∧ match ust x 4 0 T n with
    | some z => T1 = z.1 ∧ n1 = z.2
    | none => n1 = n ∧ ∀ j, j < n → T1 j = T j) := by
  obtain ⟨g1, g2, g3, g4, g5, g6, g7, g8, g9, g10, _⟩ := id h
  refine xC_of (by decide) (ble rfl) (ls := [some (.ref b), some (.int x), none, none, none]) rfl ?_
  have Lp : ∀ m i T1 n1 (P1 : xH) (l4 : Option Value), i + m = 4 → n ≤ n1 → n1 ≤ 1400 → (∀ j, j < n → T1 j = T j) → ust x m i T1 n1 = ust x 4 0 T n → P1.1 b = some (xO 8 [.ref (b + 1), .int (nI n), .ref S, .ref (b + 162), .ref (b + 330), .ref (b + 334)]) → P1.1 (b + 1) = some (xA 2 1400 T1) → P1.2 = P.2 → (∀ a, a ≠ b → a ≠ b + 1 → P1.1 a = P.1 a) → X w mX10_units (d + 1) (fun oc P' => oc = .returned (some (.int (usV (ust x 4 0 T n)))) ∧ ∃ T1 n1, cZ P' b S S' T1 n1 L t L2 f ∧ cF P P' b ∧ match ust x 4 0 T n with
      | some z => T1 = z.1 ∧ n1 = z.2
      | none => n1 = n ∧ ∀ j, j < n → T1 j = T j) 8 [some (.ref b), some (.int x), some (.int (nI n1)), some (.int (sk i)), l4] [] P1 := by
    intro m
    induction m with
    | zero =>
      intro i T1 n1 P1 l4 hi h0 h14 hT hu hO hA h2 K
      obtain rfl : i = 4 := by omega
      have hu : ust x 4 0 T n = some (T1, n1) := hu.symm
      rw [hu]
      refine sX10_units_8 (sX10_units_9 (fun _ => ?_) (fun z => absurd (by decide) z))
      refine sX10_units_61 (sX10_units_62 (sX10_units_63 hO (ble rfl) (sX10_units_66 (sX10_units_67 (Or.inr rfl) ⟨rfl, T1, n1, ?_⟩))))
      have := h.tp (T1 := T1) (n1 := n1) (P1 := xs P1 b (xO 8 [.ref (b + 1), .int (nI n1), .ref S, .ref (b + 162), .ref (b + 330), .ref (b + 334)])) h14 xs_s (xs_n (by omega) hA) h2 (fun a p q => xs_n p (K a p q))
      exact ⟨this.1, this.2, rfl, rfl⟩
    | succ m ih =>
      intro i T1 n1 P1 l4 hi h0 h14 hT hu hO hA h2 K
      obtain ⟨k1, k2⟩ := sk_s ⟨i, by omega⟩
      have R : ust x 4 0 T n = none → X w mX10_units (d + 1) (fun oc P' => oc = .returned (some (.int (usV (ust x 4 0 T n)))) ∧ ∃ T1 n1, cZ P' b S S' T1 n1 L t L2 f ∧ cF P P' b ∧ match ust x 4 0 T n with
          | some z => T1 = z.1 ∧ n1 = z.2
          | none => n1 = n ∧ ∀ j, j < n → T1 j = T j) 41 [some (.ref b), some (.int x), some (.int (nI n1)), some (.int (sk i)), some (.int (uby x i))] [] P1 := by
        intro e
        rw [e]
        have := h.tp (T1 := T1) (n1 := n) (P1 := P1) g10 hO hA h2 K
        refine sX10_units_41 (sX10_units_42 (Or.inl rfl) ⟨rfl, T1, n, this.1, this.2, rfl, hT⟩)
      refine sX10_units_8 (sX10_units_9 (fun z => absurd z k2) (fun _ => ?_))
      refine sX10_units_12 (sX10_units_13 (sX10_units_14 (sX10_units_15 (sX10_units_18 ?_))))
      rw [uby_u x (show i < 4 by omega)]
      refine sX10_units_19 rfl (sX10_units_21 (sX10_units_23 (fun z => ?_) (fun z => ?_)))
      · rw [show ust x (m + 1) i T1 n1 = ust x m (i + 1) T1 n1 from if_pos z] at hu
        refine sX10_units_55 rfl (sX10_units_58 ?_)
        rw [k1]
        exact ih (i + 1) T1 n1 P1 _ (by omega) h0 h14 hT hu hO hA h2 K
      · have e1 : ust x (m + 1) i T1 n1 = if bMay (uby x i) = 0 ∨ 1400 ≤ n1 then none else ust x m (i + 1) (upd T1 n1 (uby x i)) (n1 + 1) := if_neg z
        rw [e1] at hu
        refine sX10_units_26 (sX10_units_28 (ble rfl) (c_may (uby x i)) (sX10_units_31 (fun y => ?_) (fun y => ?_)))
        · rw [if_pos (Or.inl y)] at hu
          exact R hu.symm
        refine sX10_units_34 (sX10_units_35 (sX10_units_38 (fun v => ?_) (fun v => ?_)))
        rotate_left
        · rw [if_pos (Or.inr (by have z2 : ¬ n1 < 1400 := fun q => v ((lt14 h14).mpr q); omega))] at hu
          exact R hu.symm
        have hn : n1 < 1400 := (lt14 h14).mp v
        rw [if_neg (by rintro (q | q); exact y q; omega)] at hu
        obtain ⟨c, hc, ec⟩ := may_c y
        rw [ec] at hu ⊢
        refine sX10_units_43 (sX10_units_44 (by assumption) (by rfl) (sX10_units_47 (sX10_units_48 (sX10_units_50 (sX10_units_51 hA (vp_in_nI hn (by omega)) ?_)))))
        rw [nI_clamp (by omega), chr_k ⟨c, by omega⟩]
        refine sX10_units_52 rfl (sX10_units_55 rfl (sX10_units_58 ?_))
        rw [nI_1, k1]
        exact ih (i + 1) _ (n1 + 1) _ _ (by omega) (by omega) (by omega) (fun j hj => by rw [pk_un (by omega)]; exact hT j hj) hu (xs_n (by omega) hO) xs_s h2 (fun a p q => xs_n q (K a p q))
  refine sX10_units_0 (sX10_units_1 (by assumption) (by rfl) (sX10_units_4 rfl (sX10_units_5 (sX10_units_7 rfl ?_))))
  exact Lp 4 0 T n P none rfl (Nat.le_refl _) g10 (fun _ _ => rfl) rfl g1 g2 rfl (fun _ _ _ => rfl)
/-! the matcher within the object -/
theorem cZ.mt (h : cZ P b S S' T n L t L2 f) (hs : same P P1 (b + 330) (b + 334)) (hm : ∃ mi sf p1 p2, P1.1 (b + 330) = some (xO 2 [.ref (b + 331), .ref (b + 332), .ref (b + 333), .int mi]) ∧ P1.1 (b + 331) = some (xA 0 6 sf) ∧ P1.1 (b + 332) = some (xJ 128 p1) ∧ P1.1 (b + 333) = some (xJ 128 p2)) : cZ P1 b S S' T n L t L2 f ∧ cF P P1 b := by
  obtain ⟨g1, g2, g3, g4, ⟨ta0, l0, s0, e0, k0, g5⟩, g6, g7, _, g9, g10, g11, g12, g13, g14, g15⟩ := h
  have k : ∀ a, ¬ (b + 330 ≤ a ∧ a < b + 334) → P1.1 a = P.1 a := hs.2
  exact ⟨⟨(k _ (by omega)).trans g1, (k _ (by omega)).trans g2, g3.cg (fun i a c => k _ (by omega)), (k _ (by omega)).trans g4, ⟨ta0, l0, s0, e0, k0, (k _ (by omega)).trans g5⟩, g6.cg (fun i a c => k _ (by omega)), g7.cg (fun i a c => k _ (by omega)), hm, (k _ (by omega)).trans g9, g10, g11, g12, g13, g14, by rw [hs.1]; exact g15⟩, cF.of hs.1 (fun a ha => k a (by omega))⟩
theorem k_match {ja jc : Nat} (h : cZ P b S S' T n L t L2 f) (hw : wL L) (ha : ja < L.cc) (hc : jc < L.cc) : xC w (d + 15) mX3_match [.ref (b + 330), .ref (S + 76 + 7 * ja), .ref (S + 76 + 7 * jc)] P (fun oc P' => oc = .returned (some (.int (mtB (L.cs ja) (L.cs jc)))) ∧ same P P' (b + 330) (b + 334) ∧ cZ P' b S S' T n L t L2 f ∧ cF P P' b ∧ ∃ v1 sf' , P'.1 (b + 330) = some (xO 2 [.ref (b + 331), .ref (b + 332), .ref (b + 333), .int v1]) ∧ P'.1 (b + 331) = some (xA 0 6 sf') ∧ ∀ v, mtc (L.cs ja) (L.cs jc) = some v → ∀ j, j < (L.cs ja).i → sf' j = nI (v j)) := by
  obtain ⟨g1, g2, g3, g4, g5, g6, g7, ⟨mi, sf, p1, p2, m1, m2, m3, m4⟩, g9, g10, g11, g12, _⟩ := id h
  have c12 := g12.2.1
  obtain ⟨pa, _, _⟩ := h.cell ha
  obtain ⟨pc', _, _⟩ := h.cell hc
  have wa := hw.2.2.2.2.2 ja ha
  have wc := hw.2.2.2.2.2 jc hc
  refine xC_imp (c_match (m := b + 330) (mi := 0) m1 m2 m3 m4 pa pc' (by omega) (by omega) wa.1 wc.1 wa.2 wc.2) ?_
  rintro oc P' ⟨rfl, hs, v1, sf', p1', p2', e1, e2, e3, e4, e5⟩
  obtain ⟨c1, c2⟩ := h.mt hs ⟨v1, sf', p1', p2', e1, e2, e3, e4⟩
  exact ⟨rfl, hs, c1, c2, v1, sf', e1, e2, e5⟩
theorem k_alike (hr : P.2.1 + 1 ≤ w.z + 601024 ∧ P.2.2 + 6 ≤ 7293034) (h : cZ P b S S' T n L t L2 f) (hw : wL L) (x y : Int32) : xC w (d + 16) mX10_alike [.ref b, .int x, .int y] P (kO b S S' T n L t L2 f P (mI (aAlike L x y))) := by
  have h1 := h.1
  obtain ⟨mi, sf, p1, p2, m1, _⟩ := h.2.2.2.2.2.2.2.1
  have hcc := h.2.2.2.2.2.2.2.2.2.2.2.1.2.1
  refine xC_of (by decide) (ble rfl) (ls := [some (.ref b), some (.int x), some (.int y), none, none]) rfl ?_
  by_cases hx : ix x L.cc
  rotate_left
  · rw [show aAlike L x y = .error 1 from if_neg hx]
    refine sX10_alike_0 (sX10_alike_1 (sX10_alike_2_t (ble rfl) h1 (c_cellAtB h hr hx) (kE (e := 1) h)))
  obtain ⟨j, hj, rfl⟩ := ix_of (by omega) hx
  by_cases hy : ix y L.cc
  rotate_left
  · rw [show aAlike L (nI j) y = .error 1 by unfold aAlike; rw [if_pos hx, if_neg hy]]
    refine sX10_alike_0 (sX10_alike_1 (sX10_alike_2 (ble rfl) h1 (c_cellAt h hj) (sX10_alike_5 rfl (sX10_alike_6 (sX10_alike_7 (sX10_alike_8_t (ble rfl) h1 (c_cellAtB h hr hy) (kE (e := 1) h)))))))
  obtain ⟨i, hi, rfl⟩ := ix_of (by omega) hy
  rw [show aAlike L (nI j) (nI i) = .ok (mtB (L.cs j) (L.cs i)) by unfold aAlike; rw [if_pos hx, if_pos hy, nI_clamp (by omega), nI_clamp (by omega)]]
  refine sX10_alike_0 (sX10_alike_1 (sX10_alike_2 (ble rfl) h1 (c_cellAt h hj) (sX10_alike_5 rfl (sX10_alike_6 (sX10_alike_7 (sX10_alike_8 (ble rfl) h1 (c_cellAt h hi) (sX10_alike_11 rfl (sX10_alike_13 (sX10_alike_14 (by assumption) (by rfl) (sX10_alike_17 (sX10_alike_18 (sX10_alike_20_g (ble rfl) m1 (k_match h hw hj hi) (fun _ P7 q => ?_) (fun q9 P7 q => by cases q.1)))))))))))))
  obtain ⟨q, _, c1, c2, _⟩ := q
  cases q
  exact sX10_alike_23 (mtB_01 _ _) ⟨rfl, c1, c2⟩
theorem k_order (hr : P.2.1 + 1 ≤ w.z + 601024 ∧ P.2.2 + 6 ≤ 7293034) (h : cZ P b S S' T n L t L2 f) (hw : wL L) (x y z : Int32) : xC w (d + 16) mX10_order [.ref b, .int x, .int y, .int z] P (kO b S S' T n L t L2 f P (mI (aOrder L x y z))) := by
  have h1 := h.1
  obtain ⟨mi, sf, p1, p2, m1, _⟩ := h.2.2.2.2.2.2.2.1
  have hcc := h.2.2.2.2.2.2.2.2.2.2.2.1.2.1
  refine xC_of (by decide) (ble rfl) (ls := [some (.ref b), some (.int x), some (.int y), some (.int z), none, none]) rfl ?_
  by_cases hx : ix x L.cc
  rotate_left
  · rw [show aOrder L x y z = .error 1 from if_neg hx]
    refine sX10_order_0 (sX10_order_1 (sX10_order_2_t (ble rfl) h1 (c_cellAtB h hr hx) (kE (e := 1) h)))
  obtain ⟨j, hj, rfl⟩ := ix_of (by omega) hx
  by_cases hy : ix y L.cc
  rotate_left
  · rw [show aOrder L (nI j) y z = .error 1 by unfold aOrder; rw [if_pos hx, if_neg hy]]
    refine sX10_order_0 (sX10_order_1 (sX10_order_2 (ble rfl) h1 (c_cellAt h hj) (sX10_order_5 rfl (sX10_order_7 (sX10_order_8 (sX10_order_9_t (ble rfl) h1 (c_cellAtB h hr hy) (kE (e := 1) h)))))))
  obtain ⟨i, hi, rfl⟩ := ix_of (by omega) hy
  obtain ⟨hc, j12, j31⟩ := h.cell hj
  have hC := hc.1
  have wb := h.2.2.2.2.2.2.2.2.2.2.2.1.2.2.1 j j12
  have e1 : aOrder L (nI j) (nI i) z = if ix z (L.cs j).i then .ok (ordV (L.cs j) (L.cs i) z.toNatClampNeg) else .error 1 := by unfold aOrder; rw [if_pos hx, if_pos hy, nI_clamp (by omega), nI_clamp (by omega)]
  rw [e1]
  by_cases hz : ix z (L.cs j).i
  rotate_left
  · rw [if_neg hz]
    refine sX10_order_0 (sX10_order_1 (sX10_order_2 (ble rfl) h1 (c_cellAt h hj) (sX10_order_5 rfl (sX10_order_7 (sX10_order_8 (sX10_order_9 (ble rfl) h1 (c_cellAt h hi) (sX10_order_12 rfl (sX10_order_14 (sX10_order_15 (sX10_order_17 (by assumption) (by rfl) (sX10_order_20_t (ble rfl) (c_requireIndex_bad (ix_bad hz) hr.1 hr.2) (kE (e := 1) h))))))))))))
  rw [if_pos hz]
  obtain ⟨u, hu, rfl⟩ := ix_of (by omega) hz
  have ec : (nI u).toNatClampNeg = u := nI_clamp (by omega)
  rw [ec]
  refine sX10_order_0 (sX10_order_1 (sX10_order_2 (ble rfl) h1 (c_cellAt h hj) (sX10_order_5 rfl (sX10_order_7 (sX10_order_8 (sX10_order_9 (ble rfl) h1 (c_cellAt h hi) (sX10_order_12 rfl (sX10_order_14 (sX10_order_15 (sX10_order_17 (by assumption) (by rfl) (sX10_order_20 (ble rfl) (c_requireIndex_ok hz.1 hz.2) (sX10_order_23 (sX10_order_24 (by assumption) (by rfl) (sX10_order_27 (sX10_order_29 (sX10_order_31_g (ble rfl) m1 (k_match h hw hj hi) (fun _ P7 q => ?_) (fun q9 P7 q => by cases q.1)))))))))))))))))
  obtain ⟨q, _, c1, c2, v1, sf', s1, s2, s3⟩ := q
  cases q
  show X w mX10_order (d + 16) _ 34 _ [.int (mtB (L.cs j) (L.cs i))] P7
  unfold ordV
  have h17 := c1.1
  match hm : mtc (L.cs j) (L.cs i) with
  | none =>
    have hb : mtB (L.cs j) (L.cs i) = 0 := by unfold mtB; rw [hm]; rfl
    refine sX10_order_34 (fun _ => ?_) (fun z => absurd hb z)
    refine sX10_order_49 (sX10_order_50 ⟨rfl, c1, c2⟩)
  | some v =>
    have hb : mtB (L.cs j) (L.cs i) = 1 := by unfold mtB; rw [hm]; rfl
    refine sX10_order_34 (fun z => absurd (hb.symm.trans z) (by decide)) (fun _ => ?_)
    refine sX10_order_37 (sX10_order_38 (by assumption) (by rfl) (sX10_order_41 (by assumption) (by rfl) (sX10_order_44 (sX10_order_45 s2 (vp_in_nI (by omega) (by omega)) ?_))))
    rw [ec, s3 v hm u hu]
    refine sX10_order_46 (sX10_order_50 ⟨rfl, c1, c2⟩)
end RL'
