section RM
variable {w : xWd} {d : Nat} {P P1 P2 : xH} {b S S' n q k : Nat} {T : Nat → Int32} {t : tSt} {L L2 : liT} {f f' : Nat → Int32}
theorem cZ.mb (h : cZ P b S S' T n L t L2 f) : cZ (xs P (b + 334) (xA 0 12 f')) b S S' T n L t L2 f' ∧ cF P (xs P (b + 334) (xA 0 12 f')) b := by
  obtain ⟨g1, g2, g3, g4, ⟨ta0, l0, s0, e0, k0, g5⟩, g6, g7, ⟨mi, sf, p1, p2, m1, m2, m3, m4⟩, g9, g10, g11, g12, g13, g14, g15⟩ := h
  have k : ∀ a, a ≠ b + 334 → (xs P (b + 334) (xA 0 12 f')).1 a = P.1 a := fun a ha => xs_n ha rfl
  exact ⟨⟨(k _ (by omega)).trans g1, (k _ (by omega)).trans g2, g3.cg (fun i a c => k _ (by omega)), (k _ (by omega)).trans g4, ⟨ta0, l0, s0, e0, k0, (k _ (by omega)).trans g5⟩, g6.cg (fun i a c => k _ (by omega)), g7.cg (fun i a c => k _ (by omega)), ⟨mi, sf, p1, p2, (k _ (by omega)).trans m1, (k _ (by omega)).trans m2, (k _ (by omega)).trans m3, (k _ (by omega)).trans m4⟩, xs_s, g10, g11, g12, g13, g14, g15⟩, cF.of rfl (fun a ha => k a (by omega))⟩
/-- only matcher and members are different -/
def gF (P P1 : xH) (b : Nat) : Prop := P1.2 = P.2 ∧ ∀ a, ¬ (b + 330 ≤ a ∧ a < b + 335) → P1.1 a = P.1 a
theorem gF.rf : gF P P b := ⟨rfl, fun _ _ => rfl⟩
theorem gF.tr (h : gF P P1 b) (h2 : gF P1 P2 b) : gF P P2 b := ⟨h2.1.trans h.1, fun a ha => (h2.2 a ha).trans (h.2 a ha)⟩
theorem gF.mb : gF P (xs P (b + 334) (xA 0 12 f')) b := ⟨rfl, fun a ha => xs_n (by omega) rfl⟩
theorem gF.cF (h : gF P P1 b) : cF P P1 b := cF.of h.1 (fun a ha => h.2 a (by omega))
theorem k_gather {k : Nat} (h : cZ P b S S' T n L t L2 f) (hw : wL L) (hk : k < L.cc) : xC w (d + 16) mX10_gatherMembers [.ref b, .ref (S + 76 + 7 * k)] P (fun oc P' => oc = .returned (some (.int (nI (gaG L k L.cc 0 f 0).2))) ∧ cZ P' b S S' T n L t L2 (gaG L k L.cc 0 f 0).1 ∧ gF P P' b) := by
  have h12 : L.cc ≤ 12 := hw.2.1
  refine xC_of (by decide) (ble rfl) (ls := [some (.ref b), some (.ref (S + 76 + 7 * k)), none, none, none, none]) rfl ?_
  have Lp : ∀ m c s f1 (P1 : xH) (l4 l5 : Option Value), c + m = L.cc → cZ P1 b S S' T n L t L2 f1 → gF P P1 b → gOK L f1 s c → X w mX10_gatherMembers (d + 16) (fun oc P' => oc = .returned (some (.int (nI (gaG L k m c f1 s).2))) ∧ cZ P' b S S' T n L t L2 (gaG L k m c f1 s).1 ∧ gF P P' b) 4 [some (.ref b), some (.ref (S + 76 + 7 * k)), some (.int (nI s)), some (.int (nI c)), l4, l5] [] P1 := by
    intro m
    induction m with
    | zero =>
      intro c s f1 P1 l4 l5 hc h1 F1 hg
      obtain rfl : c = L.cc := by omega
      have hO := h1.1
      have hS := h1.2.2.1.1.1
      refine sX10_gatherMembers_4 (sX10_gatherMembers_5 (sX10_gatherMembers_6 (by assumption) (by rfl) (sX10_gatherMembers_9 (by assumption) (by rfl) (sX10_gatherMembers_12 (fun _ => ?_) (fun z => absurd (Int32.le_refl _) z)))))
      refine sX10_gatherMembers_111 (sX10_gatherMembers_112 ⟨rfl, h1, F1⟩)
    | succ m ih =>
      intro c s f1 P1 l4 l5 hc h1 F1 hg
      have hO := h1.1
      have hS := h1.2.2.1.1.1
      have hs := hg.1
      obtain ⟨mi, sf, p1, p2, m1, _⟩ := h1.2.2.2.2.2.2.2.1
      refine sX10_gatherMembers_4 (sX10_gatherMembers_5 (sX10_gatherMembers_6 (by assumption) (by rfl) (sX10_gatherMembers_9 (by assumption) (by rfl) (sX10_gatherMembers_12 (fun z => absurd z (nI_ge (by omega) (by omega))) (fun _ => ?_)))))
      refine sX10_gatherMembers_15 (sX10_gatherMembers_16 (by assumption) (by rfl) (sX10_gatherMembers_19 (by assumption) (by rfl) (sX10_gatherMembers_22 (sX10_gatherMembers_23 h1.2.2.1.1.2.2.2 (Or.inr rfl) (vp_in_nI (by omega) (by omega)) (by rw [nI_clamp (by omega)]; exact if_pos (by omega)) (sX10_gatherMembers_24 rfl (sX10_gatherMembers_26 (sX10_gatherMembers_27 (by assumption) (by rfl) (sX10_gatherMembers_30 (sX10_gatherMembers_31 (sX10_gatherMembers_33_g (ble rfl) m1 (k_match h1 hw hk (show c < L.cc by omega)) (fun _ P7 q => ?_) (fun q9 P7 q => by cases q.1)))))))))))
      obtain ⟨q, hsm, c1, c2, _⟩ := q
      cases q
      have F7 : gF P P7 b := F1.tr ⟨hsm.1, fun a ha => hsm.2 a (by omega)⟩
      show X w mX10_gatherMembers (d + 16) _ 36 _ [.int (mtB (L.cs k) (L.cs c))] P7
      refine sX10_gatherMembers_36 (fun z => ?_) (fun z => ?_)
      · rw [show gaG L k (m + 1) c f1 s = gaG L k m (c + 1) f1 s from if_pos z]
        refine sX10_gatherMembers_105 rfl (sX10_gatherMembers_108 ?_)
        rw [nI_1]
        exact ih (c + 1) s f1 P7 _ _ (by omega) c1 F7 (gOK_up hg)
      · rw [show gaG L k (m + 1) c f1 s = gaG L k m (c + 1) (insG L c s f1) (s + 1) from if_neg z]
        have hins := gOK_ins hg (show c < L.cc by omega) h12
        have In : ∀ q f3 (P3 : xH), q ≤ s → cZ P3 b S S' T n L t L2 f3 → gF P P3 b → (∀ j, j < s + 1 → j ≠ q → ∃ m, m < L.cc ∧ f3 j = nI m) → insG L c q f3 = insG L c s f1 → X w mX10_gatherMembers (d + 16) (fun oc P' => oc = .returned (some (.int (nI (gaG L k m (c + 1) (insG L c s f1) (s + 1)).2))) ∧ cZ P' b S S' T n L t L2 (gaG L k m (c + 1) (insG L c s f1) (s + 1)).1 ∧ gF P P' b) 42 [some (.ref b), some (.ref (S + 76 + 7 * k)), some (.int (nI s)), some (.int (nI c)), some (.ref (S + 76 + 7 * c)), some (.int (nI q))] [] P3 := by
          intro q
          induction q with
          | zero =>
            intro f3 P3 _ h3 F3 hj he
            have hO3 := h3.1
            refine sX10_gatherMembers_42 (sX10_gatherMembers_44 (fun _ => ?_) (fun z => absurd (show (0 : Int32) ≤ 0 from z00) z))
            refine sX10_gatherMembers_94 (sX10_gatherMembers_95 (by assumption) (by rfl) (sX10_gatherMembers_98 (sX10_gatherMembers_100 (sX10_gatherMembers_101 h3.2.2.2.2.2.2.2.2.1 (vp_in_nI (n := 0) (by omega) (by omega)) (sX10_gatherMembers_102 rfl (sX10_gatherMembers_105 rfl (sX10_gatherMembers_108 ?_)))))))
            rw [nI_1, nI_1, ← he]
            have := h3.mb (f' := insG L c 0 f3)
            exact ih (c + 1) (s + 1) _ _ _ _ (by omega) this.1 (F3.tr gF.mb) (by rw [he]; exact hins)
          | succ q ihq =>
            intro f3 P3 hq h3 F3 hj he
            have hO3 := h3.1
            have hS3 := h3.2.2.1.1.1
            have hM3 := h3.2.2.2.2.2.2.2.2.1
            obtain ⟨m', hm', em⟩ := hj q (by omega) (by omega)
            have hq0 : ¬ nI (q + 1) ≤ 0 := nI_ge (a := 0) (by omega) (by omega)
            have eq1 : nI (q + 1) - 1 = nI q := by rw [← nI_1]; grind
            obtain ⟨pc1, _⟩ := h3.cell (show c < L.cc by omega)
            obtain ⟨pc2, _⟩ := h3.cell hm'
            refine sX10_gatherMembers_42 (sX10_gatherMembers_44 (fun z => absurd z hq0) (fun _ => ?_))
            refine sX10_gatherMembers_47 (sX10_gatherMembers_49 (sX10_gatherMembers_50 (by assumption) (by rfl) (sX10_gatherMembers_53 (by assumption) (by rfl) (sX10_gatherMembers_56 (sX10_gatherMembers_57 (by assumption) (by rfl) (sX10_gatherMembers_60 (sX10_gatherMembers_62 (sX10_gatherMembers_63 ?_))))))))
            rw [eq1]
            refine sX10_gatherMembers_64 hM3 (vp_in_nI (by omega) (by omega)) ?_
            rw [nI_clamp (by omega), em]
            refine sX10_gatherMembers_65 h3.2.2.1.1.2.2.2 (Or.inr rfl) (vp_in_nI (by omega) (by omega)) (by rw [nI_clamp (by omega)]; exact if_pos (by omega)) (sX10_gatherMembers_66 (ble rfl) pc1.1 (c_comesBefore pc1 pc2) ?_)
            have he' : insG L c (q + 1) f3 = if cmb ((L.cs c).am 0) ((L.cs m').am 0) (L.cs c).nm (L.cs m').nm = 0 then upd f3 (q + 1) (nI c) else insG L c q (upd f3 (q + 1) (f3 q)) := by
              rw [insG, em, nI_clamp (by omega)]
            rw [he] at he'
            refine sX10_gatherMembers_69 (fun z => ?_) (fun z => ?_)
            · rw [if_pos z] at he'
              refine sX10_gatherMembers_94 (sX10_gatherMembers_95 (by assumption) (by rfl) (sX10_gatherMembers_98 (sX10_gatherMembers_100 (sX10_gatherMembers_101 hM3 (vp_in_nI (by omega) (by omega)) (sX10_gatherMembers_102 rfl (sX10_gatherMembers_105 rfl (sX10_gatherMembers_108 ?_)))))))
              rw [nI_clamp (by omega), nI_1, nI_1, he']
              have := h3.mb (f' := upd f3 (q + 1) (nI c))
              exact ih (c + 1) (s + 1) _ _ _ _ (by omega) this.1 (F3.tr gF.mb) (by rw [← he']; exact hins)
            · rw [if_neg z] at he'
              refine sX10_gatherMembers_72 (sX10_gatherMembers_73 (by assumption) (by rfl) (sX10_gatherMembers_76 (sX10_gatherMembers_78 (sX10_gatherMembers_79 (by assumption) (by rfl) (sX10_gatherMembers_82 (sX10_gatherMembers_84 (sX10_gatherMembers_85 ?_)))))))
              rw [eq1]
              refine sX10_gatherMembers_86 hM3 (vp_in_nI (by omega) (by omega)) (sX10_gatherMembers_87 hM3 (vp_in_nI (by omega) (by omega)) ?_)
              rw [nI_clamp (by omega), nI_clamp (by omega)]
              refine sX10_gatherMembers_88 rfl (sX10_gatherMembers_91 ?_)
              rw [show nI (q + 1) + -1 = nI q by rw [← nI_1]; grind]
              have := h3.mb (f' := upd f3 (q + 1) (f3 q))
              refine ihq _ _ (by omega) this.1 (F3.tr gF.mb) (fun j h1' h2' => ?_) he'.symm
              by_cases e : j = q + 1
              · subst e; rw [pk_us]; exact ⟨m', hm', em⟩
              · rw [pk_un e]; exact hj j h1' e
        refine sX10_gatherMembers_39 (sX10_gatherMembers_40 rfl ?_)
        exact In s f1 P7 (Nat.le_refl _) c1 F7 (fun j hj hne => hg.2 j (by omega)) rfl
  refine sX10_gatherMembers_0 (sX10_gatherMembers_1 rfl (sX10_gatherMembers_2 (sX10_gatherMembers_3 rfl ?_)))
  exact Lp L.cc 0 0 f P none none (by omega) h gF.rf ⟨Nat.le_refl _, fun j hj => by omega⟩
theorem k_family (hr : P.2.1 + 1 ≤ w.z + 601024 ∧ P.2.2 + 6 ≤ 7293034) (h : cZ P b S S' T n L t L2 f) (hw : wL L) (x y : Int32) : xC w (d + 17) mX10_family [.ref b, .int x, .int y] P (kO b S S' T n L t L2 (gaF L x (0 ≤ y) f) P (mI (aFamily L x y f))) := by
  have h1 := h.1
  have h12 : L.cc ≤ 12 := hw.2.1
  refine xC_of (by decide) (ble rfl) (ls := [some (.ref b), some (.int x), some (.int y), none]) rfl ?_
  by_cases hx : ix x L.cc
  rotate_left
  · rw [show aFamily L x y f = .error 1 from if_neg hx, show gaF L x (0 ≤ y) f = f from if_neg (fun z => hx z.1)]
    refine sX10_family_0 (sX10_family_1 (sX10_family_2_t (ble rfl) h1 (c_cellAtB h hr hx) (kE (e := 1) h)))
  obtain ⟨j, hj, rfl⟩ := ix_of (by omega) hx
  by_cases hy : 0 ≤ y
  rotate_left
  · rw [show aFamily L (nI j) y f = .error 1 by unfold aFamily; rw [if_pos hx, if_neg hy], show gaF L (nI j) (0 ≤ y) f = f from if_neg (fun z => hy z.2)]
    refine sX10_family_0 (sX10_family_1 (sX10_family_2 (ble rfl) h1 (c_cellAt h hj) (sX10_family_5 rfl (sX10_family_6 (sX10_family_7_t (ble rfl) (c_requireNot_bad hy hr.1 hr.2) (kE (e := 1) h))))))
  have hok := gaG_ok (L := L) (k := j) h12 L.cc 0 f 0 (by omega) ⟨Nat.le_refl _, fun j hj => by omega⟩
  rw [show aFamily L (nI j) y f = .ok (if y < nI (gaG L j L.cc 0 f 0).2 then (gaG L j L.cc 0 f 0).1 y.toNatClampNeg else -1) by unfold aFamily; rw [if_pos hx, if_pos hy, nI_clamp (by omega)], show gaF L (nI j) (0 ≤ y) f = (gaG L j L.cc 0 f 0).1 by unfold gaF; rw [if_pos ⟨hx, hy⟩, nI_clamp (by omega)]]
  refine sX10_family_0 (sX10_family_1 (sX10_family_2 (ble rfl) h1 (c_cellAt h hj) (sX10_family_5 rfl (sX10_family_6 (sX10_family_7 (ble rfl) (c_requireNot_ok hy) (sX10_family_10 (sX10_family_11 (sX10_family_12 (sX10_family_13_g (ble rfl) h1 (k_gather h hw hj) (fun _ P7 q => ?_) (fun q9 P7 q => by cases q.1))))))))))
  obtain ⟨q, c1, c2⟩ := q
  cases q
  generalize gaG L j L.cc 0 f 0 = G at hok c1 ⊢
  have hs := hok.1
  have h17 := c1.1
  show X w mX10_family (d + 17) _ 16 _ [.int (nI G.2), .int y] P7
  refine sX10_family_16 (fun z => ?_) (fun z => ?_)
  · rw [if_neg (by grind)]
    refine sX10_family_28 (sX10_family_29 ⟨rfl, c1, c2.cF⟩)
  · rw [if_pos (by grind)]
    obtain ⟨u, hu, rfl⟩ := ix_of (k := y) (n := G.2) (by omega) ⟨by grind, by grind⟩
    refine sX10_family_19 (sX10_family_20 (by assumption) (by rfl) (sX10_family_23 (sX10_family_24 c1.2.2.2.2.2.2.2.2.1 (vp_in_nI (by omega) (by omega)) (sX10_family_25 (sX10_family_29 ⟨rfl, c1, c2.cF⟩)))))
theorem k_best (hr : P.2.1 + 1 ≤ w.z + 601024 ∧ P.2.2 + 6 ≤ 7293034) (h : cZ P b S S' T n L t L2 f) (hw : wL L) (x y : Int32) : xC w (d + 17) mX10_best [.ref b, .int x, .int y] P (kO b S S' T n L t L2 (gaF L x (¬ y < 0) f) P (mI (aBest L x y f))) := by
  have h1 := h.1
  have h12 : L.cc ≤ 12 := hw.2.1
  refine xC_of (by decide) (ble rfl) (ls := [some (.ref b), some (.int x), some (.int y), none, none, none, none, none, none, none]) rfl ?_
  by_cases hx : ix x L.cc
  rotate_left
  · rw [show aBest L x y f = .error 1 from if_neg hx, show gaF L x (¬ y < 0) f = f from if_neg (fun z => hx z.1)]
    refine sX10_best_0 (sX10_best_1 (sX10_best_2_t (ble rfl) h1 (c_cellAtB h hr hx) (kE (e := 1) h)))
  obtain ⟨j, hj, rfl⟩ := ix_of (by omega) hx
  by_cases hy : y < 0
  · rw [show aBest L (nI j) y f = .error 2 by unfold aBest; rw [if_pos hx, if_pos hy], show gaF L (nI j) (¬ y < 0) f = f from if_neg (fun z => z.2 hy)]
    refine sX10_best_0 (sX10_best_1 (sX10_best_2 (ble rfl) h1 (c_cellAt h hj) (sX10_best_5 rfl (sX10_best_6 (sX10_best_7 (fun z => absurd hy (by grind)) (fun _ => ?_))))))
    exact sX10_best_10 (ble rfl) hr.1 hr.2 (kE (e := 2) h)
  have hok := gaG_ok (L := L) (k := j) h12 L.cc 0 f 0 (by omega) ⟨Nat.le_refl _, fun j hj => by omega⟩
  rw [show aBest L (nI j) y f = .ok (bsG L (gaG L j L.cc 0 f 0).1 y (gaG L j L.cc 0 f 0).2 0 (-1)) by unfold aBest; rw [if_pos hx, if_neg hy, nI_clamp (by omega)], show gaF L (nI j) (¬ y < 0) f = (gaG L j L.cc 0 f 0).1 by unfold gaF; rw [if_pos ⟨hx, hy⟩, nI_clamp (by omega)]]
  refine sX10_best_0 (sX10_best_1 (sX10_best_2 (ble rfl) h1 (c_cellAt h hj) (sX10_best_5 rfl (sX10_best_6 (sX10_best_7 (fun _ => ?_) (fun z => absurd (by grind) hy))))))
  refine sX10_best_18 (sX10_best_19 (sX10_best_20_g (ble rfl) h1 (k_gather h hw hj) (fun _ P7 q => ?_) (fun q9 P7 q => by cases q.1)))
  obtain ⟨q, c1, c2⟩ := q
  cases q
  generalize gaG L j L.cc 0 f 0 = G at hok c1 ⊢
  have hs := hok.1
  have h17 := c1.1
  have hS7 := c1.2.2.1.1.1
  have hM7 := c1.2.2.2.2.2.2.2.2.1
  show X w mX10_best (d + 17) _ 23 _ [.int (nI G.2)] P7
  have Lp : ∀ m i (v la : Int32) (l8 l9 : Option Value), i + m = G.2 → (v = -1 ∨ ∃ q, q < L.cc ∧ v = nI q ∧ la = (L.cs q).am 2) → X w mX10_best (d + 17) (kO b S S' T n L t L2 G.1 P (mI (.ok (bsG L G.1 y m i v)))) 34 [some (.ref b), some (.int (nI j)), some (.int y), some (.ref (S + 76 + 7 * j)), some (.int (nI G.2)), some (.int v), some (.int la), some (.int (nI i)), l8, l9] [] P7 := by
    intro m
    induction m with
    | zero =>
      intro i v la l8 l9 hi hv
      refine sX10_best_34 (sX10_best_36 (sX10_best_38 (fun _ => ?_) (fun z => absurd (nI_le (by omega) (by omega)) z)))
      refine sX10_best_117 (sX10_best_119 ⟨rfl, c1, c2.cF⟩)
    | succ m ih =>
      intro i v la l8 l9 hi hv
      obtain ⟨u, hu, eu⟩ := hok.2 i (by omega)
      obtain ⟨pu, u12, u31⟩ := c1.cell hu
      have st : bsG L G.1 y (m + 1) i v = bsG L G.1 y m (i + 1) (if y ≤ (L.cs u).am 1 ∧ (v = -1 ∨ (L.cs u).am 2 < (L.cs v.toNatClampNeg).am 2) then nI u else v) := by rw [bsG, eu, nI_clamp u31]
      rw [st]
      clear st
      have hC := pu.1
      have v1 : vp_in (1 : Int32) 3 := vp_in_nI (n := 1) (by omega) (by omega)
      have v2 : vp_in (2 : Int32) 3 := vp_in_nI (n := 2) (by omega) (by omega)
      have vi : vp_in (nI i) 12 := vp_in_nI (by omega) (by omega)
      have ci : (nI i).toNatClampNeg = i := nI_clamp (by omega)
      refine sX10_best_34 (sX10_best_36 (sX10_best_38 (fun z => absurd z (nI_ge (by omega) (by omega))) (fun _ => ?_)))
      refine sX10_best_41 (sX10_best_42 (by assumption) (by rfl) (sX10_best_45 (by assumption) (by rfl) (sX10_best_48 (sX10_best_49 (by assumption) (by rfl) (sX10_best_52 (sX10_best_54 hM7 vi ?_))))))
      rw [ci, eu]
      refine sX10_best_55 c1.2.2.1.1.2.2.2 (Or.inr rfl) (vp_in_nI (by omega) (by omega)) (by rw [nI_clamp (by omega)]; exact if_pos (by omega)) (sX10_best_56 (by assumption) (by rfl) (sX10_best_59 rfl ?_))
      have Nn : ∀ l9, ¬ (y ≤ (L.cs u).am 1 ∧ (v = -1 ∨ (L.cs u).am 2 < (L.cs v.toNatClampNeg).am 2)) → X w mX10_best (d + 17) (kO b S S' T n L t L2 G.1 P (mI (.ok (bsG L G.1 y m (i + 1) (if y ≤ (L.cs u).am 1 ∧ (v = -1 ∨ (L.cs u).am 2 < (L.cs v.toNatClampNeg).am 2) then nI u else v))))) 111 [some (.ref b), some (.int (nI j)), some (.int y), some (.ref (S + 76 + 7 * j)), some (.int (nI G.2)), some (.int v), some (.int la), some (.int (nI i)), some (.ref (S + 76 + 7 * u + 3)), l9] [] P7 := by
        intro l9 hh
        rw [if_neg hh]
        refine sX10_best_111 rfl (sX10_best_114 ?_)
        rw [nI_1]
        exact ih (i + 1) v la _ _ (by omega) hv
      have C : ∀ s : Int32, (s = 0 ∨ s = 1) → (s = 1 ↔ (v = -1 ∨ (L.cs u).am 2 < (L.cs v.toNatClampNeg).am 2)) → X w mX10_best (d + 17) (kO b S S' T n L t L2 G.1 P (mI (.ok (bsG L G.1 y m (i + 1) (if y ≤ (L.cs u).am 1 ∧ (v = -1 ∨ (L.cs u).am 2 < (L.cs v.toNatClampNeg).am 2) then nI u else v))))) 81 [some (.ref b), some (.int (nI j)), some (.int y), some (.ref (S + 76 + 7 * j)), some (.int (nI G.2)), some (.int v), some (.int la), some (.int (nI i)), some (.ref (S + 76 + 7 * u + 3)), l9] [.int s] P7 := by
        intro s hs01 hse
        refine sX10_best_81 rfl (sX10_best_83 (sX10_best_85 (sX10_best_86 pu.2.2.2.1 v1 ?_)))
        show X w mX10_best (d + 17) _ 87 _ [.int ((L.cs u).am 1)] P7
        refine sX10_best_87 (sX10_best_88 (fun z => ?_) (fun z => ?_))
        · exact Nn _ (fun q => by have := q.1; grind)
        refine sX10_best_91 (sX10_best_93 (fun z2 => ?_) (fun z2 => ?_))
        · exact Nn _ (fun q => by have := hse.mpr q.2; rw [z2] at this; exact absurd this (by decide))
        have hh : y ≤ (L.cs u).am 1 ∧ (v = -1 ∨ (L.cs u).am 2 < (L.cs v.toNatClampNeg).am 2) := ⟨by grind, hse.mp (hs01.resolve_left z2)⟩
        rw [if_pos hh]
        refine sX10_best_96 (sX10_best_97 (by assumption) (by rfl) (sX10_best_100 (sX10_best_102 hM7 vi ?_)))
        rw [ci, eu]
        refine sX10_best_103 rfl (sX10_best_105 (sX10_best_107 (sX10_best_108 pu.2.2.2.1 v2 (sX10_best_109 rfl (sX10_best_111 rfl (sX10_best_114 ?_))))))
        rw [nI_1]
        exact ih (i + 1) (nI u) _ _ _ (by omega) (Or.inr ⟨u, hu, rfl, rfl⟩)
      refine sX10_best_61 (sX10_best_63 (sX10_best_64 (fun z => ?_) (fun z => ?_)))
      · refine sX10_best_76 (sX10_best_77 ?_)
        exact C 1 (Or.inr rfl) ⟨fun _ => Or.inl z, fun _ => rfl⟩
      obtain ⟨p, hp, rfl, rfl⟩ := hv.resolve_left z
      rw [nI_clamp (show p < 2 ^ 31 by omega)] at C
      rw [nI_clamp (show p < 2 ^ 31 by omega)]
      refine sX10_best_67 (sX10_best_69 (sX10_best_70 pu.2.2.2.1 v2 ?_))
      show X w mX10_best (d + 17) _ 71 _ [.int ((L.cs u).am 2)] P7
      refine sX10_best_71 (sX10_best_73 (fun z2 => ?_) (fun z2 => ?_))
      · refine sX10_best_80 ?_
        exact C 0 (Or.inl rfl) ⟨fun q => absurd q (by decide), fun q => by rcases q with q | q; exact absurd q z; grind⟩
      · refine sX10_best_76 (sX10_best_77 ?_)
        exact C 1 (Or.inr rfl) ⟨fun _ => Or.inr (by grind), fun _ => rfl⟩
  refine sX10_best_23 rfl (sX10_best_25 (sX10_best_26 rfl (sX10_best_28 (sX10_best_29 rfl (sX10_best_31 (sX10_best_32 rfl ?_))))))
  exact Lp G.2 0 (-1) 0 none none (by omega) (Or.inl rfl)
end RM
