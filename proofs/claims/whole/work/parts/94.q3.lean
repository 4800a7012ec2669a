section Q3
variable {w : xWd} {d o : Nat} {F : mF} {T : Nat → Int32} {n b : Nat} {L : liT}
theorem m_brought {r t m : Nat} {f : Nat → Int32} (x : Int32) (hr : r < 25) (hE : ∀ F : mF, mE o F r = xA 0 96 (F.a r)) (ht : t < 24) (h1 : 1 ≤ m) (h4 : m ≤ 4) (hf : ∀ j, j < m → F.a r (4 * t + j) = f j) (hi : f 0 ≤ f (m - 1)) : yC w d mX11_brought [.ref (o + r), .int (nI (4 * t)), .int (nI m), .int x] o F (yR (some (.int (brt f m x))) F) := by
  refine yC_of (by decide) (ble rfl) (ls := [some (.ref (o + r)), some (.int (nI (4 * t))), some (.int (nI m)), some (.int x)]) rfl ?_
  have f0 : F.a r (4 * t) = f 0 := hf 0 (by omega)
  have fl : F.a r (4 * t + (m - 1)) = f (m - 1) := hf (m - 1) (by omega)
  have ei : nI (4 * t) + nI m - 1 = nI (4 * t + (m - 1)) := by
    obtain ⟨m', rfl⟩ : ∃ m', m = m' + 1 := ⟨m - 1, by omega⟩
    rw [← nI_1 m', Nat.add_sub_cancel, ← nI_add]
    grind
  rw [brt_m hi]
  refine yX11_brought_0 (yX11_brought_1 (yX11_brought_2 ?_))
  refine yX11_brought_3 hr (hE F) (i := 4 * t) rfl (by omega) ?_
  rw [f0]
  refine yX11_brought_4 (fun h9 => ?_) (fun h9 => ?_)
  · rw [if_neg (by grind)]
    refine yX11_brought_13 (yX11_brought_14 (yX11_brought_15 (yX11_brought_16 (yX11_brought_17 (yX11_brought_18 (yX11_brought_19 ?_))))))
    rw [ei]
    refine yX11_brought_20 hr (hE F) (i := 4 * t + (m - 1)) rfl (by omega) ?_
    rw [fl]
    refine yX11_brought_21 (fun h8 => ?_) (fun h8 => ?_)
    · rw [if_neg (by grind)]
      refine yX11_brought_34 (yX11_brought_35 ⟨rfl, rfl⟩)
    · rw [if_pos (by grind)]
      refine yX11_brought_24 (yX11_brought_25 (yX11_brought_26 (yX11_brought_27 (yX11_brought_28 (yX11_brought_29 ?_)))))
      rw [ei]
      refine yX11_brought_30 hr (hE F) (i := 4 * t + (m - 1)) rfl (by omega) ?_
      rw [fl]
      refine yX11_brought_31 (yX11_brought_35 ⟨rfl, rfl⟩)
  · rw [if_pos (by grind)]
    refine yX11_brought_7 (yX11_brought_8 ?_)
    refine yX11_brought_9 hr (hE F) (i := 4 * t) rfl (by omega) ?_
    rw [f0]
    refine yX11_brought_10 (yX11_brought_35 ⟨rfl, rfl⟩)
theorem m_spanOf {r t m : Nat} {f : Nat → Int32} (x : Int32) (hr : r < 25) (hE : ∀ F : mF, mE o F r = xA 0 96 (F.a r)) (ht : t < 24) (h1 : 2 ≤ m) (h4 : m ≤ 4) (hf : ∀ j, j < m → F.a r (4 * t + j) = f j) : yC w d mX11_spanOf [.ref (o + r), .int (nI (4 * t)), .int (nI m), .int x] o F (yR (some (.int (nI (sps f m x)))) F) := by
  rw [← msp_s f x h1]
  refine yC_of (by decide) (ble rfl) (ls := [some (.ref (o + r)), some (.int (nI (4 * t))), some (.int (nI m)), some (.int x), none, none]) rfl ?_
  have em : nI m - 1 = nI (m - 1) := pk_sub (b := 1) (by omega)
  have Lp : ∀ k i s, i + k = m - 1 → Y w mX11_spanOf d (yR (some (.int (nI (msp f x k i s)))) F) o 6 [some (.ref (o + r)), some (.int (nI (4 * t))), some (.int (nI m)), some (.int x), some (.int (nI s)), some (.int (nI i))] [] F := by
    intro k
    induction k with
    | zero =>
      intro i s hi
      refine yX11_spanOf_6 (yX11_spanOf_8 (yX11_spanOf_9 (yX11_spanOf_10 ?_)))
      rw [em]
      refine yX11_spanOf_11 (fun _ => ?_) (fun h9 => absurd (nI_le (by omega) (by omega)) h9)
      refine yX11_spanOf_39 (yX11_spanOf_41 ⟨rfl, rfl⟩)
    | succ k ih =>
      intro i s hi
      refine yX11_spanOf_6 (yX11_spanOf_8 (yX11_spanOf_9 (yX11_spanOf_10 ?_)))
      rw [em]
      refine yX11_spanOf_11 (fun h9 => absurd h9 (nI_ge (by omega) (by omega))) (fun _ => ?_)
      refine yX11_spanOf_14 (yX11_spanOf_15 (yX11_spanOf_16 (yX11_spanOf_18 ?_)))
      rw [nI_add]
      refine yX11_spanOf_19 hr (hE F) (i := 4 * t + i) rfl (by omega) ?_
      rw [hf i (by omega)]
      refine yX11_spanOf_20 (yX11_spanOf_21 (fun h9 => ?_) (fun h9 => ?_))
      · refine yX11_spanOf_29 (yX11_spanOf_31 rfl (yX11_spanOf_33 rfl (yX11_spanOf_36 ?_)))
        rw [nI_1, show msp f x (k + 1) i s = msp f x k (i + 1) s by show msp f x k (i + 1) (if f i ≤ x then i else s) = _; rw [if_neg (by grind)]]
        exact ih (i + 1) s (by omega)
      · refine yX11_spanOf_24 (yX11_spanOf_26 (yX11_spanOf_31 rfl (yX11_spanOf_33 rfl (yX11_spanOf_36 ?_))))
        rw [nI_1, show msp f x (k + 1) i s = msp f x k (i + 1) i by show msp f x k (i + 1) (if f i ≤ x then i else s) = _; rw [if_pos (by grind)]]
        exact ih (i + 1) i (by omega)
  refine yX11_spanOf_0 (yX11_spanOf_1 rfl (yX11_spanOf_3 (yX11_spanOf_4 rfl ?_)))
  exact Lp (m - 1) 0 0 (by omega)
def mxm (v u a c x : Int64) : Int64 := v + (if (u - v) * (x - a) < ((u - v) * (x - a)) / (c - a) * (c - a) then ((u - v) * (x - a)) / (c - a) - 1 else ((u - v) * (x - a)) / (c - a))
theorem m_mixed {v u a c x : Int64} (h : ¬ c - a = 0) : yC w d mX11_mixed [.long v, .long u, .long a, .long c, .long x] o F (yR (some (.long (mxm v u a c x))) F) := by
  refine yC_of (by decide) (ble rfl) (ls := [some (.long v), none, some (.long u), none, some (.long a), none, some (.long c), none, some (.long x), none, none, none, none, none, none, none]) rfl ?_
  unfold mxm
  refine yX11_mixed_0 (yX11_mixed_1 (yX11_mixed_2 (yX11_mixed_3 (yX11_mixed_5 (yX11_mixed_7 (yX11_mixed_8 (yX11_mixed_9 rfl (yX11_mixed_11 (yX11_mixed_13 (yX11_mixed_15 (yX11_mixed_16 rfl (yX11_mixed_18 (yX11_mixed_20 (yX11_mixed_22 h (yX11_mixed_23 rfl (yX11_mixed_25 (yX11_mixed_26 (yX11_mixed_28 (yX11_mixed_30 (yX11_mixed_31 (yX11_mixed_33 (yX11_mixed_34 (fun h9 => ?_) (fun h9 => ?_)))))))))))))))))))))))
  · rw [lg_cmp_le] at h9
    refine yX11_mixed_44 (yX11_mixed_46 (yX11_mixed_47 ⟨by rw [if_neg (Int64.not_lt.mpr h9)], rfl⟩))
  · rw [lg_cmp_le] at h9
    refine yX11_mixed_37 (yX11_mixed_39 (yX11_mixed_40 (yX11_mixed_41 (yX11_mixed_46 (yX11_mixed_47 ⟨by rw [if_pos (Int64.not_le.mp h9)], rfl⟩)))))
/-- a span of an axis, and what is joined over it -/
theorem mx_e {f : Nat → Int32} {sz : Nat} {p q ld : Int32} (h2 : 2 ≤ sz) (hinc : ∀ j, j + 1 < sz → f j < f (j + 1)) (hn : ∀ j, j < sz → nb (f j)) (hp : nb p) (hq : nb q) :
    sps f sz (brt f sz ld) + 1 < sz ∧ spe sz (sps f sz (brt f sz ld)) = sps f sz (brt f sz ld) + 1 ∧ nb (mxd f sz p q (sps f sz (brt f sz ld)) (brt f sz ld)) ∧ ¬ (f (sps f sz (brt f sz ld) + 1)).toInt64 - (f (sps f sz (brt f sz ld))).toInt64 = 0 ∧
      mxm p.toInt64 q.toInt64 (f (sps f sz (brt f sz ld))).toInt64 (f (sps f sz (brt f sz ld) + 1)).toInt64 (brt f sz ld).toInt64 = (mxd f sz p q (sps f sz (brt f sz ld)) (brt f sz ld)).toInt64 := by
  have hfl : f 0 ≤ f (sz - 1) := inc_le hinc 0 (sz - 1) (by omega) (by omega)
  obtain ⟨b0, b1⟩ := brt_b (x := ld) hfl
  generalize brt f sz ld = x at b0 b1 ⊢
  obtain ⟨c1, c2, c3⟩ := sps_c h2 b0 b1
  have c4 := hinc _ c1
  obtain ⟨ra, ha, ea⟩ := hn _ (by omega : sps f sz x < sz)
  obtain ⟨rb, hb, eb⟩ := hn _ c1
  generalize sps f sz x = s at c1 c2 c3 c4 ea eb ⊢
  have e : spe sz s = s + 1 := by unfold spe; rw [if_neg (by omega)]
  obtain ⟨p', hp', rfl⟩ := hp
  obtain ⟨q', hq', rfl⟩ := hq
  unfold mxd
  rw [e, if_neg (by grind)]
  rw [ea] at c2 c4 ⊢
  rw [eb] at c3 c4 ⊢
  obtain ⟨x', _, rfl⟩ := nI_of2 (x := x) (M := 2147483647) (n := 2147483647) (by decide) (by have : nI 0 ≤ nI ra := nI_le (Nat.zero_le _) (by omega); have : (0 : Int32) ≤ nI ra := this; grind) (le_mx x)
  have d1 : ra ≤ x' := (nI_leI (by omega) (by omega)).mp c2
  have d2 : x' ≤ rb := (nI_leI (by omega) (by omega)).mp c3
  have d3 : ra < rb := by
    rcases Nat.lt_or_ge ra rb with z | z
    · exact z
    · have := nI_le z (by omega : ra < 2 ^ 31); grind
  obtain ⟨r, hr, e1, e2⟩ := mix_e hp' hq' d3 d1 d2 hb
  refine ⟨c1, rfl, ⟨r, hr, e1⟩, ?_, ?_⟩
  · intro z
    have z := congrArg Int64.toInt z
    rw [j_sub (by rw [nI_j (by omega)]; omega) (by rw [nI_j (by omega)]; omega) (by rw [nI_j (by omega)]; omega) (by rw [nI_j (by omega)]; omega), nI_j (by omega), nI_j (by omega)] at z
    have z : (rb : Int) - ra = 0 := z
    omega
  · rw [e1]
    exact e2
theorem ax_1 {f : Nat → Int32} {p q ld : Int32} : sps f 1 (brt f 1 ld) = 0 ∧ spe 1 0 = 0 ∧ mxd f 1 p q 0 (brt f 1 ld) = p := by
  refine ⟨rfl, rfl, ?_⟩
  unfold mxd
  exact if_pos (Int32.le_refl _)
theorem jbl_nb {x : taT} (h : wT x) {k : Nat} (hk : k < x.2.1) (ld : Int32) : nb (jbl x.2.2.1 x.2.2.2.1 x.2.2.2.2 k ld) := by
  obtain ⟨a1, a2, b1, b2, a3, b3, a4, b4, c⟩ := h
  have hmul : k * x.2.2.2.1 + x.2.2.2.1 ≤ x.2.1 * x.2.2.2.1 := by
    have := Nat.mul_le_mul_right x.2.2.2.1 (show k + 1 ≤ x.2.1 by omega)
    rw [Nat.add_mul, Nat.one_mul] at this
    exact this
  have hv : ∀ j, j < x.2.2.2.1 → nb (x.2.2.2.2 (k * x.2.2.2.1 + j)) := fun j hj => c _ (by omega)
  unfold jbl
  generalize k * x.2.2.2.1 = K at hv
  generalize x.2.2.2.2 = v at hv
  generalize x.2.2.1 = lf at b3 b4
  generalize x.2.2.2.1 = ln at b1 b2 b3 b4 hv
  rcases Nat.lt_or_ge 1 ln with z | z
  · have e := mx_e (p := v K) (q := v K) (ld := ld) z b3 b4 (hv 0 (by omega)) (hv 0 (by omega))
    rw [e.2.1]
    exact (mx_e (ld := ld) z b3 b4 (hv _ (by omega)) (hv _ e.1)).2.2.1
  · obtain rfl : ln = 1 := by omega
    rw [(ax_1 (f := lf) (p := 0) (q := 0) (ld := ld)).1, (ax_1 (f := lf) (p := 0) (q := 0) (ld := ld)).2.1, ax_1.2.2]
    exact hv 0 (by omega)
theorem m_byLoad {t k : Nat} {x : taT} (ld : Int32) (ht : t < 24) (hr : tabR F t x) (hw : wT x) (hk : k < x.2.1) : yC w (d + 1) mX11_byLoad [.ref o, .int (nI t), .int (nI k), .int ld] o F (yR (some (.long (jbl x.2.2.1 x.2.2.2.1 x.2.2.2.2 k ld).toInt64)) F) := by
  obtain ⟨r1, r2, r3, r4, r5⟩ := hr
  obtain ⟨a1, a2, b1, b2, a3, b3, a4, b4, c⟩ := hw
  have hmul : k * x.2.2.2.1 + x.2.2.2.1 ≤ x.2.1 * x.2.2.2.1 := by
    have := Nat.mul_le_mul_right x.2.2.2.1 (show k + 1 ≤ x.2.1 by omega)
    rw [Nat.add_mul, Nat.one_mul] at this
    exact this
  have p16 := p44 a2 b2
  have hv : ∀ j, j < x.2.2.2.1 → nb (x.2.2.2.2 (k * x.2.2.2.1 + j)) := fun j hj => c _ (by omega)
  have hv5 : ∀ j, j < x.2.2.2.1 → F.a 8 (16 * t + k * x.2.2.2.1 + j) = x.2.2.2.2 (k * x.2.2.2.1 + j) := fun j hj => by rw [Nat.add_assoc]; exact r5 _ (by omega)
  unfold jbl
  have eat : (16 : Int32) * nI t + nI x.2.2.2.1 * nI k = nI (16 * t + k * x.2.2.2.1) := by rw [pk_mul, Nat.mul_comm x.2.2.2.1 k]; exact ixm 16 _ _
  have hK : k * x.2.2.2.1 + x.2.2.2.1 ≤ 16 := by omega
  generalize k * x.2.2.2.1 = K at hv hv5 eat hK ⊢
  generalize x.2.2.2.2 = v at hv hv5 ⊢
  generalize x.2.2.1 = lf at b3 b4 r4 ⊢
  generalize x.2.2.2.1 = ln at b1 b2 b3 b4 hv hv5 r4 r2 eat hK ⊢
  refine yC_of (by decide) (ble rfl) (ls := [some (.ref o), some (.int (nI t)), some (.int (nI k)), some (.int ld), none, none, none, none]) rfl ?_
  refine yX11_byLoad_0 (yX11_byLoad_1 (yX11_byLoad_4 (yX11_byLoad_5 (ble rfl) rfl (i := t) rfl ht ?_)))
  rw [r2]
  refine yX11_byLoad_6 rfl (yX11_byLoad_8 (yX11_byLoad_9 (yX11_byLoad_12 (yX11_byLoad_13 (yX11_byLoad_14 ?_)))))
  rw [show (4 : Int32) * nI t = nI (4 * t) from pk_mul 4 _]
  refine yX11_byLoad_15 (yX11_byLoad_17 (yX11_byLoad_18 (ble rfl) (m_brought (r := 7) (f := lf) ld (by decide) (fun _ => rfl) ht b1 b2 r4 (inc_le b3 0 (ln - 1) (by omega) (by omega))) (yX11_byLoad_21 rfl (yX11_byLoad_23 (yX11_byLoad_25 (yX11_byLoad_26 (yX11_byLoad_27 (yX11_byLoad_29 (yX11_byLoad_30 (yX11_byLoad_31 ?_))))))))))
  rw [eat]
  refine yX11_byLoad_32 rfl (yX11_byLoad_34 (yX11_byLoad_36 (yX11_byLoad_37 (fun h9 => ?_) (fun h9 => ?_))))
  · have z : 2 ≤ ln := by
      rcases Nat.lt_or_ge 1 ln with z | z
      · exact z
      · exact absurd (by rw [show ln = 1 by omega]; rfl) h9
    have e := mx_e (p := v K) (q := v K) (ld := ld) z b3 b4 (hv 0 (by omega)) (hv 0 (by omega))
    have e5 := mx_e (ld := ld) z b3 b4 (hv (sps lf ln (brt lf ln ld)) (by omega)) (hv (sps lf ln (brt lf ln ld) + 1) e.1)
    have e1 := e.1
    rw [e.2.1]
    have g1 := r4 (sps lf ln (brt lf ln ld)) (by omega)
    have g2 := r4 (sps lf ln (brt lf ln ld) + 1) e.1
    have g3 := hv5 (sps lf ln (brt lf ln ld)) (by omega)
    have g4 := hv5 (sps lf ln (brt lf ln ld) + 1) e.1
    refine yX11_byLoad_49 (yX11_byLoad_50 (yX11_byLoad_53 (yX11_byLoad_54 (yX11_byLoad_55 ?_))))
    rw [show (4 : Int32) * nI t = nI (4 * t) from pk_mul 4 _]
    refine yX11_byLoad_56 (yX11_byLoad_58 (yX11_byLoad_60 (ble rfl) (m_spanOf (r := 7) (f := lf) (brt lf ln ld) (by decide) (fun _ => rfl) ht z b2 r4) ?_))
    generalize hs : sps lf ln (brt lf ln ld) = s at e1 e5 g1 g2 g3 g4 ⊢
    refine yX11_byLoad_63 rfl (yX11_byLoad_65 (yX11_byLoad_66 (yX11_byLoad_69 (yX11_byLoad_71 (yX11_byLoad_73 (yX11_byLoad_74 (ble rfl) rfl (i := 16 * t + K + s) (nI_add _ _) (by omega) ?_))))))
    rw [g3]
    refine yX11_byLoad_75 (yX11_byLoad_76 (yX11_byLoad_77 (yX11_byLoad_80 (yX11_byLoad_82 (yX11_byLoad_84 (yX11_byLoad_85 (yX11_byLoad_86 (yX11_byLoad_87 (ble rfl) rfl (i := 16 * t + K + (s + 1)) (by rw [nI_add, nI_1]; rfl) (by omega) ?_))))))))
    rw [g4]
    refine yX11_byLoad_88 (yX11_byLoad_89 (yX11_byLoad_90 (yX11_byLoad_93 (yX11_byLoad_94 (yX11_byLoad_95 (yX11_byLoad_96 (yX11_byLoad_98 (yX11_byLoad_99 (ble rfl) rfl (i := 4 * t + s) (ixm 4 _ _) (by omega) ?_))))))))
    rw [g1]
    refine yX11_byLoad_100 (yX11_byLoad_101 (yX11_byLoad_102 (yX11_byLoad_105 (yX11_byLoad_106 (yX11_byLoad_107 (yX11_byLoad_108 (yX11_byLoad_110 (yX11_byLoad_111 (yX11_byLoad_112 (yX11_byLoad_113 (ble rfl) rfl (i := 4 * t + (s + 1)) (by rw [show (4 : Int32) * nI t + nI s = nI (4 * t + s) from ixm 4 _ _, nI_1]; rfl) (by omega) ?_))))))))))
    rw [g2]
    refine yX11_byLoad_114 (yX11_byLoad_115 (yX11_byLoad_117 (yX11_byLoad_118 (ble rfl) (m_mixed e5.2.2.2.1) ?_)))
    rw [e5.2.2.2.2]
    refine yX11_byLoad_121 ⟨rfl, rfl⟩
  · have z : ln = 1 := (nI_eq (b := 1) (by omega) (by omega)).mp h9
    subst z
    rw [(ax_1 (f := lf) (p := 0) (q := 0) (ld := ld)).1, (ax_1 (f := lf) (p := 0) (q := 0) (ld := ld)).2.1, ax_1.2.2]
    have g := hv5 0 (by omega)
    refine yX11_byLoad_40 (yX11_byLoad_41 (yX11_byLoad_44 (yX11_byLoad_46 (ble rfl) rfl (i := 16 * t + K) rfl (by omega) ?_)))
    rw [show F.a 8 (16 * t + K) = v (K + 0) from g]
    refine yX11_byLoad_47 (yX11_byLoad_48 ⟨rfl, rfl⟩)
def aDelay (L : liT) (k a sl ld r : Int32) : Except Nat Int32 := if ix k L.cc then (if ix a (L.cs k.toNatClampNeg).ac then (if sl < 0 ∨ 1000000 < sl ∨ ld < 0 ∨ 1000000 < ld then .error 2 else
  .ok (jnd (L.ts ((L.cs k.toNatClampNeg).arcs (a.toNatClampNeg * 5 + if r = 0 then 4 else 3)).toNatClampNeg).1 (L.ts ((L.cs k.toNatClampNeg).arcs (a.toNatClampNeg * 5 + if r = 0 then 4 else 3)).toNatClampNeg).2.1 (L.ts ((L.cs k.toNatClampNeg).arcs (a.toNatClampNeg * 5 + if r = 0 then 4 else 3)).toNatClampNeg).2.2.1 (L.ts ((L.cs k.toNatClampNeg).arcs (a.toNatClampNeg * 5 + if r = 0 then 4 else 3)).toNatClampNeg).2.2.2.1 (L.ts ((L.cs k.toNatClampNeg).arcs (a.toNatClampNeg * 5 + if r = 0 then 4 else 3)).toNatClampNeg).2.2.2.2 sl ld)) else .error 1) else .error 1
theorem q_delay (hz : mZ F T n b L) (k a sl ld r : Int32) : yC w (d + 2) mX11_delay [.ref o, .int k, .int a, .int sl, .int ld, .int r] o F (yR (some (.int (vI (aDelay L k a sl ld r)))) (F.uS 0 (eN (aDelay L k a sl ld r)))) := by
  refine yC_of (by decide) (ble rfl) (ls := [some (.ref o), some (.int k), some (.int a), some (.int sl), some (.int ld), some (.int r), none, none, none, none]) rfl ?_
  have E : ∀ e : Nat, (e = 1 ∨ e = 2) → aDelay L k a sl ld r = .error e → Y w mX11_delay (d + 2) (yR (some (.int (vI (aDelay L k a sl ld r)))) (F.uS 0 (eN (aDelay L k a sl ld r)))) o 43 [some (.ref o), some (.int k), some (.int a), some (.int sl), some (.int ld), some (.int r), none, none, none, none] [.int (nI e), .ref o] F := by
    intro e he h
    rw [h]
    rcases he with rfl | rfl
    · refine yX11_delay_43 (yX11_delay_46 (yX11_delay_47 (yX11_delay_50 (fun h => absurd h n10) (fun _ => ?_))))
      refine yX11_delay_53 (yX11_delay_54 ⟨rfl, rfl⟩)
    · refine yX11_delay_43 (yX11_delay_46 (yX11_delay_47 (yX11_delay_50 (fun h => absurd h n20) (fun _ => ?_))))
      refine yX11_delay_53 (yX11_delay_54 ⟨rfl, rfl⟩)
  refine yX11_delay_0 (yX11_delay_1 (yX11_delay_2 (yX11_delay_3 (yX11_delay_4 (ble rfl) (m_isArc hz k a) (yX11_delay_7 (fun h6 => ?_) (fun h6 => ?_))))))
  rotate_left
  · have h6 := b1_0 h6
    refine yX11_delay_10 (yX11_delay_11 ?_)
    refine E 1 (Or.inl rfl) ?_
    unfold aDelay
    by_cases z : ix k L.cc
    · rw [if_pos z, if_neg (fun y => h6 ⟨z, y⟩)]
    · rw [if_neg z]
  obtain ⟨g6, g7⟩ := b1_1 h6
  obtain ⟨j, hj, rfl⟩ := ix_of hz.cc g6
  obtain ⟨rc, wc, _, c24, hc, j31⟩ := hz.cell hj
  have w3 := wc.2.2.1
  rw [nI_clamp j31] at g7
  obtain ⟨i, hi, rfl⟩ := ix_of (by omega) g7
  have e1 : ∀ t, (L.cs j).arcs (i * 5 + if r = 0 then 4 else 3) = nI t → t < 2 ^ 31 → aDelay L (nI j) (nI i) sl ld r = if sl < 0 ∨ 1000000 < sl ∨ ld < 0 ∨ 1000000 < ld then .error 2 else .ok (jnd (L.ts t).1 (L.ts t).2.1 (L.ts t).2.2.1 (L.ts t).2.2.2.1 (L.ts t).2.2.2.2 sl ld) := by
    intro t ht h31
    unfold aDelay
    rw [if_pos g6, nI_clamp j31, if_pos g7, nI_clamp (by omega), ht, nI_clamp h31]
  obtain ⟨t, htc, et⟩ : ∃ t, t < L.tc ∧ (L.cs j).arcs (i * 5 + if r = 0 then 4 else 3) = nI t := by
    obtain ⟨_, _, ⟨t3, h3, g3⟩, t4, h4, g4⟩ := wc.2.2.2.2.2.2.2.1 i hi
    split
    · exact ⟨t4, h4, g4⟩
    · exact ⟨t3, h3, g3⟩
  obtain ⟨_, _, _, s3, hb, hL, hw⟩ := hz
  have htc12 := hw.1
  have e1 := e1 t et (by omega)
  have B : (sl < 0 ∨ 1000000 < sl ∨ ld < 0 ∨ 1000000 < ld) → Y w mX11_delay (d + 2) (yR (some (.int (vI (aDelay L (nI j) (nI i) sl ld r)))) (F.uS 0 (eN (aDelay L (nI j) (nI i) sl ld r)))) o 38 [some (.ref o), some (.int (nI j)), some (.int (nI i)), some (.int sl), some (.int ld), some (.int r), none, none, none, none] [.ref o] F := by
    intro z
    refine yX11_delay_38 (yX11_delay_39 ?_)
    exact E 2 (Or.inr rfl) (e1.trans (if_pos z))
  refine yX11_delay_14 (yX11_delay_15 (fun g1 => ?_) (fun g1 => ?_))
  · exact B (Or.inl g1)
  refine yX11_delay_18 (yX11_delay_19 (yX11_delay_22 (fun g2 => ?_) (fun g2 => ?_)))
  · exact B (Or.inr (Or.inl (by grind)))
  refine yX11_delay_25 (yX11_delay_27 (fun g3 => ?_) (fun g3 => ?_))
  · exact B (Or.inr (Or.inr (Or.inl g3)))
  refine yX11_delay_30 (yX11_delay_32 (yX11_delay_35 (fun g4 => ?_) (fun g4 => ?_)))
  rotate_left
  · exact B (Or.inr (Or.inr (Or.inr (by grind))))
  rw [e1, if_neg (by rintro (z | z | z | z) <;> grind)]
  clear B E e1
  refine yX11_delay_42 (yX11_delay_43 (yX11_delay_46 (yX11_delay_47 (yX11_delay_50 (fun _ => ?_) (fun h => absurd z00 h)))))
  have rt := hL.2.2.1 t htc
  have wt := hw.2.2.2.2.1 t htc
  obtain ⟨r1, r2, r3, r4, r5⟩ := id rt
  obtain ⟨a1, a2, b1, b2, a3, b3, a4, b4, c5⟩ := id wt
  have t24 : 12 * b + t < 24 := by omega
  have C : Y w mX11_delay (d + 2) (yR (some (.int (jnd (L.ts t).1 (L.ts t).2.1 (L.ts t).2.2.1 (L.ts t).2.2.2.1 (L.ts t).2.2.2.2 sl ld))) (F.uS 0 0)) o 95 [some (.ref o), some (.int (nI j)), some (.int (nI i)), some (.int sl), some (.int ld), some (.int r), none, none, none, none] [.int (nI (12 * b + t))] (F.uS 0 0) := by
    have jn := fun k hk => jbl_nb wt (k := k) hk ld
    have bl := fun k (hk : k < (L.ts t).2.1) => m_byLoad (w := w) (d := d) (o := o) (F := F.uS 0 0) ld t24 rt wt hk
    unfold jnd
    generalize (L.ts t).2.2.2.2 = vv at jn bl ⊢
    generalize (L.ts t).2.2.2.1 = ln at jn bl ⊢
    generalize (L.ts t).2.2.1 = lf at jn bl ⊢
    generalize (L.ts t).1 = sf at a3 a4 r3 ⊢
    generalize (L.ts t).2.1 = ss at a1 a2 a3 a4 r1 r3 jn bl ⊢
    refine yX11_delay_95 rfl (yX11_delay_97 (yX11_delay_98 (yX11_delay_101 (yX11_delay_103 (ble rfl) rfl (i := 12 * b + t) rfl t24 ?_))))
    rw [show (F.uS 0 0).a 4 (12 * b + t) = nI ss from r1]
    refine yX11_delay_104 rfl (yX11_delay_106 (yX11_delay_108 (yX11_delay_109 (fun h9 => ?_) (fun h9 => ?_))))
    · have z : 2 ≤ ss := by
        rcases Nat.lt_or_ge 1 ss with z | z
        · exact z
        · exact absurd (by rw [show ss = 1 by omega]; rfl) h9
      refine yX11_delay_123 (yX11_delay_124 (yX11_delay_127 (yX11_delay_128 (yX11_delay_130 ?_))))
      rw [show (4 : Int32) * nI (12 * b + t) = nI (4 * (12 * b + t)) from pk_mul 4 _]
      refine yX11_delay_131 (yX11_delay_133 (yX11_delay_134 (ble rfl) (m_brought (F := F.uS 0 0) (r := 6) (f := sf) sl (by decide) (fun _ => rfl) t24 a1 a2 r3 (inc_le a3 0 (ss - 1) (by omega) (by omega))) (yX11_delay_137 rfl (yX11_delay_139 (yX11_delay_140 (yX11_delay_143 (yX11_delay_144 (yX11_delay_146 ?_))))))))
      rw [show (4 : Int32) * nI (12 * b + t) = nI (4 * (12 * b + t)) from pk_mul 4 _]
      refine yX11_delay_147 (yX11_delay_149 (yX11_delay_151 (ble rfl) (m_spanOf (F := F.uS 0 0) (r := 6) (f := sf) (brt sf ss sl) (by decide) (fun _ => rfl) t24 z a2 r3) ?_))
      have e := mx_e (p := 0) (q := 0) (ld := sl) z a3 a4 ⟨0, by omega, rfl⟩ ⟨0, by omega, rfl⟩
      have e5 := mx_e (ld := sl) z a3 a4 (jn (sps sf ss (brt sf ss sl)) (by omega)) (jn (sps sf ss (brt sf ss sl) + 1) e.1)
      have e1 := e.1
      rw [e.2.1]
      have g1 := r3 (sps sf ss (brt sf ss sl)) (by omega)
      have g2 := r3 (sps sf ss (brt sf ss sl) + 1) e.1
      generalize sps sf ss (brt sf ss sl) = s at e1 e5 g1 g2 ⊢
      refine yX11_delay_154 rfl (yX11_delay_156 (yX11_delay_157 (yX11_delay_159 (yX11_delay_161 (yX11_delay_163 (ble rfl) (bl s (by omega)) (yX11_delay_166 (yX11_delay_167 (yX11_delay_169 (yX11_delay_171 (yX11_delay_172 ?_))))))))))
      rw [nI_1]
      refine yX11_delay_173 (yX11_delay_175 (ble rfl) (bl (s + 1) e1) (yX11_delay_178 (yX11_delay_179 (yX11_delay_182 (yX11_delay_183 (yX11_delay_185 (yX11_delay_186 (yX11_delay_188 (yX11_delay_189 (ble rfl) rfl (i := 4 * (12 * b + t) + s) (ixm 4 _ _) (by omega) ?_)))))))))
      rw [show (F.uS 0 0).a 6 (4 * (12 * b + t) + s) = sf s from g1]
      refine yX11_delay_190 (yX11_delay_191 (yX11_delay_192 (yX11_delay_195 (yX11_delay_196 (yX11_delay_198 (yX11_delay_199 (yX11_delay_201 (yX11_delay_202 (yX11_delay_203 (yX11_delay_204 (ble rfl) rfl (i := 4 * (12 * b + t) + (s + 1)) (by rw [show (4 : Int32) * nI (12 * b + t) + nI s = nI (4 * (12 * b + t) + s) from ixm 4 _ _, nI_1]; rfl) (by omega) ?_))))))))))
      rw [show (F.uS 0 0).a 6 (4 * (12 * b + t) + (s + 1)) = sf (s + 1) from g2]
      refine yX11_delay_205 (yX11_delay_206 (yX11_delay_208 (yX11_delay_209 (ble rfl) (m_mixed e5.2.2.2.1) ?_)))
      rw [e5.2.2.2.2]
      refine yX11_delay_212 ?_
      rw [Int32.toInt32_toInt64]
      refine yX11_delay_213 ⟨rfl, rfl⟩
    · have z : ss = 1 := (nI_eq (b := 1) (by omega) (by omega)).mp h9
      subst z
      rw [(ax_1 (f := sf) (p := 0) (q := 0) (ld := sl)).1, (ax_1 (f := sf) (p := 0) (q := 0) (ld := sl)).2.1, ax_1.2.2]
      refine yX11_delay_112 (yX11_delay_113 (yX11_delay_115 (yX11_delay_116 (yX11_delay_118 (ble rfl) (bl 0 (by omega)) (yX11_delay_121 ?_)))))
      rw [Int32.toInt32_toInt64]
      refine yX11_delay_122 ⟨rfl, rfl⟩
  have D : ∀ q : Nat, q < 5 → (L.cs j).arcs (i * 5 + q) = nI t → Y w mX11_delay (d + 2) (yR (some (.int (jnd (L.ts t).1 (L.ts t).2.1 (L.ts t).2.2.1 (L.ts t).2.2.2.1 (L.ts t).2.2.2.2 sl ld))) (F.uS 0 0)) o 92 [some (.ref o), some (.int (nI j)), some (.int (nI i)), some (.int sl), some (.int ld), some (.int r), none, none, none, none] [.int (nI q), .int (5 * (10 * (12 * (F.uS 0 0).s 3 + nI j) + nI i)), .ref (o + 19), .int (12 * (F.uS 0 0).s 3)] (F.uS 0 0) := by
    intro q hq eq
    refine yX11_delay_92 (yX11_delay_93 (ble rfl) rfl (i := 50 * (12 * b + j) + (i * 5 + q)) ?_ (by omega) ?_)
    · rw [show (12 : Int32) * (F.uS 0 0).s 3 + nI j = nI (12 * b + j) from hc, show (10 : Int32) * nI (12 * b + j) + nI i = nI (10 * (12 * b + j) + i) from ixm 10 _ _, show (5 : Int32) * nI (10 * (12 * b + j) + i) + nI q = nI (5 * (10 * (12 * b + j) + i) + q) from ixm 5 _ _]
      congr 1
      omega
    rw [show (F.uS 0 0).a 19 (50 * (12 * b + j) + (i * 5 + q)) = nI t from (rc.2.2.2.2.2.2.2.2.2.2.2.1 (i * 5 + q) (by omega)).trans eq, show (F.uS 0 0).s 3 = nI b from s3]
    refine yX11_delay_94 ?_
    rw [show (12 : Int32) * nI b + nI t = nI (12 * b + t) from ixm 12 _ _]
    exact C
  refine yX11_delay_55 (yX11_delay_57 (yX11_delay_58 (yX11_delay_61 (yX11_delay_62 (yX11_delay_63 (yX11_delay_66 (yX11_delay_67 (yX11_delay_69 (yX11_delay_71 (yX11_delay_72 (yX11_delay_75 (yX11_delay_76 (yX11_delay_77 (yX11_delay_78 (yX11_delay_79 (yX11_delay_80 (yX11_delay_81 (yX11_delay_82 (yX11_delay_84 (fun h9 => ?_) (fun h9 => ?_))))))))))))))))))))
  · rw [if_pos h9] at et
    refine yX11_delay_91 ?_
    exact D 4 (by omega) et
  · rw [if_neg h9] at et
    refine yX11_delay_87 (yX11_delay_88 ?_)
    exact D 3 (by omega) et
end Q3
