section RFun
variable {w : xWd} {d : Nat} {P P1 P2 : xH} {b S n q k : Nat} {T : Nat → Int32} {t : tSt} {L : liT}
theorem r_opens (h : rP w P b S T n q t L) : xC w (d + 5) mX5_readOpenings [.ref (b + 162)] P (rO w b S T n P (bnd (rOpens (tkOf T n) 1400 t q) (fun x => .ok (none, x.2, x.1, L)))) := by
  refine xC_of (by decide) (ble rfl) (ls := [some (.ref (b + 162)), none]) rfl ?_
  have Lp : ∀ m i t q P1, i + m = 1400 → rP w P1 b S T n q t L → rF P P1 b S → X w mX5_readOpenings (d + 5) (rO w b S T n P (bnd (rOpens (tkOf T n) m t q) (fun x => .ok (none, x.2, x.1, L)))) 2 [some (.ref (b + 162)), some (.int (nI i))] [] P1 := by
    intro m
    induction m with
    | zero =>
      intro i t q P1 hi h1 F1
      refine sX5_readOpenings_2 (sX5_readOpenings_3 (sX5_readOpenings_6 (fun _ => ?_) (fun z => absurd (nI_le (a := 1400) (by omega) (by omega)) z)))
      refine sX5_readOpenings_98 ⟨rfl, h1, F1⟩
    | succ m ih =>
      intro i t q P1 hi h1 F1
      obtain ⟨hR, hW, _, hT, _, _, _, _, hr, ht, _⟩ := id h1
      have hTO := hT.1
      have St : ∀ t' P2, rP w P2 b S T n q t' L → rF P P2 b S → X w mX5_readOpenings (d + 5) (rO w b S T n P (bnd (rOpens (tkOf T n) m t' (sE T n q)) (fun x => .ok (none, x.2, x.1, L)))) 85 [some (.ref (b + 162)), some (.int (nI i))] [] P2 := by
        intro t' P2 h2 F2
        have hR2 := h2.1
        refine sX5_readOpenings_85 (sX5_readOpenings_86 (by assumption) (by rfl) (sX5_readOpenings_89_r (ble rfl) h2.2.1 (w_step h2) (fun P3 h3 => ?_)))
        refine sX5_readOpenings_92 rfl (sX5_readOpenings_95 ?_)
        rw [nI_1]
        exact ih (i + 1) _ _ P3 (by omega) h3.1 (F2.tr h3.2)
      refine sX5_readOpenings_2 (sX5_readOpenings_3 (sX5_readOpenings_6 (fun z => absurd z (nI_ge (b := 1400) (by omega) (by omega))) (fun _ => ?_)))
      refine sX5_readOpenings_9 (sX5_readOpenings_10 (by assumption) (by rfl) (sX5_readOpenings_13 (sX5_readOpenings_16 (ble rfl) hW (w_is (i := 10) h1 (by decide)) (sX5_readOpenings_19 (fun z => ?_) (fun z => ?_)))))
      · rw [show rOpens (tkOf T n) (m + 1) t q = rOpens (tkOf T n) m (tTurn t) (sE T n q) from if_pos z]
        refine sX5_readOpenings_35 (sX5_readOpenings_36 (by assumption) (by rfl) (sX5_readOpenings_39 (sX5_readOpenings_42 (ble rfl) hW (w_is (i := 10) h1 (by decide)) (sX5_readOpenings_45 (fun y => absurd y z) (fun _ => ?_)))))
        refine sX5_readOpenings_48 (sX5_readOpenings_49 (by assumption) (by rfl) (sX5_readOpenings_52_r (ble rfl) hTO (c_turn hT (by omega)) (fun P2 h2 => ?_)))
        obtain ⟨h3, F3⟩ := h1.tm (t' := tTurn t) h2.1 h2.2 ht
        refine sX5_readOpenings_55 ?_
        exact St _ _ h3 (F1.tr F3)
      · refine sX5_readOpenings_22 (sX5_readOpenings_23 (by assumption) (by rfl) (sX5_readOpenings_26 (sX5_readOpenings_29 (ble rfl) hW (w_is (i := 11) h1 (by decide)) (sX5_readOpenings_32 (fun y => ?_) (fun y => ?_)))))
        · rw [show rOpens (tkOf T n) (m + 1) t q = .ok (t, q) from (if_neg (fun x => x z)).trans (if_neg (fun x => x y))]
          refine sX5_readOpenings_98 ⟨rfl, h1, F1⟩
        · rw [show rOpens (tkOf T n) (m + 1) t q = dmd (t.1 < 16) (sS T n q) (rOpens (tkOf T n) m (tOpen t) (sE T n q)) from (if_neg (fun x => x z)).trans (if_pos y)]
          refine sX5_readOpenings_35 (sX5_readOpenings_36 (by assumption) (by rfl) (sX5_readOpenings_39 (sX5_readOpenings_42 (ble rfl) hW (w_is (i := 10) h1 (by decide)) (sX5_readOpenings_45 (fun _ => ?_) (fun x => absurd z x)))))
          refine sX5_readOpenings_58 (sX5_readOpenings_59 (by assumption) (by rfl) (sX5_readOpenings_62 (by assumption) (by rfl) (sX5_readOpenings_65 (sX5_readOpenings_67 (fun x => ?_) (fun x => ?_)))))
          · have x : ¬ t.1 < 16 := fun v => absurd x (nI_ge (b := 16) v (by omega))
            rw [dmd_f x]
            refine sX5_readOpenings_74 (sX5_readOpenings_75_t (ble rfl) (c_dem0 hr) (rE.mk' h1 F1))
          · have x : t.1 < 16 := by
              rcases Nat.lt_or_ge t.1 16 with v | v
              · exact v
              · exact absurd (nI_le (a := 16) v (by omega)) x
            rw [dmd_t x]
            refine sX5_readOpenings_70 (sX5_readOpenings_71 (sX5_readOpenings_75 (ble rfl) (c_dem1 (by decide)) (sX5_readOpenings_78 (sX5_readOpenings_79 (by assumption) (by rfl) (sX5_readOpenings_82_r (ble rfl) hTO (c_openBracket hT (by omega)) (fun P2 h2 => ?_))))))
            obtain ⟨h3, F3⟩ := h1.tm (t' := tOpen t) h2.1 h2.2 x
            exact St _ _ h3 (F1.tr F3)
  refine sX5_readOpenings_0 (sX5_readOpenings_1 rfl ?_)
  exact Lp 1400 0 t q P rfl h rF.rf
theorem r_closes (h : rP w P b S T n q t L) : xC w (d + 5) mX5_readClosings [.ref (b + 162)] P (rO w b S T n P (.ok (none, (rCloses (tkOf T n) 1400 t q).2, (rCloses (tkOf T n) 1400 t q).1, L))) := by
  refine xC_of (by decide) (ble rfl) (ls := [some (.ref (b + 162)), none]) rfl ?_
  have Lp : ∀ m i t q P1, i + m = 1400 → rP w P1 b S T n q t L → rF P P1 b S → X w mX5_readClosings (d + 5) (rO w b S T n P (.ok (none, (rCloses (tkOf T n) m t q).2, (rCloses (tkOf T n) m t q).1, L))) 2 [some (.ref (b + 162)), some (.int (nI i))] [] P1 := by
    intro m
    induction m with
    | zero =>
      intro i t q P1 hi h1 F1
      refine sX5_readClosings_2 (sX5_readClosings_3 (sX5_readClosings_6 (fun _ => ?_) (fun z => absurd (nI_le (a := 1400) (by omega) (by omega)) z)))
      refine sX5_readClosings_52 ⟨rfl, h1, F1⟩
    | succ m ih =>
      intro i t q P1 hi h1 F1
      obtain ⟨hR, hW, _, hT, _, _, _, _, hr, ht, _⟩ := id h1
      have hTO := hT.1
      have En : ¬ (0 < t.1 ∧ ¬ sW T n q 14 = 0) → X w mX5_readClosings (d + 5) (rO w b S T n P (.ok (none, (rCloses (tkOf T n) (m + 1) t q).2, (rCloses (tkOf T n) (m + 1) t q).1, L))) 52 [some (.ref (b + 162)), some (.int (nI i))] [] P1 := by
        intro z
        rw [show rCloses (tkOf T n) (m + 1) t q = (t, q) from if_neg z]
        refine sX5_readClosings_52 ⟨rfl, h1, F1⟩
      refine sX5_readClosings_2 (sX5_readClosings_3 (sX5_readClosings_6 (fun z => absurd z (nI_ge (b := 1400) (by omega) (by omega))) (fun _ => ?_)))
      refine sX5_readClosings_9 (sX5_readClosings_10 (by assumption) (by rfl) (sX5_readClosings_13 (by assumption) (by rfl) (sX5_readClosings_16 (fun z => ?_) (fun z => ?_))))
      · exact En (fun y => by have := (nI_leI (b := 0) (by omega) (by omega)).mp z; omega)
      have z : 0 < t.1 := Nat.pos_of_ne_zero (fun y => z (by rw [y]; decide))
      refine sX5_readClosings_19 (sX5_readClosings_20 (by assumption) (by rfl) (sX5_readClosings_23 (sX5_readClosings_26 (ble rfl) hW (w_is (i := 14) h1 (by decide)) (sX5_readClosings_29 (fun y => ?_) (fun y => ?_)))))
      · exact En (fun x => x.2 y)
      rw [show rCloses (tkOf T n) (m + 1) t q = rCloses (tkOf T n) m (tClose t) (sE T n q) from if_pos ⟨z, y⟩]
      obtain ⟨op, o', x', n', u'⟩ := t
      obtain ⟨op, rfl⟩ : ∃ p, op = p + 1 := ⟨op - 1, by have z : 0 < op := z; omega⟩
      have ht : op + 1 ≤ 16 := ht
      refine sX5_readClosings_32 (sX5_readClosings_33 (by assumption) (by rfl) (sX5_readClosings_36_r (ble rfl) hTO (c_closeBracket hT (by omega)) (fun P2 h2 => ?_)))
      obtain ⟨h3, F3⟩ := h1.tm (t' := tClose (op + 1, o', x', n', u')) h2.1 h2.2 (by show op ≤ 16; omega)
      have hR3 := h3.1
      refine sX5_readClosings_39 (sX5_readClosings_40 (by assumption) (by rfl) (sX5_readClosings_43_r (ble rfl) h3.2.1 (w_step h3) (fun P4 h4 => ?_)))
      refine sX5_readClosings_46 rfl (sX5_readClosings_49 ?_)
      rw [nI_1]
      exact ih (i + 1) _ _ P4 (by omega) h4.1 ((F1.tr F3).tr h4.2)
  refine sX5_readClosings_0 (sX5_readClosings_1 rfl ?_)
  exact Lp 1400 0 t q P rfl h rF.rf
theorem r_op (h : rP w P b S T n q t L) : xC w (d + 5) mX5_takeOperator [.ref (b + 162)] P (rO w b S T n P (.ok (some (.int (rOp (tkOf T n) t q).1), (rOp (tkOf T n) t q).2.2, (rOp (tkOf T n) t q).2.1, L))) := by
  obtain ⟨hR, hW, _, hT, _, _, _, _, hr, ht, _⟩ := id h
  have hTO := hT.1
  refine xC_of (by decide) (ble rfl) (ls := [some (.ref (b + 162))]) rfl ?_
  have St : ∀ t' P2, rP w P2 b S T n q t' L → rF P P2 b S → rOp (tkOf T n) t q = (1, t', sE T n q) → X w mX5_takeOperator (d + 5) (rO w b S T n P (.ok (some (.int (rOp (tkOf T n) t q).1), (rOp (tkOf T n) t q).2.2, (rOp (tkOf T n) t q).2.1, L))) 61 [some (.ref (b + 162))] [] P2 := by
    intro t' P2 h2 F2 e
    rw [e]
    have hR2 := h2.1
    refine sX5_takeOperator_61 (sX5_takeOperator_62 (by assumption) (by rfl) (sX5_takeOperator_65_r (ble rfl) h2.2.1 (w_step h2) (fun P3 h3 => ?_)))
    refine sX5_takeOperator_68 (sX5_takeOperator_69 (Or.inr rfl) ⟨rfl, h3.1, F2.tr h3.2⟩)
  refine sX5_takeOperator_0 (sX5_takeOperator_1 (by assumption) (by rfl) (sX5_takeOperator_4 (sX5_takeOperator_7 (ble rfl) hW (w_is (i := 15) h (by decide)) (sX5_takeOperator_10 (fun z => ?_) (fun z => ?_)))))
  rotate_left
  · refine sX5_takeOperator_13 (sX5_takeOperator_14 (by assumption) (by rfl) (sX5_takeOperator_17_r (ble rfl) hTO (c_endXor hT (by omega)) (fun P2 h2 => ?_)))
    obtain ⟨h3, F3⟩ := h.tm (t' := tXor t) h2.1 h2.2 ht
    refine sX5_takeOperator_20 ?_
    exact St _ _ h3 F3 (if_pos z)
  refine sX5_takeOperator_23 (sX5_takeOperator_24 (by assumption) (by rfl) (sX5_takeOperator_27 (sX5_takeOperator_30 (ble rfl) hW (w_is (i := 16) h (by decide)) (sX5_takeOperator_33 (fun y => ?_) (fun y => ?_)))))
  rotate_left
  · refine sX5_takeOperator_36 (sX5_takeOperator_37 (by assumption) (by rfl) (sX5_takeOperator_40_r (ble rfl) hTO (c_endAnd hT (by omega)) (fun P2 h2 => ?_)))
    obtain ⟨h3, F3⟩ := h.tm (t' := tAnd t) h2.1 h2.2 ht
    refine sX5_takeOperator_43 ?_
    exact St _ _ h3 F3 ((if_neg (fun x => x z)).trans (if_pos y))
  refine sX5_takeOperator_46 (sX5_takeOperator_47 (by assumption) (by rfl) (sX5_takeOperator_50 (sX5_takeOperator_53 (ble rfl) hW (w_is (i := 17) h (by decide)) (sX5_takeOperator_56 (fun x => ?_) (fun x => ?_)))))
  · exact St _ _ h rF.rf ((if_neg (fun x => x z)).trans ((if_neg (fun x => x y)).trans (if_pos x)))
  · rw [show rOp (tkOf T n) t q = (0, t, q) from (if_neg (fun x => x z)).trans ((if_neg (fun x => x y)).trans (if_neg (fun v => v x)))]
    refine sX5_takeOperator_59 (sX5_takeOperator_60 (Or.inl rfl) ⟨rfl, h, rF.rf⟩)
theorem r_prim {c : ceT} (hc : L.cs k = c) (hk : k < 12) (h : rP w P b S T n q t L) : xC w (d + 5) mX5_takePrimary [.ref (b + 162), .ref (S + 76 + 7 * k)] P (rO w b S T n P (bnd (rPrim (tkOf T n) c q) (fun x => .ok (some (.long x.1), x.2, t, L)))) := by
  obtain ⟨hR, hW, _, _, _, _, h7, _, hr, _⟩ := id h
  obtain ⟨hp, hi, ho, ha⟩ := h.cell hk
  rw [hc] at hp hi ho ha
  have hO := hp.1
  have h4 := sK_le T h7
  refine xC_of (by decide) (ble rfl) (ls := [some (.ref (b + 162)), some (.ref (S + 76 + 7 * k)), none, none, none]) rfl ?_
  have St : ∀ v (l4 : Option Value), rPrim (tkOf T n) c q = .ok (v, sE T n q) → X w mX5_takePrimary (d + 5) (rO w b S T n P (bnd (rPrim (tkOf T n) c q) (fun x => .ok (some (.long x.1), x.2, t, L)))) 103 [some (.ref (b + 162)), some (.ref (S + 76 + 7 * k)), some (.long v), none, l4] [] P := by
    intro v l4 e
    rw [e]
    refine sX5_takePrimary_103 (sX5_takePrimary_104 (by assumption) (by rfl) (sX5_takePrimary_107_r (ble rfl) hW (w_step h) (fun P3 h3 => ?_)))
    refine sX5_takePrimary_110 (sX5_takePrimary_111 ⟨rfl, h3.1, h3.2⟩)
  have A : ∀ v : Int64, v = (if sW T n q 12 = 0 then 0 else -1) → X w mX5_takePrimary (d + 5) (rO w b S T n P (bnd (rPrim (tkOf T n) c q) (fun x => .ok (some (.long x.1), x.2, t, L)))) 20 [some (.ref (b + 162)), some (.ref (S + 76 + 7 * k)), none, none, none] [.long v] P := by
    intro v hv
    refine sX5_takePrimary_20 rfl (sX5_takePrimary_21 (sX5_takePrimary_22 (by assumption) (by rfl) (sX5_takePrimary_25 (by assumption) (by rfl) (sX5_takePrimary_28 (sX5_takePrimary_29 (fun z => ?_) (fun z => ?_))))))
    · have z : ¬ sK T n q = 1 := fun y => z (by rw [y]; rfl)
      have e0 : rPrim (tkOf T n) c q = dmd (¬ sW T n q 13 = 0 ∨ ¬ sW T n q 12 = 0) (sS T n q) (.ok (if sW T n q 12 = 0 then 0 else -1, sE T n q)) := if_neg z
      have G : (¬ sW T n q 13 = 0 ∨ ¬ sW T n q 12 = 0) → X w mX5_takePrimary (d + 5) (rO w b S T n P (bnd (rPrim (tkOf T n) c q) (fun x => .ok (some (.long x.1), x.2, t, L)))) 95 [some (.ref (b + 162)), some (.ref (S + 76 + 7 * k)), some (.long v), none, none] [] P := by
        intro y
        refine sX5_takePrimary_95 (sX5_takePrimary_96 (sX5_takePrimary_100 (ble rfl) (c_dem1 (by decide)) ?_))
        exact St v none (by rw [e0, dmd_t y, hv])
      refine sX5_takePrimary_69 (sX5_takePrimary_70 (by assumption) (by rfl) (sX5_takePrimary_73 (sX5_takePrimary_76 (ble rfl) hW (w_is (i := 13) h (by decide)) (sX5_takePrimary_79 (fun y => ?_) (fun y => ?_)))))
      · exact G (Or.inl y)
      · refine sX5_takePrimary_82 (sX5_takePrimary_83 (by assumption) (by rfl) (sX5_takePrimary_86 (sX5_takePrimary_89 (ble rfl) hW (w_is (i := 12) h (by decide)) (sX5_takePrimary_92 (fun x => ?_) (fun x => ?_)))))
        · rw [e0, dmd_f (by rintro (u | u); exact u y; exact u x)]
          refine sX5_takePrimary_99 (sX5_takePrimary_100_t (ble rfl) (c_dem0 hr) (rE.mk' h rF.rf))
        · exact G (Or.inr x)
    · have z : sK T n q = 1 := (nI_eq (b := 1) (by omega) (by omega)).mp z
      have e0 : rPrim (tkOf T n) c q = dmd (¬ fnd c.pins (sN T n q) 0 c.i = -1) (sS T n q) (.ok (xN (fnd c.pins (sN T n q) 0 c.i).toNatClampNeg, sE T n q)) := if_pos z
      refine sX5_takePrimary_32 (sX5_takePrimary_33 (sX5_takePrimary_34 (by assumption) (by rfl) (sX5_takePrimary_37 (ble rfl) hW (w_name h) (sX5_takePrimary_40 (ble rfl) hO (c_inputNamed (sN T n q) hO hp.2.1 hi) (sX5_takePrimary_43 rfl (sX5_takePrimary_45 (sX5_takePrimary_47 (sX5_takePrimary_48 (fun y => ?_) (fun y => ?_)))))))))
      · rw [e0, dmd_f (fun x => x y)]
        refine sX5_takePrimary_55 (sX5_takePrimary_56_t (ble rfl) (c_dem0 hr) (rE.mk' h rF.rf))
      · rcases fnd_c c.pins (sN T n q) c.i 0 with ⟨x, _⟩ | ⟨j, _, hj, _, e, _⟩
        · exact absurd x y
        · have hj : j < 6 := by omega
          have e0 : rPrim (tkOf T n) c q = .ok (xN j, sE T n q) := by rw [e0, dmd_t y, e, nI_clamp (by omega)]
          rw [e]
          refine sX5_takePrimary_51 (sX5_takePrimary_52 (sX5_takePrimary_56 (ble rfl) (c_dem1 (by decide)) (sX5_takePrimary_59 (sX5_takePrimary_62 (sX5_takePrimary_64_in (vp_in_nI hj (by omega)) ?_)))))
          rw [nI_clamp (by omega)]
          refine sX5_takePrimary_65 rfl (sX5_takePrimary_66 ?_)
          exact St (xN j) _ e0
  refine sX5_takePrimary_0 (sX5_takePrimary_1 (by assumption) (by rfl) (sX5_takePrimary_4 (sX5_takePrimary_7 (ble rfl) hW (w_is (i := 12) h (by decide)) (sX5_takePrimary_10 (fun z => ?_) (fun z => ?_)))))
  · refine sX5_takePrimary_19 ?_
    exact A 0 (by rw [if_pos z])
  · refine sX5_takePrimary_13 (sX5_takePrimary_16 ?_)
    exact A (-1) (by rw [if_neg z])
theorem r_fun {c : ceT} (hc : L.cs k = c) (hk : k < 12) (ho3 : c.o < 3) (h : rP w P b S T n q t L) : xC w (d + 6) mX5_readFunction [.ref (b + 162), .ref (S + 76 + 7 * k)] P (rO w b S T n P (bnd (rFunction (tkOf T n) c t q) (fun x => .ok (none, x.2.2, x.2.1, upC L k x.1)))) := by
  obtain ⟨hR, hW, _, hT, _, _, _, _, _, ht, _⟩ := id h
  have hTO := hT.1
  obtain ⟨hp, hi, ho, ha⟩ := h.cell hk
  rw [hc] at hp hi ho ha
  refine xC_of (by decide) (ble rfl) (ls := [some (.ref (b + 162)), some (.ref (S + 76 + 7 * k)), none, none]) rfl ?_
  have En : ∀ t q P1 (l2 l3 : Option Value), rP w P1 b S T n q t L → rF P P1 b S → X w mX5_readFunction (d + 6) (rO w b S T n P (bnd (dmd (t.1 = 0) (sS T n q) (.ok ((c.nm, c.pl, c.pins, c.i, c.o + 1, uL c.tr c.o (wthn (tTot t) (nI (2 ^ c.i))), c.am, c.tl, c.pw, c.pt, c.arcs, c.ac), t, q))) (fun x : ceT × tSt × Nat => .ok (none, x.2.2, x.2.1, upC L k x.1)))) 53 [some (.ref (b + 162)), some (.ref (S + 76 + 7 * k)), l2, l3] [] P1 := by
    intro t q P1 l2 l3 h1 F1
    obtain ⟨hR1, hW1, _, hT1, _, _, _, _, hr1, ht1, _⟩ := id h1
    have hTO1 := hT1.1
    obtain ⟨hp1, _⟩ := h1.cell hk
    rw [hc] at hp1
    refine sX5_readFunction_53 (sX5_readFunction_54 (by assumption) (by rfl) (sX5_readFunction_57 (by assumption) (by rfl) (sX5_readFunction_60 (fun z => ?_) (fun z => ?_))))
    · rw [dmd_f (fun y => z (by rw [y]; rfl))]
      refine sX5_readFunction_67 (sX5_readFunction_68_t (ble rfl) (c_dem0 hr1) (rE.mk' h1 F1))
    have z : t.1 = 0 := (nI_eq (b := 0) (by omega) (by omega)).mp z
    rw [dmd_t z]
    have hO1 := hp1.1
    obtain ⟨nm, pl, pins, i, o, tr, am, tl, pw, pt, arcs, ac⟩ := c
    have ho3 : o < 3 := ho3
    have hO1 : P1.1 (S + 76 + 7 * k) = some (cO (S + 76 + 7 * k) nm pl i o pt ac) := hp1.1
    refine sX5_readFunction_63 (sX5_readFunction_64 (sX5_readFunction_68 (ble rfl) (c_dem1 (by decide)) (sX5_readFunction_71 (sX5_readFunction_72 (by assumption) (by rfl) (sX5_readFunction_75 (sX5_readFunction_76 (by assumption) (by rfl) (sX5_readFunction_79 (sX5_readFunction_80 (by assumption) (by rfl) (sX5_readFunction_83 (ble rfl) hTO1 (c_total hT1 (by omega)) (sX5_readFunction_86 (sX5_readFunction_87 (ble rfl) hO1 (c_states hO1 hi) (sX5_readFunction_90 (ble rfl) (c_within _ _) (sX5_readFunction_93 hp1.2.2.1 (vp_in_nI ho3 (by omega)) ?_)))))))))))))
    rw [nI_clamp (by omega)]
    have hp2 := hp1.r2 (f := uL tr o (wthn (tTot t) (nI (2 ^ i))))
    have hO2 : (xs P1 (S + 76 + 7 * k + 2) (xJ 3 (uL tr o (wthn (tTot t) (nI (2 ^ i)))))).1 (S + 76 + 7 * k) = some (cO (S + 76 + 7 * k) nm pl i o pt ac) := hp2.1
    refine sX5_readFunction_94 (sX5_readFunction_95 rfl (sX5_readFunction_96 (by assumption) (by rfl) (sX5_readFunction_99 (sX5_readFunction_100 ?_))))
    rw [nI_1]
    have hp3 := hp2.obj (nm' := nm) (pl' := pl) (i' := i) (o' := o + 1) (pt' := pt) (ac' := ac)
    obtain ⟨h3, F3⟩ := h1.ce (k := k) hk hp3 ((same.rf.xs (by omega) (by omega)).xs (by omega) (by omega)) ⟨hi, ho3, ha⟩
    refine sX5_readFunction_101 hO2 (ble rfl) (sX5_readFunction_104 ⟨rfl, h3, F1.tr F3⟩)
  have Lp : ∀ m i t q P1, i + m = 1400 → rP w P1 b S T n q t L → rF P P1 b S → X w mX5_readFunction (d + 6) (rO w b S T n P (bnd (bnd (rFun (tkOf T n) c m t q) (fun x => dmd (x.1.1 = 0) (sS T n x.2) (.ok ((c.nm, c.pl, c.pins, c.i, c.o + 1, uL c.tr c.o (wthn (tTot x.1) (nI (2 ^ c.i))), c.am, c.tl, c.pw, c.pt, c.arcs, c.ac), x.1, x.2)))) (fun x : ceT × tSt × Nat => .ok (none, x.2.2, x.2.1, upC L k x.1)))) 11 [some (.ref (b + 162)), some (.ref (S + 76 + 7 * k)), some (.int 1), some (.int (nI i))] [] P1 := by
    intro m
    induction m with
    | zero =>
      intro i t q P1 hi' h1 F1
      refine sX5_readFunction_11 (sX5_readFunction_12 (sX5_readFunction_15 (fun _ => ?_) (fun z => absurd (nI_le (a := 1400) (by omega) (by omega)) z)))
      exact En t q P1 _ _ h1 F1
    | succ m ih =>
      intro i t q P1 hi' h1 F1
      refine sX5_readFunction_11 (sX5_readFunction_12 (sX5_readFunction_15 (fun z => absurd z (nI_ge (b := 1400) (by omega) (by omega))) (fun _ => ?_)))
      refine sX5_readFunction_18 (sX5_readFunction_19 (fun z => absurd z (by decide)) (fun _ => ?_))
      match g1 : rOpens (tkOf T n) 1400 t q with
      | .error s =>
        rw [show rFun (tkOf T n) c (m + 1) t q = .error s by simp only [rFun]; rw [g1]; rfl]
        refine sX5_readFunction_22 (sX5_readFunction_23_g (ble rfl) h1.1 (rO_er (r_opens h1) (s := s) (by rw [g1]; rfl)) (fun _ _ z => (rE.no z).elim) (fun _ _ z => Xt_out rfl (z.up F1)))
      | .ok x1 =>
      refine sX5_readFunction_22 (sX5_readFunction_23_r (ble rfl) h1.1 (rO_ok (r_opens h1) (x := (none, x1.2, x1.1, L)) (by rw [g1]; rfl)) (fun P2 h2 => ?_))
      obtain ⟨h2, F2⟩ := h2
      have h2 : rP w P2 b S T n x1.2 x1.1 L := h2
      have F02 := F1.tr F2
      have hR2 := h2.1
      match g2 : rPrim (tkOf T n) c x1.2 with
      | .error s =>
        rw [show rFun (tkOf T n) c (m + 1) t q = .error s by simp only [rFun]; rw [g1]; show bnd (rPrim (tkOf T n) c x1.2) _ = _; rw [g2]; rfl]
        refine sX5_readFunction_26 (sX5_readFunction_27 (by assumption) (by rfl) (sX5_readFunction_30 (sX5_readFunction_31 (sX5_readFunction_32_g (ble rfl) h2.1 (rO_er (r_prim hc hk h2) (s := s) (by rw [g2]; rfl)) (fun _ _ z => (rE.no z).elim) (fun _ _ z => Xt_out rfl (z.up F02))))))
      | .ok x2 =>
      refine sX5_readFunction_26 (sX5_readFunction_27 (by assumption) (by rfl) (sX5_readFunction_30 (sX5_readFunction_31 (sX5_readFunction_32_r (ble rfl) h2.1 (rO_ok (r_prim hc hk h2) (x := (some (.long x2.1), x2.2, x1.1, L)) (by rw [g2]; rfl)) (fun P3 h3 => ?_)))))
      obtain ⟨h3, F3⟩ := h3
      have h3 : rP w P3 b S T n x2.2 x1.1 L := h3
      have F03 := F02.tr F3
      obtain ⟨_, _, _, hT3, _, _, _, _, _, ht3, _⟩ := id h3
      refine sX5_readFunction_35_r (ble rfl) hT3.1 (c_tput x2.1 hT3 (Nat.lt_succ_of_le ht3)) (fun P4 h4 => ?_)
      obtain ⟨h5, F5⟩ := h3.tm (t' := tPut x1.1 x2.1) h4.1 h4.2 ht3
      have F05 := F03.tr F5
      refine sX5_readFunction_38 (sX5_readFunction_39_r (ble rfl) h5.1 (r_closes h5) (fun P6 h6 => ?_))
      obtain ⟨h6, F6⟩ := h6
      have F06 := F05.tr F6
      refine sX5_readFunction_42 (sX5_readFunction_43_r (ble rfl) h6.1 (r_op h6) (fun P7 h7 => ?_))
      obtain ⟨h7, F7⟩ := h7
      have F07 := F06.tr F7
      have eF : rFun (tkOf T n) c (m + 1) t q = (if (rOp (tkOf T n) (rCloses (tkOf T n) 1400 (tPut x1.1 x2.1) x2.2).1 (rCloses (tkOf T n) 1400 (tPut x1.1 x2.1) x2.2).2).1 = 0 then Except.ok (rOp (tkOf T n) (rCloses (tkOf T n) 1400 (tPut x1.1 x2.1) x2.2).1 (rCloses (tkOf T n) 1400 (tPut x1.1 x2.1) x2.2).2).2 else rFun (tkOf T n) c m (rOp (tkOf T n) (rCloses (tkOf T n) 1400 (tPut x1.1 x2.1) x2.2).1 (rCloses (tkOf T n) 1400 (tPut x1.1 x2.1) x2.2).2).2.1 (rOp (tkOf T n) (rCloses (tkOf T n) 1400 (tPut x1.1 x2.1) x2.2).1 (rCloses (tkOf T n) 1400 (tPut x1.1 x2.1) x2.2).2).2.2) := by
        simp only [rFun]
        rw [g1]
        show bnd (rPrim (tkOf T n) c x1.2) _ = _
        rw [g2]
        rfl
      rw [eF]
      have o01 : (rOp (tkOf T n) (rCloses (tkOf T n) 1400 (tPut x1.1 x2.1) x2.2).1 (rCloses (tkOf T n) 1400 (tPut x1.1 x2.1) x2.2).2).1 = 0 ∨ (rOp (tkOf T n) (rCloses (tkOf T n) 1400 (tPut x1.1 x2.1) x2.2).1 (rCloses (tkOf T n) 1400 (tPut x1.1 x2.1) x2.2).2).1 = 1 := by
        unfold rOp
        split
        · exact Or.inr rfl
        · split
          · exact Or.inr rfl
          · split
            · exact Or.inr rfl
            · exact Or.inl rfl
      have h7 : rP w P7 b S T n (rOp (tkOf T n) (rCloses (tkOf T n) 1400 (tPut x1.1 x2.1) x2.2).1 (rCloses (tkOf T n) 1400 (tPut x1.1 x2.1) x2.2).2).2.2 (rOp (tkOf T n) (rCloses (tkOf T n) 1400 (tPut x1.1 x2.1) x2.2).1 (rCloses (tkOf T n) 1400 (tPut x1.1 x2.1) x2.2).2).2.1 L := h7
      show X w mX5_readFunction (d + 6) _ 46 _ [.int (rOp (tkOf T n) (rCloses (tkOf T n) 1400 (tPut x1.1 x2.1) x2.2).1 (rCloses (tkOf T n) 1400 (tPut x1.1 x2.1) x2.2).2).1] P7
      generalize rOp (tkOf T n) (rCloses (tkOf T n) 1400 (tPut x1.1 x2.1) x2.2).1 (rCloses (tkOf T n) 1400 (tPut x1.1 x2.1) x2.2).2 = R at o01 h7 ⊢
      obtain ⟨v, t', q'⟩ := R
      rcases o01 with rfl | rfl
      · rw [if_pos rfl]
        refine sX5_readFunction_46 rfl (sX5_readFunction_47 rfl (sX5_readFunction_50 ?_))
        rw [nI_1]
        refine sX5_readFunction_11 (sX5_readFunction_12 (sX5_readFunction_15 (fun _ => ?_) (fun _ => ?_)))
        · exact En t' q' P7 _ _ h7 F07
        · refine sX5_readFunction_18 (sX5_readFunction_19 (fun _ => ?_) (fun z => absurd rfl z))
          exact En t' q' P7 _ _ h7 F07
      · rw [if_neg (show ¬ (1 : Int32) = 0 by decide)]
        refine sX5_readFunction_46 rfl (sX5_readFunction_47 rfl (sX5_readFunction_50 ?_))
        rw [nI_1]
        exact ih (i + 1) t' q' P7 (by omega) h7 F07
  refine sX5_readFunction_0 (sX5_readFunction_1 (by assumption) (by rfl) (sX5_readFunction_4_r (ble rfl) hTO (c_tbegin hT) (fun P1 h1 => ?_)))
  obtain ⟨h2, F2⟩ := h.tm (t' := tBegin t) h1.1 h1.2 (by show 0 ≤ 16; omega)
  refine sX5_readFunction_7 (sX5_readFunction_8 rfl (sX5_readFunction_9 (sX5_readFunction_10 rfl ?_)))
  exact Lp 1400 0 (tBegin t) q P1 rfl h2 F2
end RFun
