section RG
variable {w : xWd} {d : Nat} {P P1 P2 : xH} {b S n q k : Nat} {T : Nat → Int32} {t : tSt} {L : liT}
theorem rOutN_o {K : tkT} {c : ceT} {x : ceT × Nat} (h : rOutN K c q = .ok x) : x.1.o < 3 := by
  obtain ⟨h1, h⟩ := dmd_ok h
  obtain ⟨y, h2, h⟩ := bnd_ok h
  obtain ⟨q2, _, h⟩ := bnd_ok h
  cases h
  obtain ⟨_, h2⟩ := dmd_ok h2
  cases h2
  exact h1
/-- the shelf without its cell k: tables stay -/
theorem rArc_upC {K : tkT} {c c' : ceT} : rArc K (upC L k c') c q = rArc K L c q := rfl
theorem rItem_upC {K : tkT} {c c' : ceT} : rItem K (upC L k c') c t q = rItem K L c t q := rfl
theorem rItems_upC {K : tkT} {c' : ceT} : ∀ m c t q, rItems K (upC L k c') m c t q = rItems K L m c t q := by
  intro m
  induction m with
  | zero => intro c t q; rfl
  | succ m ih =>
    intro c t q
    unfold rItems
    rw [rItem_upC]
    simp only [ih]
theorem r_cell (h : rP w P b S T n q t L) : xC w (d + 7) mX5_readCell [.ref (b + 162)] P (rO w b S T n P (bnd (rCell (tkOf T n) L t q) (fun x => .ok (none, x.2.2, x.2.1, x.1)))) := by
  obtain ⟨hR, hW, _, _, _, _, _, _, hr, _⟩ := id h
  refine xC_of (by decide) (ble rfl) (ls := [some (.ref (b + 162)), none, none, none, none]) rfl ?_
  refine sX5_readCell_0 (sX5_readCell_1 (by assumption) (by rfl) (sX5_readCell_4_r (ble rfl) hW (w_step h) (fun P1 h1 => ?_)))
  obtain ⟨h1, F1⟩ := h1
  have e1 : rCell (tkOf T n) L t q = dmd (¬ sN T n (sE T n q) = 0 ∧ L.cc < 12) (sS T n (sE T n q)) (dmd (hsC (fun k => (L.cs k).nm) (sN T n (sE T n q)) L.cc 0 = 0) (sS T n (sE T n q))
    (bnd (rSign (tkOf T n) 5 (sE T n (sE T n q))) (fun q2 =>
      bnd (rItems (tkOf T n) L 1400 (cNew (L.cs L.cc) (sN T n (sE T n q)) (sS T n (sE T n q))) t q2) (fun x =>
        dmd (0 < x.1.o) (sS T n x.2.2) (bnd (rSign (tkOf T n) 6 x.2.2) (fun q3 => .ok ((L.tc, L.tn, L.ts, L.cc + 1, upT L.cs L.cc x.1), x.2.1, q3))))))) := rfl
  rw [e1]
  clear e1
  generalize sE T n q = q1 at h1 ⊢
  obtain ⟨hR1, hW1, _, _, hS1, _, h7, _, hr1, _, hw1⟩ := id h1
  have hO := hS1.1.1
  have hcc := hw1.2.1
  refine sX5_readCell_7 (sX5_readCell_8 (by assumption) (by rfl) (sX5_readCell_11 (ble rfl) hW1 (w_name h1) (sX5_readCell_14 rfl (sX5_readCell_15 (sX5_readCell_16 (sX5_readCell_17 (sX5_readCell_18 (fun z => ?_) (fun z => ?_))))))))
  · rw [lg_cmp_eq] at z
    rw [dmd_f (fun y => y.1 z)]
    refine sX5_readCell_37 (sX5_readCell_38_t (ble rfl) (c_dem0 hr1) (rE.mk' h1 F1))
  rw [lg_cmp_eq] at z
  refine sX5_readCell_21 (sX5_readCell_22 (by assumption) (by rfl) (sX5_readCell_25 (by assumption) (by rfl) (sX5_readCell_28 (sX5_readCell_30 (fun y => ?_) (fun y => ?_)))))
  · have y : ¬ L.cc < 12 := fun x => absurd y (nI_ge (b := 12) x (by omega))
    rw [dmd_f (fun x => y x.2)]
    refine sX5_readCell_37 (sX5_readCell_38_t (ble rfl) (c_dem0 hr1) (rE.mk' h1 F1))
  have y : L.cc < 12 := by
    rcases Nat.lt_or_ge L.cc 12 with x | x
    · exact x
    · exact absurd (nI_le (a := 12) x (by omega)) y
  rw [dmd_t ⟨z, y⟩]
  refine sX5_readCell_33 (sX5_readCell_34 (sX5_readCell_38 (ble rfl) (c_dem1 (by decide)) (sX5_readCell_41 (sX5_readCell_42 (by assumption) (by rfl) (sX5_readCell_45 (sX5_readCell_46 (ble rfl) hO (c_hasCell (sN T n q1) hS1.1 hcc hS1.2.2) (sX5_readCell_49 (fun x => ?_) (fun x => ?_))))))))
  · rw [dmd_f x]
    refine sX5_readCell_56 (sX5_readCell_57_t (ble rfl) (c_dem0 hr1) (rE.mk' h1 F1))
  rw [dmd_t x]
  refine sX5_readCell_52 (sX5_readCell_53 (sX5_readCell_57 (ble rfl) (c_dem1 (by decide)) (sX5_readCell_60 (sX5_readCell_61 (by assumption) (by rfl) (sX5_readCell_64 (sX5_readCell_65 (sX5_readCell_66 (by assumption) (by rfl) (sX5_readCell_69 (by assumption) (by rfl) (sX5_readCell_72_r (ble rfl) hO (c_addCell (sN T n q1) (nI (sS T n q1)) hS1.1 y (hS1.2.2 L.cc y)) (fun P2 h2 => ?_))))))))))
  obtain ⟨hp2, hc2, hs2, K⟩ := h2
  have K2 : ∀ a, a ≠ S → ¬ (S + 76 + 7 * L.cc ≤ a ∧ a < S + 76 + 7 * L.cc + 7) → P2.1 a = P1.1 a := K
  have eN' : (sN T n q1, nI (sS T n q1), (L.cs L.cc).pins, 0, 0, (L.cs L.cc).tr, z3 (L.cs L.cc).am, z3 (L.cs L.cc).tl, (L.cs L.cc).pw, 0, (L.cs L.cc).arcs, 0) = cNew (L.cs L.cc) (sN T n q1) (sS T n q1) := rfl
  obtain ⟨h2, F2⟩ := h1.sh (L' := upC (L.tc, L.tn, L.ts, L.cc + 1, L.cs) L.cc (cNew (L.cs L.cc) (sN T n q1) (sS T n q1))) ⟨⟨hp2.1, hp2.2.1, hp2.2.2.1, hp2.2.2.2⟩, fun j hj => (hS1.2.1 j hj).cg (fun i a c => K2 _ (by omega) (by omega)), fun j hj => by
      show pC P2 (S + 76 + 7 * j) (upT L.cs L.cc _ j)
      by_cases e : j = L.cc
      · subst e; rw [upT_s]; exact hc2
      · rw [upT_n e]; exact (hS1.2.2 j hj).cg (fun i a c => K2 _ (by omega) (by omega))⟩ hs2 (fun a ha => K2 a (by omega) (by omega)) ⟨hw1.1, by show L.cc + 1 ≤ 12; omega, fun j hj => by
      show (upT L.cs L.cc _ j).i ≤ 6 ∧ (upT L.cs L.cc _ j).o ≤ 3 ∧ (upT L.cs L.cc _ j).ac ≤ 10
      by_cases e : j = L.cc
      · subst e; rw [upT_s]; exact ⟨Nat.zero_le _, Nat.zero_le _, Nat.zero_le _⟩
      · rw [upT_n e]; exact hw1.2.2.1 j hj, hw1.2.2.2⟩
  have eU : ∀ z : ceT, ((L.tc, L.tn, L.ts, L.cc + 1, upT L.cs L.cc z) : liT) = upC (L.tc, L.tn, L.ts, L.cc + 1, L.cs) L.cc z := fun z => rfl
  simp only [eU]
  have eI : ∀ c t q, rItems (tkOf T n) L 1400 c t q = rItems (tkOf T n) (L.tc, L.tn, L.ts, L.cc + 1, L.cs) 1400 c t q := by
    have : ∀ m c t q, rItems (tkOf T n) L m c t q = rItems (tkOf T n) (L.tc, L.tn, L.ts, L.cc + 1, L.cs) m c t q := by
      intro m
      induction m with
      | zero => intro c t q; rfl
      | succ m ih =>
        intro c t q
        unfold rItems
        rw [show rItem (tkOf T n) L c t q = rItem (tkOf T n) (L.tc, L.tn, L.ts, L.cc + 1, L.cs) c t q from rfl]
        simp only [ih]
    exact this 1400
  simp only [eI]
  clear eU eI
  generalize ((L.tc, L.tn, L.ts, L.cc + 1, L.cs) : liT) = L1 at h2 ⊢
  generalize cNew (L.cs L.cc) (sN T n q1) (sS T n q1) = c0 at h2 ⊢
  generalize L.cc = k at y h2 ⊢
  have F02 := F1.tr F2
  have hR2 := h2.1
  refine sX5_readCell_75 rfl (sX5_readCell_76 (sX5_readCell_77 (by assumption) (by rfl) (sX5_readCell_80_r (ble rfl) h2.2.1 (w_step h2) (fun P3 h3 => ?_))))
  obtain ⟨h3, F3⟩ := h3
  generalize sE T n q1 = q3 at h3 ⊢
  have F03 := F02.tr F3
  match hs : rSign (tkOf T n) 5 q3 with
  | .error s =>
    refine sX5_readCell_83 (sX5_readCell_84 (sX5_readCell_86_g (ble rfl) h3.1 (rO_er (r_sign (i := 5) h3 (by decide)) (s := s) (by rw [hs]; rfl)) (fun _ _ z => (rE.no z).elim) (fun _ _ z => Xt_out rfl (z.up F03))))
  | .ok q4 =>
  refine sX5_readCell_83 (sX5_readCell_84 (sX5_readCell_86_r (ble rfl) h3.1 (rO_ok (r_sign (i := 5) h3 (by decide)) (x := (none, q4, t, upC L1 k c0)) (by rw [hs]; rfl)) (fun P4 h4 => ?_)))
  obtain ⟨h4, F4⟩ := h4
  have F04 := F03.tr F4
  have h4 : rP w P4 b S T n q4 t (upC L1 k c0) := h4
  show X w mX5_readCell (d + 7) (rO w b S T n P (bnd (bnd (rItems (tkOf T n) L1 1400 c0 t q4) (fun x => dmd (0 < x.1.o) (sS T n x.2.2) (bnd (rSign (tkOf T n) 6 x.2.2) (fun q3 => .ok (upC L1 k x.1, x.2.1, q3))))) (fun x => .ok (none, x.2.2, x.2.1, x.1)))) 89 _ _ _
  -- the end of the cell
  have En : ∀ (x : ceT × tSt × Nat) P1 (l4 : Option Value), rP w P1 b S T n x.2.2 x.2.1 (upC L1 k x.1) → rF P P1 b S → X w mX5_readCell (d + 7) (rO w b S T n P (bnd (dmd (0 < x.1.o) (sS T n x.2.2) (bnd (rSign (tkOf T n) 6 x.2.2) (fun q3 => .ok (upC L1 k x.1, x.2.1, q3)))) (fun x => .ok (none, x.2.2, x.2.1, x.1)))) 269 [some (.ref (b + 162)), some (.long (sN T n q1)), none, some (.ref (S + 76 + 7 * k)), l4] [] P1 := by
    intro x P1 l4 h1 F1
    obtain ⟨hp1, hi, ho, ha⟩ := h1.cell y
    rw [upC_s] at hp1 hi ho ha
    have hO1 := hp1.1
    refine sX5_readCell_269 (sX5_readCell_270 (by assumption) (by rfl) (sX5_readCell_273 (fun z => ?_) (fun z => ?_)))
    · have z : ¬ 0 < x.1.o := fun v => by have := (nI_leI (b := 0) (by omega) (by omega)).mp z; omega
      rw [dmd_f z]
      refine sX5_readCell_280 (sX5_readCell_281_t (ble rfl) (c_dem0 h1.2.2.2.2.2.2.2.2.1) (rE.mk' h1 F1))
    have z : 0 < x.1.o := Nat.pos_of_ne_zero (fun v => z (by rw [v]; decide))
    rw [dmd_t z]
    refine sX5_readCell_276 (sX5_readCell_277 (sX5_readCell_281 (ble rfl) (c_dem1 (by decide)) ?_))
    match hs6 : rSign (tkOf T n) 6 x.2.2 with
    | .error s =>
      refine sX5_readCell_284 (sX5_readCell_285 (sX5_readCell_287_g (ble rfl) h1.1 (rO_er (r_sign (i := 6) h1 (by decide)) (s := s) (by rw [hs6]; rfl)) (fun _ _ z => (rE.no z).elim) (fun _ _ z => Xt_out rfl (z.up F1))))
    | .ok q6 =>
      refine sX5_readCell_284 (sX5_readCell_285 (sX5_readCell_287_r (ble rfl) h1.1 (rO_ok (r_sign (i := 6) h1 (by decide)) (x := (none, q6, x.2.1, upC L1 k x.1)) (by rw [hs6]; rfl)) (fun P6 h6 => ?_)))
      refine sX5_readCell_290 ⟨rfl, h6.1, F1.tr h6.2⟩
  have Lp : ∀ m i (c : ceT) t q P1, i + m = 1400 → rP w P1 b S T n q t (upC L1 k c) → rF P P1 b S → X w mX5_readCell (d + 7) (rO w b S T n P (bnd (bnd (rItems (tkOf T n) L1 m c t q) (fun x => dmd (0 < x.1.o) (sS T n x.2.2) (bnd (rSign (tkOf T n) 6 x.2.2) (fun q3 => .ok (upC L1 k x.1, x.2.1, q3))))) (fun x => .ok (none, x.2.2, x.2.1, x.1)))) 92 [some (.ref (b + 162)), some (.long (sN T n q1)), none, some (.ref (S + 76 + 7 * k)), some (.int (nI i))] [] P1 := by
    intro m
    induction m with
    | zero =>
      intro i c t q P1 hi h1 F1
      refine sX5_readCell_92 (sX5_readCell_94 (sX5_readCell_97 (fun _ => ?_) (fun z => absurd (nI_le (a := 1400) (by omega) (by omega)) z)))
      exact En (c, t, q) P1 _ h1 F1
    | succ m ih =>
      intro i c t q P1 hi h1 F1
      obtain ⟨hR1, hW1, _, _, _, _, _, _, hr1, _⟩ := id h1
      have hc : (upC L1 k c).cs k = c := upC_s
      refine sX5_readCell_92 (sX5_readCell_94 (sX5_readCell_97 (fun z => absurd z (nI_ge (b := 1400) (by omega) (by omega))) (fun _ => ?_)))
      refine sX5_readCell_100 (sX5_readCell_101 (by assumption) (by rfl) (sX5_readCell_104 (sX5_readCell_106 (ble rfl) hW1 (w_is (i := 6) h1 (by decide)) (sX5_readCell_109 (fun z => ?_) (fun z => ?_)))))
      · rw [show rItems (tkOf T n) L1 (m + 1) c t q = .ok (c, t, q) from if_pos z]
        exact En (c, t, q) P1 _ h1 F1
      rw [show rItems (tkOf T n) L1 (m + 1) c t q = bnd (rItem (tkOf T n) L1 c t q) (fun x => bnd (rSign (tkOf T n) 3 x.2.2) (fun q2 => rItems (tkOf T n) L1 m x.1 x.2.1 q2)) from if_neg (fun v => v z)]
      -- behind an item
      have Sg : ∀ (x : ceT × tSt × Nat) P2, rItem (tkOf T n) L1 c t q = .ok x → rP w P2 b S T n x.2.2 x.2.1 (upC L1 k x.1) → rF P P2 b S → X w mX5_readCell (d + 7) (rO w b S T n P (bnd (bnd (bnd (rItem (tkOf T n) L1 c t q) (fun x => bnd (rSign (tkOf T n) 3 x.2.2) (fun q2 => rItems (tkOf T n) L1 m x.1 x.2.1 q2))) (fun x => dmd (0 < x.1.o) (sS T n x.2.2) (bnd (rSign (tkOf T n) 6 x.2.2) (fun q3 => .ok (upC L1 k x.1, x.2.1, q3))))) (fun x => .ok (none, x.2.2, x.2.1, x.1)))) 257 [some (.ref (b + 162)), some (.long (sN T n q1)), none, some (.ref (S + 76 + 7 * k)), some (.int (nI i))] [] P2 := by
        intro x P2 e h2 F2
        rw [e]
        show X w mX5_readCell (d + 7) (rO w b S T n P (bnd (bnd (bnd (rSign (tkOf T n) 3 x.2.2) (fun q2 => rItems (tkOf T n) L1 m x.1 x.2.1 q2)) (fun x => dmd (0 < x.1.o) (sS T n x.2.2) (bnd (rSign (tkOf T n) 6 x.2.2) (fun q3 => .ok (upC L1 k x.1, x.2.1, q3))))) (fun x => .ok (none, x.2.2, x.2.1, x.1)))) 257 _ _ _
        match hs3 : rSign (tkOf T n) 3 x.2.2 with
        | .error s =>
          refine sX5_readCell_257 (sX5_readCell_258 (sX5_readCell_260_g (ble rfl) h2.1 (rO_er (r_sign (i := 3) h2 (by decide)) (s := s) (by rw [hs3]; rfl)) (fun _ _ z => (rE.no z).elim) (fun _ _ z => Xt_out rfl (z.up F2))))
        | .ok q6 =>
          refine sX5_readCell_257 (sX5_readCell_258 (sX5_readCell_260_r (ble rfl) h2.1 (rO_ok (r_sign (i := 3) h2 (by decide)) (x := (none, q6, x.2.1, upC L1 k x.1)) (by rw [hs3]; rfl)) (fun P6 h6 => ?_)))
          refine sX5_readCell_263 rfl (sX5_readCell_266 ?_)
          rw [nI_1]
          exact ih (i + 1) x.1 x.2.1 q6 P6 (by omega) h6.1 (F2.tr h6.2)
      have Er : ∀ s, rItem (tkOf T n) L1 c t q = .error s → ∀ oc P', rE w b S T n P s oc P' → rO w b S T n P (bnd (bnd (bnd (rItem (tkOf T n) L1 c t q) (fun x => bnd (rSign (tkOf T n) 3 x.2.2) (fun q2 => rItems (tkOf T n) L1 m x.1 x.2.1 q2))) (fun x => dmd (0 < x.1.o) (sS T n x.2.2) (bnd (rSign (tkOf T n) 6 x.2.2) (fun q3 => .ok (upC L1 k x.1, x.2.1, q3))))) (fun x => .ok (none, x.2.2, x.2.1, x.1))) oc P' := by
        intro s e oc P' hh
        rw [e]
        exact hh
      refine sX5_readCell_112 (sX5_readCell_113 (by assumption) (by rfl) (sX5_readCell_116 (sX5_readCell_118 (ble rfl) hW1 (w_is (i := 7) h1 (by decide)) (sX5_readCell_121 (fun i7 => ?_) (fun i7 => ?_)))))
      rotate_left
      · have e0 : rItem (tkOf T n) L1 c t q = bnd (rInp (tkOf T n) c q) (fun x => .ok (x.1, t, x.2)) := if_pos i7
        match g : rInp (tkOf T n) c q with
        | .error s =>
          refine sX5_readCell_124 (sX5_readCell_125 (sX5_readCell_126_g (ble rfl) hR1 (rO_er (r_inp hc y h1) (s := s) (by rw [g]; rfl)) (fun _ _ z => (rE.no z).elim) (fun _ _ z => Xt_out rfl (Er s (by rw [e0, g]; rfl) _ _ (z.up F1)))))
        | .ok x =>
          refine sX5_readCell_124 (sX5_readCell_125 (sX5_readCell_126_r (ble rfl) hR1 (rO_ok (r_inp hc y h1) (x := (none, x.2, t, upC (upC L1 k c) k x.1)) (by rw [g]; rfl)) (fun P2 h2 => ?_)))
          rw [upC_u] at h2
          refine sX5_readCell_129 ?_
          exact Sg (x.1, t, x.2) P2 (by rw [e0, g]; rfl) h2.1 (F1.tr h2.2)
      refine sX5_readCell_132 (sX5_readCell_133 (by assumption) (by rfl) (sX5_readCell_136 (sX5_readCell_138 (ble rfl) hW1 (w_is (i := 8) h1 (by decide)) (sX5_readCell_141 (fun i8 => ?_) (fun i8 => ?_)))))
      rotate_left
      · have e0 : rItem (tkOf T n) L1 c t q = bnd (rOutN (tkOf T n) c q) (fun x => rFunction (tkOf T n) x.1 t x.2) := (if_neg (fun v => v i7)).trans (if_pos i8)
        match g : rOutN (tkOf T n) c q with
        | .error s =>
          refine sX5_readCell_144 (sX5_readCell_145 (sX5_readCell_146_g (ble rfl) hR1 (rO_er (r_outN hc y h1) (s := s) (by rw [g]; rfl)) (fun _ _ z => (rE.no z).elim) (fun _ _ z => Xt_out rfl (Er s (by rw [e0, g]; rfl) _ _ (z.up F1)))))
        | .ok x =>
          refine sX5_readCell_144 (sX5_readCell_145 (sX5_readCell_146_r (ble rfl) hR1 (rO_ok (r_outN hc y h1) (x := (none, x.2, t, upC (upC L1 k c) k x.1)) (by rw [g]; rfl)) (fun P2 h2 => ?_)))
          rw [upC_u] at h2
          obtain ⟨h2, F2⟩ := h2
          have h2 : rP w P2 b S T n x.2 t (upC L1 k x.1) := h2
          have F02 := F1.tr F2
          have ho3 := rOutN_o g
          match g2 : rFunction (tkOf T n) x.1 t x.2 with
          | .error s =>
            refine sX5_readCell_149 (sX5_readCell_150 (sX5_readCell_151_g (ble rfl) h2.1 (rO_er (r_fun upC_s y ho3 h2) (s := s) (by rw [g2]; rfl)) (fun _ _ z => (rE.no z).elim) (fun _ _ z => Xt_out rfl (Er s (by rw [e0, g]; exact g2) _ _ (z.up F02)))))
          | .ok x2 =>
            refine sX5_readCell_149 (sX5_readCell_150 (sX5_readCell_151_r (ble rfl) h2.1 (rO_ok (r_fun upC_s y ho3 h2) (x := (none, x2.2.2, x2.2.1, upC (upC L1 k x.1) k x2.1)) (by rw [g2]; rfl)) (fun P3 h3 => ?_)))
            rw [upC_u] at h3
            refine sX5_readCell_154 ?_
            exact Sg x2 P3 (by rw [e0, g]; exact g2) h3.1 (F02.tr h3.2)
      refine sX5_readCell_157 (sX5_readCell_158 (by assumption) (by rfl) (sX5_readCell_161 (sX5_readCell_163 (ble rfl) hW1 (w_is (i := 18) h1 (by decide)) (sX5_readCell_166 (fun i18 => ?_) (fun i18 => ?_)))))
      rotate_left
      · have e0 : rItem (tkOf T n) L1 c t q = bnd (rAmount (tkOf T n) c 0 q) (fun x => .ok (x.1, t, x.2)) := (if_neg (fun v => v i7)).trans ((if_neg (fun v => v i8)).trans (if_pos i18))
        match g : rAmount (tkOf T n) c 0 q with
        | .error s =>
          refine sX5_readCell_169 (sX5_readCell_170 (sX5_readCell_171 (sX5_readCell_172_g (ble rfl) hR1 (rO_er (r_am (j := 0) (by omega) hc y h1) (s := s) (by rw [g]; rfl)) (fun _ _ z => (rE.no z).elim) (fun _ _ z => Xt_out rfl (Er s (by rw [e0, g]; rfl) _ _ (z.up F1))))))
        | .ok x =>
          refine sX5_readCell_169 (sX5_readCell_170 (sX5_readCell_171 (sX5_readCell_172_r (ble rfl) hR1 (rO_ok (r_am (j := 0) (by omega) hc y h1) (x := (none, x.2, t, upC (upC L1 k c) k x.1)) (by rw [g]; rfl)) (fun P2 h2 => ?_))))
          rw [upC_u] at h2
          refine sX5_readCell_175 ?_
          exact Sg (x.1, t, x.2) P2 (by rw [e0, g]; rfl) h2.1 (F1.tr h2.2)
      refine sX5_readCell_178 (sX5_readCell_179 (by assumption) (by rfl) (sX5_readCell_182 (sX5_readCell_184 (ble rfl) hW1 (w_is (i := 19) h1 (by decide)) (sX5_readCell_187 (fun i19 => ?_) (fun i19 => ?_)))))
      rotate_left
      · have e0 : rItem (tkOf T n) L1 c t q = bnd (rAmount (tkOf T n) c 1 q) (fun x => .ok (x.1, t, x.2)) := (if_neg (fun v => v i7)).trans ((if_neg (fun v => v i8)).trans ((if_neg (fun v => v i18)).trans (if_pos i19)))
        match g : rAmount (tkOf T n) c 1 q with
        | .error s =>
          refine sX5_readCell_190 (sX5_readCell_191 (sX5_readCell_192 (sX5_readCell_193_g (ble rfl) hR1 (rO_er (r_am (j := 1) (by omega) hc y h1) (s := s) (by rw [g]; rfl)) (fun _ _ z => (rE.no z).elim) (fun _ _ z => Xt_out rfl (Er s (by rw [e0, g]; rfl) _ _ (z.up F1))))))
        | .ok x =>
          refine sX5_readCell_190 (sX5_readCell_191 (sX5_readCell_192 (sX5_readCell_193_r (ble rfl) hR1 (rO_ok (r_am (j := 1) (by omega) hc y h1) (x := (none, x.2, t, upC (upC L1 k c) k x.1)) (by rw [g]; rfl)) (fun P2 h2 => ?_))))
          rw [upC_u] at h2
          refine sX5_readCell_196 ?_
          exact Sg (x.1, t, x.2) P2 (by rw [e0, g]; rfl) h2.1 (F1.tr h2.2)
      refine sX5_readCell_199 (sX5_readCell_200 (by assumption) (by rfl) (sX5_readCell_203 (sX5_readCell_205 (ble rfl) hW1 (w_is (i := 20) h1 (by decide)) (sX5_readCell_208 (fun i20 => ?_) (fun i20 => ?_)))))
      rotate_left
      · have e0 : rItem (tkOf T n) L1 c t q = bnd (rAmount (tkOf T n) c 2 q) (fun x => .ok (x.1, t, x.2)) := (if_neg (fun v => v i7)).trans ((if_neg (fun v => v i8)).trans ((if_neg (fun v => v i18)).trans ((if_neg (fun v => v i19)).trans (if_pos i20))))
        match g : rAmount (tkOf T n) c 2 q with
        | .error s =>
          refine sX5_readCell_211 (sX5_readCell_212 (sX5_readCell_213 (sX5_readCell_214_g (ble rfl) hR1 (rO_er (r_am (j := 2) (by omega) hc y h1) (s := s) (by rw [g]; rfl)) (fun _ _ z => (rE.no z).elim) (fun _ _ z => Xt_out rfl (Er s (by rw [e0, g]; rfl) _ _ (z.up F1))))))
        | .ok x =>
          refine sX5_readCell_211 (sX5_readCell_212 (sX5_readCell_213 (sX5_readCell_214_r (ble rfl) hR1 (rO_ok (r_am (j := 2) (by omega) hc y h1) (x := (none, x.2, t, upC (upC L1 k c) k x.1)) (by rw [g]; rfl)) (fun P2 h2 => ?_))))
          rw [upC_u] at h2
          refine sX5_readCell_217 ?_
          exact Sg (x.1, t, x.2) P2 (by rw [e0, g]; rfl) h2.1 (F1.tr h2.2)
      refine sX5_readCell_220 (sX5_readCell_221 (by assumption) (by rfl) (sX5_readCell_224 (sX5_readCell_226 (ble rfl) hW1 (w_is (i := 21) h1 (by decide)) (sX5_readCell_229 (fun i21 => ?_) (fun i21 => ?_)))))
      rotate_left
      · have e0 : rItem (tkOf T n) L1 c t q = bnd (rArc (tkOf T n) (upC L1 k c) c q) (fun x => .ok (x.1, t, x.2)) := (if_neg (fun v => v i7)).trans ((if_neg (fun v => v i8)).trans ((if_neg (fun v => v i18)).trans ((if_neg (fun v => v i19)).trans ((if_neg (fun v => v i20)).trans (if_pos i21)))))
        match g : rArc (tkOf T n) (upC L1 k c) c q with
        | .error s =>
          refine sX5_readCell_232 (sX5_readCell_233 (sX5_readCell_234_g (ble rfl) hR1 (rO_er (r_arc hc y h1) (s := s) (by rw [g]; rfl)) (fun _ _ z => (rE.no z).elim) (fun _ _ z => Xt_out rfl (Er s (by rw [e0, g]; rfl) _ _ (z.up F1)))))
        | .ok x =>
          refine sX5_readCell_232 (sX5_readCell_233 (sX5_readCell_234_r (ble rfl) hR1 (rO_ok (r_arc hc y h1) (x := (none, x.2, t, upC (upC L1 k c) k x.1)) (by rw [g]; rfl)) (fun P2 h2 => ?_)))
          rw [upC_u] at h2
          refine sX5_readCell_237 ?_
          exact Sg (x.1, t, x.2) P2 (by rw [e0, g]; rfl) h2.1 (F1.tr h2.2)
      have e9 : rItem (tkOf T n) L1 c t q = dmd (¬ sW T n q 25 = 0) (sS T n q) (bnd (rPower (tkOf T n) c q) (fun x => .ok (x.1, t, x.2))) := (if_neg (fun v => v i7)).trans ((if_neg (fun v => v i8)).trans ((if_neg (fun v => v i18)).trans ((if_neg (fun v => v i19)).trans ((if_neg (fun v => v i20)).trans (if_neg (fun v => v i21))))))
      refine sX5_readCell_240 (sX5_readCell_241 (by assumption) (by rfl) (sX5_readCell_244 (sX5_readCell_246 (ble rfl) hW1 (w_is (i := 25) h1 (by decide)) ?_)))
      by_cases i25 : sW T n q 25 = 0
      · rw [i25]
        refine sX5_readCell_249_t (ble rfl) (c_dem0 hr1) (Er _ (by rw [e9, dmd_f (fun v => v i25)]) _ _ (rE.mk' h1 F1))
      · have e0 : rItem (tkOf T n) L1 c t q = bnd (rPower (tkOf T n) c q) (fun x => .ok (x.1, t, x.2)) := by rw [e9, dmd_t i25]
        refine sX5_readCell_249 (ble rfl) (c_dem1 i25) ?_
        match g : rPower (tkOf T n) c q with
        | .error s =>
          refine sX5_readCell_252 (sX5_readCell_253 (sX5_readCell_254_g (ble rfl) hR1 (rO_er (r_pw hc y h1) (s := s) (by rw [g]; rfl)) (fun _ _ z => (rE.no z).elim) (fun _ _ z => Xt_out rfl (Er s (by rw [e0, g]; rfl) _ _ (z.up F1)))))
        | .ok x =>
          refine sX5_readCell_252 (sX5_readCell_253 (sX5_readCell_254_r (ble rfl) hR1 (rO_ok (r_pw hc y h1) (x := (none, x.2, t, upC (upC L1 k c) k x.1)) (by rw [g]; rfl)) (fun P2 h2 => ?_)))
          rw [upC_u] at h2
          exact Sg (x.1, t, x.2) P2 (by rw [e0, g]; rfl) h2.1 (F1.tr h2.2)
  refine sX5_readCell_89 (sX5_readCell_90 rfl ?_)
  exact Lp 1400 0 c0 t q4 P4 rfl h4 F04
end RG
