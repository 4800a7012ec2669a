section M7
variable {w : xWd} {d o : Nat} {F : mF} {T : Nat → Int32} {n : Nat}
variable {u k q : Nat} {c : ceT} {L : liT}
theorem adA_lt {arcs : Nat → Int32} {ac j : Nat} {x y s r f : Int32} (h : j < ac * 5) : adA arcs ac x y s r f j = arcs j := by
  unfold adA
  rw [pk_un (by omega), pk_un (by omega), pk_un (by omega), pk_un (by omega), pk_un (by omega)]
theorem adA_0 {arcs : Nat → Int32} {ac : Nat} {x y s r f : Int32} : adA arcs ac x y s r f (ac * 5) = x := by
  unfold adA
  rw [pk_un (by omega), pk_un (by omega), pk_un (by omega), pk_un (by omega), pk_us]
theorem adA_1 {arcs : Nat → Int32} {ac : Nat} {x y s r f : Int32} : adA arcs ac x y s r f (ac * 5 + 1) = y := by
  unfold adA
  rw [pk_un (by omega), pk_un (by omega), pk_un (by omega), pk_us]
theorem adA_2 {arcs : Nat → Int32} {ac : Nat} {x y s r f : Int32} : adA arcs ac x y s r f (ac * 5 + 2) = s := by
  unfold adA
  rw [pk_un (by omega), pk_un (by omega), pk_us]
theorem adA_3 {arcs : Nat → Int32} {ac : Nat} {x y s r f : Int32} : adA arcs ac x y s r f (ac * 5 + 3) = r := by
  unfold adA
  rw [pk_un (by omega), pk_us]
theorem adA_4 {arcs : Nat → Int32} {ac : Nat} {x y s r f : Int32} : adA arcs ac x y s r f (ac * 5 + 4) = f := by
  unfold adA
  rw [pk_us]
theorem fnd_yes {f : Nat → Int64} {x : Int64} {m : Nat} (h : ¬ fnd f x 0 m = -1) : ∃ a, a < m ∧ f a = x ∧ fnd f x 0 m = nI a := by
  rcases fnd_c f x m 0 with ⟨a, _⟩ | ⟨k, a1, a2, a3, a4, a5⟩
  · exact absurd a h
  · exact ⟨k, by omega, a3, a4⟩
theorem neg_i {i : Nat} (hi : i ≤ 6) : ¬ (0 : Int32) ≤ -1 - nI i := by
  have : ∀ j : Fin 7, ¬ (0 : Int32) ≤ -1 - nI j.val := by decide +kernel
  exact this ⟨i, by omega⟩
/-- the output that a name tells -/
theorem out_c {c : ceT} (hw : c.i ≤ 6 ∧ c.o ≤ 3) (hu : uq c.pins (c.i + c.o)) (x : Int64) :
    (¬ (0 : Int32) ≤ fnd c.pins x 0 (c.i + c.o) - nI c.i ∧ lmat (fun k => c.pins (c.i + k)) x c.o 0 (-1) = -1) ∨ (∃ a, a < c.o ∧ fnd c.pins x 0 (c.i + c.o) - nI c.i = nI a ∧ lmat (fun k => c.pins (c.i + k)) x c.o 0 (-1) = nI a) := by
  rcases fnd_c c.pins x (c.i + c.o) 0 with ⟨a, b⟩ | ⟨kk, a1, a2, a3, a4, a5⟩
  · left
    rw [a]
    refine ⟨neg_i hw.1, ?_⟩
    rcases lmat_c (fun k => c.pins (c.i + k)) x c.o 0 (-1) with ⟨c1, _⟩ | ⟨j, c1, c2, c3, c4⟩
    · exact c1
    · exact absurd c3 (b (c.i + j) (by omega) (by omega))
  · rw [a4]
    rcases Nat.lt_or_ge kk c.i with hk | hk
    · left
      have := pk_sneg (a := kk) (b := c.i) (by omega) hk
      refine ⟨fun z => absurd this (Int32.not_lt.mpr z), ?_⟩
      rcases lmat_c (fun k => c.pins (c.i + k)) x c.o 0 (-1) with ⟨c1, _⟩ | ⟨j, c1, c2, c3, c4⟩
      · exact c1
      · have := hu (c.i + j) kk (by omega) (by omega) (c3.trans a3.symm)
        omega
    · right
      refine ⟨kk - c.i, by omega, pk_sub hk, ?_⟩
      rcases lmat_c (fun k => c.pins (c.i + k)) x c.o 0 (-1) with ⟨_, c2⟩ | ⟨j, c1, c2, c3, c4⟩
      · exact absurd (by show c.pins (c.i + (kk - c.i)) = x; rw [show c.i + (kk - c.i) = kk by omega]; exact a3) (c2 (kk - c.i) (by omega) (by omega))
      · have := hu (c.i + j) kk (by omega) (by omega) (c3.trans a3.symm)
        rw [c4, show j = kk - c.i by omega]
def rArc3 (K : tkT) (L : liT) (c : ceT) (x y : Int32) (q : Nat) : Except Nat (ceT × Nat) := bnd (rSense K q) (fun s => bnd (rTak K L s.2) (fun r => bnd (rTak K L r.2) (fun z =>
          .ok ((c.nm, c.pl, c.pins, c.i, c.o, c.tr, c.am, c.tl, c.pw, c.pt, adA c.arcs c.ac x y s.1 r.1 z.1, c.ac + 1), z.2))))
theorem wC_arc {K : tkT} {c' : ceT} {q' : Nat} (h : rArc K L c q = .ok (c', q')) (hw : wC L.tc c) : wC L.tc c' := by
  obtain ⟨h1, h⟩ := dmd_ok h
  obtain ⟨h2, h⟩ := dmd_ok h
  obtain ⟨h3, h⟩ := dmd_ok h
  obtain ⟨x, h4, h⟩ := bnd_ok h
  obtain ⟨y, h5, h⟩ := bnd_ok h
  obtain ⟨z, h6, h⟩ := bnd_ok h
  cases h
  obtain ⟨w1, w2, w3, w4, w5, w6, w7, w8, w9⟩ := hw
  refine ⟨w1, w2, h1, w4, w5, w6, w7, fun j hj => ?_, w9⟩
  have hj : j < c.ac + 1 := hj
  show (∃ a, a < c.i ∧ adA c.arcs c.ac _ _ _ _ _ (j * 5) = nI a) ∧ (∃ a, a < c.o ∧ adA c.arcs c.ac _ _ _ _ _ (j * 5 + 1) = nI a) ∧ (∃ a, a < L.tc ∧ adA c.arcs c.ac _ _ _ _ _ (j * 5 + 3) = nI a) ∧ (∃ a, a < L.tc ∧ adA c.arcs c.ac _ _ _ _ _ (j * 5 + 4) = nI a)
  by_cases e : j = c.ac
  · subst e
    rw [adA_0, adA_1, adA_3, adA_4]
    obtain ⟨a, a1, _, a2⟩ := fnd_yes h2
    obtain ⟨g5, e5⟩ := dmd_ok h5
    cases e5
    obtain ⟨g6, e6⟩ := dmd_ok h6
    cases e6
    obtain ⟨b, b1, _, b2⟩ := fnd_yes g5
    obtain ⟨b', b1', _, b2'⟩ := fnd_yes g6
    refine ⟨⟨a, a1, a2⟩, ?_, ⟨b, b1, b2⟩, ⟨b', b1', b2'⟩⟩
    rcases out_c ⟨w1, w2⟩ w5 (K.N (K.E (K.E q))) with ⟨y1, _⟩ | ⟨y, y1, y2, _⟩
    · exact absurd h3.1 y1
    · exact ⟨y, y1, y2⟩
  · rw [adA_lt (by omega), adA_lt (by omega), adA_lt (by omega), adA_lt (by omega)]
    exact w8 j (by omega)
theorem uq_mono {f : Nat → Int64} {m m2 : Nat} (h : uq f m) (hm : m2 ≤ m) : uq f m2 := fun i j hi hj => h i j (by omega) (by omega)
theorem fnd_z {f : Nat → Int64} {m : Nat} (h : nz f m) : fnd f 0 0 m = -1 := by
  rcases fnd_c f 0 m 0 with ⟨a, _⟩ | ⟨k, a1, a2, a3, a4, a5⟩
  · exact a
  · exact absurd a3 (h k (by omega))
theorem tab_l {tc : Nat} {tn : Nat → Int64} (hN : tabN F u tc tn) (x : Int64) : lmat (fun k => F.l 3 (12 * u + k)) x tc 0 (-1) = fnd tn x 0 tc := by
  rw [lmat_cg x tc 0 (-1) (fun k _ hk => hN.2.2.2.2 k (by omega))]
  exact lmat_fnd x hN.2.2.2.1
theorem Y_ls {M : xM} {QF : Option Value → mF → Prop} {pc : Nat} {ls ls' : List (Option Value)} {st : List Value} (h : Y w M d QF o pc ls st F) (e : ls = ls') : Y w M d QF o pc ls' st F := e ▸ h
theorem ra_a (h : mCo F T n u k L.tc L.tn c q) : yC w (d + 4) mX11_readArc [.ref o] o F (qC F T n u k L.tc L.tn (rArc (tkOf T n) L c q)) := by
  obtain ⟨hu, hk, s29, s30, _⟩ := h.2.1
  have hw := h.2.2.2.2
  have r := h.2.2.2.1
  have wi : ∀ c' q', rArc (tkOf T n) L c q = .ok (c', q') → wC L.tc c' := fun c' q' e => wC_arc e hw
  have e0 : rArc (tkOf T n) L c q = dmd (c.ac < 10) (sS T n q) (dmd (¬ fnd c.pins (sN T n (sE T n q)) 0 c.i = -1) (sS T n (sE T n q)) (dmd (0 ≤ fnd c.pins (sN T n (sE T n (sE T n q))) 0 (c.i + c.o) - nI c.i ∧ hsA c.arcs (fnd c.pins (sN T n (sE T n q)) 0 c.i) (fnd c.pins (sN T n (sE T n (sE T n q))) 0 (c.i + c.o) - nI c.i) c.ac 0 = 0) (sS T n (sE T n (sE T n q))) (rArc3 (tkOf T n) L c (fnd c.pins (sN T n (sE T n q)) 0 c.i) (fnd c.pins (sN T n (sE T n (sE T n q))) 0 (c.i + c.o) - nI c.i) (sE T n (sE T n (sE T n q)))))) := rfl
  rw [e0] at wi ⊢
  clear e0
  obtain ⟨w1, w2, w3, w4, w5, _⟩ := id hw
  refine yC_of (by decide) (ble rfl) (ls := [some (.ref o), none, none, none, none, none, none, none, none]) rfl ?_
  refine yX11_readArc_0 (yX11_readArc_1 (yX11_readArc_2 (yX11_readArc_5 (yX11_readArc_6 (yX11_readArc_9 (ble rfl) rfl (i := 12 * u + k) s30 (by omega) ?_)))))
  rw [r.2.2.2.2.1]
  refine yX11_readArc_10 (yX11_readArc_12 (fun h9 => ?_) (fun h9 => ?_))
  · have h9 : 10 ≤ c.ac := (nI_leI (a := 10) (by omega) (by omega)).mp h9
    refine yX11_readArc_19 (yX11_readArc_20 (ble rfl) n_0 ?_)
    rw [dmd_f (by omega)]
    exact Y_imp (ra_D1 h.die) (fun v F' hh => qC.mono (die_kT.cK _) hh)
  have h9 : c.ac < 10 := by
    rcases Nat.lt_or_ge c.ac 10 with z | z
    · exact z
    · exact absurd (nI_le (a := 10) z (by omega)) h9
  rw [dmd_t h9] at wi ⊢
  refine yX11_readArc_15 (yX11_readArc_16 (yX11_readArc_20 (ble rfl) (n_1 h.1.2.2.2.1) (yX11_readArc_23 (yX11_readArc_24_g (ble rfl) (g_a h.1) (fun v F1 hF => ?_)))))
  obtain ⟨rfl, a1, k1⟩ := hF
  have h1 := h.kT a1 k1
  generalize sE T n q = q1 at a1 h1 wi ⊢
  obtain ⟨_, _, t29, t30, _⟩ := h1.2.1
  have r1 := h1.2.2.2.1
  have ht1 := a1.2.2.2.2.2
  have hq1 := a1.2.2.2.2.1
  have hK1 := sK_le T hq1
  refine yX11_readArc_27 (yX11_readArc_28 (yX11_readArc_30 (yX11_readArc_31 (yX11_readArc_34 (yX11_readArc_35 (yX11_readArc_36 (yX11_readArc_39 (yX11_readArc_40 (yX11_readArc_43 (ble rfl) rfl (i := 12 * u + k) t30 (by omega) ?_)))))))))
  rw [r1.2.2.2.2.1]
  refine yX11_readArc_44 (yX11_readArc_46 (by decide) ?_)
  rw [show nI c.ac - nI c.ac / 10 * 10 = nI c.ac by have := pk_rem (a := c.ac) (d := 10) (by omega) (by omega) (by omega); rw [Nat.mod_eq_of_lt h9] at this; exact this]
  refine yX11_readArc_47 (yX11_readArc_48 ?_)
  rw [show (5 : Int32) * (10 * F1.s 30 + nI c.ac) = nI (5 * (10 * (12 * u + k) + c.ac)) by rw [t30, show (10 : Int32) * nI (12 * u + k) + nI c.ac = nI (10 * (12 * u + k) + c.ac) from ixm 10 _ _]; exact pk_mul 5 _]
  refine yX11_readArc_49 rfl (yX11_readArc_50 (yX11_readArc_51 (yX11_readArc_52 (yX11_readArc_55 (yX11_readArc_56 (yX11_readArc_57 (yX11_readArc_60 (yX11_readArc_61 (yX11_readArc_64 (ble rfl) rfl (i := 12 * u + k) t30 (by omega) ?_)))))))))
  rw [r1.2.2.1]
  refine yX11_readArc_65 (ble rfl) (m_pinOf _ (fr := 0) (by omega) (by omega) t30) (yX11_readArc_68 rfl ?_)
  have Z2 : ∀ x2 : Int32, fnd c.pins (sN T n q1) 0 c.i = -1 → Y w mX11_readArc (d + 4) (qC F T n u k L.tc L.tn (dmd (¬ fnd c.pins (sN T n q1) 0 c.i = -1) (sS T n q1) (dmd (0 ≤ fnd c.pins (sN T n (sE T n q1)) 0 (c.i + c.o) - nI c.i ∧ hsA c.arcs (fnd c.pins (sN T n q1) 0 c.i) (fnd c.pins (sN T n (sE T n q1)) 0 (c.i + c.o) - nI c.i) c.ac 0 = 0) (sS T n (sE T n q1)) (rArc3 (tkOf T n) L c (fnd c.pins (sN T n q1) 0 c.i) (fnd c.pins (sN T n (sE T n q1)) 0 (c.i + c.o) - nI c.i) (sE T n (sE T n q1)))))) o 88 [some (.ref o), some (.int (nI (5 * (10 * (12 * u + k) + c.ac)))), some (.int x2), none, none, none, none, none, none] [.int 0, .ref o] F1 := by
    intro x2 z
    refine yX11_readArc_88 (ble rfl) n_0 ?_
    rw [dmd_f (fun y => y z)]
    exact Y_imp (ra_D2 h1.die) (fun v F' hh => qC.mono ((k1.tr die_kT).cK _) hh)
  have hl1 : lmat (fun j => F1.l 12 (9 * (12 * u + k) + 0 + j)) F1.nm c.i 0 (-1) = fnd c.pins F1.nm 0 c.i := by
    rw [lmat_cg (g := c.pins) F1.nm c.i 0 (-1) (fun j _ hj => by rw [Nat.add_zero]; exact r1.2.2.2.2.2.1 j (by omega))]
    exact lmat_fnd F1.nm (uq_mono w5 (Nat.le_add_right _ _))
  rw [hl1]
  refine yX11_readArc_69 (yX11_readArc_70 (yX11_readArc_71 ?_))
  rw [ht1.2.2.1]
  refine yX11_readArc_74 (yX11_readArc_75 (fun h8 => ?_) (fun h8 => ?_))
  · refine yX11_readArc_87 ?_
    refine Z2 _ ?_
    have : ¬ sK T n q1 = 1 := fun z => h8 (by rw [z]; rfl)
    rw [show sN T n q1 = 0 from if_neg this]
    exact fnd_z (fun i hi => w4 i (by omega))
  have h8 : sK T n q1 = 1 := (nI_eq (b := 1) (by omega) (by omega)).mp h8
  rw [tn_l ht1 h8]
  refine yX11_readArc_78 (yX11_readArc_79 (yX11_readArc_80 (fun h7 => ?_) (fun h7 => ?_)))
  · refine yX11_readArc_87 ?_
    exact Z2 _ h7
  clear Z2 hl1
  rw [dmd_t h7] at wi ⊢
  generalize fnd c.pins (sN T n q1) 0 c.i = x2 at h7 wi ⊢
  refine yX11_readArc_83 (yX11_readArc_84 (yX11_readArc_88 (ble rfl) (n_1 a1.2.2.2.1) (yX11_readArc_91 (yX11_readArc_92_g (ble rfl) (g_a a1) (fun v F2 hF => ?_)))))
  obtain ⟨rfl, a2, k2⟩ := hF
  have h2 := h1.kT a2 k2
  have k2 := k1.tr k2
  generalize sE T n q1 = q2 at a2 h2 wi ⊢
  obtain ⟨_, _, v29, v30, _⟩ := h2.2.1
  have r2 := h2.2.2.2.1
  have ht2 := a2.2.2.2.2.2
  have hq2 := a2.2.2.2.2.1
  have hK2 := sK_le T hq2
  refine yX11_readArc_95 (yX11_readArc_96 (yX11_readArc_97 (yX11_readArc_100 (yX11_readArc_102 (yX11_readArc_103 (yX11_readArc_106 (yX11_readArc_107 (yX11_readArc_110 (ble rfl) rfl (i := 12 * u + k) v30 (by omega) ?_))))))))
  rw [r2.2.2.2.1]
  refine yX11_readArc_111 (ble rfl) (m_pinOf _ (fr := 6) (by omega) (by omega) v30) (yX11_readArc_114 rfl (yX11_readArc_115 (yX11_readArc_116 rfl (yX11_readArc_118 (yX11_readArc_119 rfl ?_)))))
  have hl2 : lmat (fun j => F2.l 12 (9 * (12 * u + k) + 6 + j)) F2.nm c.o 0 (-1) = lmat (fun j => c.pins (c.i + j)) F2.nm c.o 0 (-1) := lmat_cg F2.nm c.o 0 (-1) (fun j _ hj => r2.2.2.2.2.2.2.1 j (by omega))
  rw [hl2]
  refine ra_L (by omega) v30 w3 r2.2.2.2.2.1 c.ac 0 1 none (by omega) (fun l6 => ?_)
  have Z3 : ∀ x3 x4 : Int32, ¬ (0 ≤ fnd c.pins (sN T n q2) 0 (c.i + c.o) - nI c.i ∧ hsA c.arcs x2 (fnd c.pins (sN T n q2) 0 (c.i + c.o) - nI c.i) c.ac 0 = 0) → Y w mX11_readArc (d + 4) (qC F T n u k L.tc L.tn (dmd (0 ≤ fnd c.pins (sN T n q2) 0 (c.i + c.o) - nI c.i ∧ hsA c.arcs x2 (fnd c.pins (sN T n q2) 0 (c.i + c.o) - nI c.i) c.ac 0 = 0) (sS T n q2) (rArc3 (tkOf T n) L c x2 (fnd c.pins (sN T n q2) 0 (c.i + c.o) - nI c.i) (sE T n q2)))) o 215 [some (.ref o), some (.int (nI (5 * (10 * (12 * u + k) + c.ac)))), some (.int x2), some (.int x3), some (.int x4), some (.int (nI c.ac)), l6, none, none] [.int 0, .ref o] F2 := by
    intro x3 x4 z
    refine yX11_readArc_215 (ble rfl) n_0 ?_
    rw [dmd_f z]
    exact Y_imp (ra_D3 h2.die) (fun v F' hh => qC.mono ((k2.tr die_kT).cK _) hh)
  refine yX11_readArc_191 (yX11_readArc_192 (yX11_readArc_193 ?_))
  rw [ht2.2.2.1]
  refine yX11_readArc_196 (yX11_readArc_197 (fun h6 => ?_) (fun h6 => ?_))
  · refine yX11_readArc_214 ?_
    refine Z3 _ _ (fun z => ?_)
    have : ¬ sK T n q2 = 1 := fun z => h6 (by rw [z]; rfl)
    have z1 := z.1
    rw [show sN T n q2 = 0 from if_neg this, fnd_z w4] at z1
    exact neg_i w1 z1
  have h6 : sK T n q2 = 1 := (nI_eq (b := 1) (by omega) (by omega)).mp h6
  rw [tn_l ht2 h6]
  have oc := out_c (c := c) ⟨w1, w2⟩ w5 (sN T n q2)
  have hnw := fun x3 => nwF_h (F := F2) (cc := 12 * u + k) x2 x3 r2.2.2.2.2.2.2.2.2.2.2.2.1 c.ac 0 (by omega)
  refine yX11_readArc_200 (yX11_readArc_201 (yX11_readArc_202 (fun h5 => ?_) (fun h5 => ?_)))
  · refine yX11_readArc_214 ?_
    refine Z3 _ _ (fun z => ?_)
    rcases oc with ⟨y1, _⟩ | ⟨y, y1, y2, y3⟩
    · exact y1 z.1
    · rw [y3] at h5; exact nI_m1 (by omega) h5
  rcases oc with ⟨_, y1⟩ | ⟨x3, y1, y2, y3⟩
  · exact absurd y1 h5
  rw [y3, y2]
  rw [y2] at Z3 wi
  refine yX11_readArc_205 (yX11_readArc_207 (fun h4 => ?_) (fun h4 => ?_))
  · refine yX11_readArc_214 ?_
    refine Z3 _ _ (fun z => ?_)
    rw [(hnw (nI x3)).2.mpr z.2] at h4
    exact absurd h4 (by decide)
  have h4 : hsA c.arcs x2 (nI x3) c.ac 0 = 0 := (hnw (nI x3)).2.mp ((hnw (nI x3)).1.resolve_left h4)
  clear Z3 hnw
  rw [dmd_t ⟨nI_pos' (by omega), h4⟩] at wi ⊢
  refine yX11_readArc_210 (yX11_readArc_211 (yX11_readArc_215 (ble rfl) (n_1 a2.2.2.2.1) (yX11_readArc_218 (yX11_readArc_219_g (ble rfl) (g_a a2) (fun v F3 hF => ?_)))))
  obtain ⟨rfl, a3, k3⟩ := hF
  have h3 := h2.kT a3 k3
  have k3 := k2.tr k3
  generalize sE T n q2 = q3 at a3 h3 wi ⊢
  have ht3 := a3.2.2.2.2.2
  have hq3 := a3.2.2.2.2.1
  have b1 := sW_01 T n q3 22
  have b2 := sW_01 T n q3 23
  have b3 := sW_01 T n q3 24
  generalize nwF F2 (12 * u + k) x2 (nI x3) c.ac 0 1 = x4
  refine yX11_readArc_222 (yX11_readArc_223 (yX11_readArc_225 (yX11_readArc_227 (yX11_readArc_229 (yX11_readArc_230 (yX11_readArc_231 (ble rfl) (m_is 22 (by decide) hq3 ht3) (yX11_readArc_234 rfl (yX11_readArc_236 (yX11_readArc_237 (yX11_readArc_239 (yX11_readArc_241 (yX11_readArc_243 (yX11_readArc_244 (yX11_readArc_245 (ble rfl) (m_is 23 (by decide) hq3 ht3) (yX11_readArc_248 rfl ?_)))))))))))))))
  have A4 : ¬ (¬ sSe (tkOf T n) q3 = 0 ∨ ¬ sW T n q3 24 = 0) → Y w mX11_readArc (d + 4) (qC F T n u k L.tc L.tn (rArc3 (tkOf T n) L c x2 (nI x3) q3)) o 282 [some (.ref o), some (.int (nI (5 * (10 * (12 * u + k) + c.ac)))), some (.int x2), some (.int (nI x3)), some (.int x4), some (.int (sW T n q3 22)), some (.int (sW T n q3 23)), none, none] [.int 0, .ref o] F3 := by
    intro z
    refine yX11_readArc_282 (ble rfl) n_0 ?_
    rw [show rArc3 (tkOf T n) L c x2 (nI x3) q3 = .error (sS T n q3) by unfold rArc3; rw [show rSense (tkOf T n) q3 = .error (sS T n q3) from dmd_f z]; rfl]
    exact Y_imp (ra_D4 h3.die) (fun v F' hh => qC.mono ((k3.tr die_kT).cK _) hh)
  have B4 : (¬ sSe (tkOf T n) q3 = 0 ∨ ¬ sW T n q3 24 = 0) → Y w mX11_readArc (d + 4) (qC F T n u k L.tc L.tn (rArc3 (tkOf T n) L c x2 (nI x3) q3)) o 282 [some (.ref o), some (.int (nI (5 * (10 * (12 * u + k) + c.ac)))), some (.int x2), some (.int (nI x3)), some (.int x4), some (.int (sW T n q3 22)), some (.int (sW T n q3 23)), none, none] [.int 1, .ref o] F3 := by
    intro z
    have e3 : rArc3 (tkOf T n) L c x2 (nI x3) q3 = bnd (rTak (tkOf T n) L (sE T n q3)) (fun r => bnd (rTak (tkOf T n) L r.2) (fun z => .ok ((c.nm, c.pl, c.pins, c.i, c.o, c.tr, c.am, c.tl, c.pw, c.pt, adA c.arcs c.ac x2 (nI x3) (sSe (tkOf T n) q3) r.1 z.1, c.ac + 1), z.2))) := by
      unfold rArc3; rw [show rSense (tkOf T n) q3 = .ok (sSe (tkOf T n) q3, sE T n q3) from dmd_t z]; rfl
    rw [e3] at wi ⊢
    clear e3
    have sse : ∀ v : Int32, v = (if ¬ sW T n q3 22 = 0 then 1 else if ¬ sW T n q3 23 = 0 then -1 else 0) → v = sSe (tkOf T n) q3 := fun v hv => hv
    generalize sSe (tkOf T n) q3 = s3 at wi sse ⊢
    generalize sW T n q3 22 = x5 at sse ⊢
    generalize sW T n q3 23 = x6 at sse ⊢
    refine yX11_readArc_282 (ble rfl) (n_1 a3.2.2.2.1) (yX11_readArc_285 (yX11_readArc_286_g (ble rfl) (g_a a3) (fun v F4 hF => ?_)))
    obtain ⟨rfl, a4, k4⟩ := hF
    have h4 := h3.kT a4 k4
    have k4 := k3.tr k4
    generalize sE T n q3 = q4 at a4 h4 wi ⊢
    have ht4 := a4.2.2.2.2.2
    have hq4 := a4.2.2.2.2.1
    have hK4 := sK_le T hq4
    have v29 := h4.2.1.2.2.1
    refine yX11_readArc_289 (yX11_readArc_290 (yX11_readArc_291 (yX11_readArc_294 (yX11_readArc_295 ?_))))
    rw [v29]
    refine yX11_readArc_298 (ble rfl) (m_tableOf _ hu h4.2.2.1.2.1 h4.2.2.1.1) (yX11_readArc_301 rfl ?_)
    rw [tab_l h4.2.2.1]
    have Z5 : ∀ x7 : Int32, fnd L.tn (sN T n q4) 0 L.tc = -1 → Y w mX11_readArc (d + 4) (qC F T n u k L.tc L.tn (bnd (rTak (tkOf T n) L q4) (fun r => bnd (rTak (tkOf T n) L r.2) (fun z => .ok ((c.nm, c.pl, c.pins, c.i, c.o, c.tr, c.am, c.tl, c.pw, c.pt, adA c.arcs c.ac x2 (nI x3) s3 r.1 z.1, c.ac + 1), z.2))))) o 323 [some (.ref o), some (.int (nI (5 * (10 * (12 * u + k) + c.ac)))), some (.int x2), some (.int (nI x3)), some (.int x4), some (.int x5), some (.int x6), some (.int x7), none] [.int 0, .ref o] F4 := by
      intro x7 z
      refine yX11_readArc_323 (ble rfl) n_0 ?_
      rw [show rTak (tkOf T n) L q4 = .error (sS T n q4) from dmd_f (fun y => y z)]
      exact Y_imp (ra_D5 h4.die) (fun v F' hh => qC.mono ((k4.tr die_kT).cK _) hh)
    refine yX11_readArc_303 (yX11_readArc_304 (yX11_readArc_305 ?_))
    rw [ht4.2.2.1]
    refine yX11_readArc_308 (yX11_readArc_309 (fun g8 => ?_) (fun g8 => ?_))
    · refine yX11_readArc_322 ?_
      refine Z5 _ ?_
      have : ¬ sK T n q4 = 1 := fun z => g8 (by rw [z]; rfl)
      rw [show sN T n q4 = 0 from if_neg this]
      exact fnd_z h.2.2.1.2.2.1
    have g8 : sK T n q4 = 1 := (nI_eq (b := 1) (by omega) (by omega)).mp g8
    rw [tn_l ht4 g8]
    refine yX11_readArc_312 (yX11_readArc_314 (yX11_readArc_315 (fun g7 => ?_) (fun g7 => ?_)))
    · refine yX11_readArc_322 ?_
      exact Z5 _ g7
    clear Z5
    rw [show rTak (tkOf T n) L q4 = .ok (fnd L.tn (sN T n q4) 0 L.tc, sE T n q4) from dmd_t g7] at wi ⊢
    generalize fnd L.tn (sN T n q4) 0 L.tc = x7 at wi ⊢
    refine yX11_readArc_318 (yX11_readArc_319 (yX11_readArc_323 (ble rfl) (n_1 a4.2.2.2.1) (yX11_readArc_326 (yX11_readArc_327_g (ble rfl) (g_a a4) (fun v F5 hF => ?_)))))
    obtain ⟨rfl, a5, k5⟩ := hF
    have h5 := h4.kT a5 k5
    have k5 := k4.tr k5
    have wi : ∀ c' q', bnd (rTak (tkOf T n) L (sE T n q4)) (fun z => .ok ((c.nm, c.pl, c.pins, c.i, c.o, c.tr, c.am, c.tl, c.pw, c.pt, adA c.arcs c.ac x2 (nI x3) s3 x7 z.1, c.ac + 1), z.2)) = .ok (c', q') → wC L.tc c' := wi
    show Y w mX11_readArc (d + 4) (qC F T n u k L.tc L.tn (bnd (rTak (tkOf T n) L (sE T n q4)) (fun z => .ok ((c.nm, c.pl, c.pins, c.i, c.o, c.tr, c.am, c.tl, c.pw, c.pt, adA c.arcs c.ac x2 (nI x3) s3 x7 z.1, c.ac + 1), z.2)))) o _ _ _ _
    generalize sE T n q4 = q5 at a5 h5 wi ⊢
    have ht5 := a5.2.2.2.2.2
    have hq5 := a5.2.2.2.2.1
    have hK5 := sK_le T hq5
    have v29 := h5.2.1.2.2.1
    refine yX11_readArc_330 (yX11_readArc_331 (yX11_readArc_332 (yX11_readArc_335 (yX11_readArc_336 ?_))))
    rw [v29]
    refine yX11_readArc_339 (ble rfl) (m_tableOf _ hu h5.2.2.1.2.1 h5.2.2.1.1) (yX11_readArc_342 rfl ?_)
    rw [tab_l h5.2.2.1]
    have Z6 : ∀ x8 : Int32, fnd L.tn (sN T n q5) 0 L.tc = -1 → Y w mX11_readArc (d + 4) (qC F T n u k L.tc L.tn (bnd (rTak (tkOf T n) L q5) (fun z => .ok ((c.nm, c.pl, c.pins, c.i, c.o, c.tr, c.am, c.tl, c.pw, c.pt, adA c.arcs c.ac x2 (nI x3) s3 x7 z.1, c.ac + 1), z.2)))) o 364 [some (.ref o), some (.int (nI (5 * (10 * (12 * u + k) + c.ac)))), some (.int x2), some (.int (nI x3)), some (.int x4), some (.int x5), some (.int x6), some (.int x7), some (.int x8)] [.int 0, .ref o] F5 := by
      intro x8 z
      refine yX11_readArc_364 (ble rfl) n_0 ?_
      rw [show rTak (tkOf T n) L q5 = .error (sS T n q5) from dmd_f (fun y => y z)]
      exact Y_imp (ra_D6 h5.die) (fun v F' hh => qC.mono ((k5.tr die_kT).cK _) hh)
    refine yX11_readArc_344 (yX11_readArc_345 (yX11_readArc_346 ?_))
    rw [ht5.2.2.1]
    refine yX11_readArc_349 (yX11_readArc_350 (fun f8 => ?_) (fun f8 => ?_))
    · refine yX11_readArc_363 ?_
      refine Z6 _ ?_
      have : ¬ sK T n q5 = 1 := fun z => f8 (by rw [z]; rfl)
      rw [show sN T n q5 = 0 from if_neg this]
      exact fnd_z h.2.2.1.2.2.1
    have f8 : sK T n q5 = 1 := (nI_eq (b := 1) (by omega) (by omega)).mp f8
    rw [tn_l ht5 f8]
    refine yX11_readArc_353 (yX11_readArc_355 (yX11_readArc_356 (fun f7 => ?_) (fun f7 => ?_)))
    · refine yX11_readArc_363 ?_
      exact Z6 _ f7
    clear Z6
    rw [show rTak (tkOf T n) L q5 = .ok (fnd L.tn (sN T n q5) 0 L.tc, sE T n q5) from dmd_t f7] at wi ⊢
    generalize fnd L.tn (sN T n q5) 0 L.tc = x8 at wi ⊢
    refine yX11_readArc_359 (yX11_readArc_360 (yX11_readArc_364 (ble rfl) (n_1 a5.2.2.2.1) (yX11_readArc_367 (yX11_readArc_368_g (ble rfl) (g_a a5) (fun v F6 hF => ?_)))))
    obtain ⟨rfl, a6, k6⟩ := hF
    have h6 := h5.kT a6 k6
    have k6 := k5.tr k6
    have w6 := wi _ _ rfl
    obtain ⟨_, _, z29, z30, _⟩ := h6.2.1
    obtain ⟨r1, r3, r4, r5, r6, r7, r8, r9, r10, r11, r12, r13, r14, r15⟩ := id h6.2.2.2.1
    have er : ∀ j, 5 * (10 * (12 * u + k) + c.ac) + j = 50 * (12 * u + k) + (c.ac * 5 + j) := fun j => by omega
    refine yX11_readArc_371 (yX11_readArc_372 (yX11_readArc_375 (fun z => absurd (a6.2.2.2.1.symm.trans z) (by decide)) (fun _ => ?_)))
    have G : ∀ v : Int32, v = s3 → Y w mX11_readArc (d + 4) (qC F T n u k L.tc L.tn (.ok ((c.nm, c.pl, c.pins, c.i, c.o, c.tr, c.am, c.tl, c.pw, c.pt, adA c.arcs c.ac x2 (nI x3) s3 x7 x8, c.ac + 1), sE T n q5))) o 420 [some (.ref o), some (.int (nI (5 * (10 * (12 * u + k) + c.ac)))), some (.int x2), some (.int (nI x3)), some (.int x4), some (.int x5), some (.int x6), some (.int x7), some (.int x8)] [.int v, .int (nI (5 * (10 * (12 * u + k) + c.ac)) + 2), .ref (o + 19)] ((F6.uA 19 (upd (F6.a 19) (5 * (10 * (12 * u + k) + c.ac)) x2)).uA 19 (upd (upd (F6.a 19) (5 * (10 * (12 * u + k) + c.ac)) x2) (5 * (10 * (12 * u + k) + c.ac) + 1) (nI x3))) := by
      intro v hv
      subst hv
      refine yX11_readArc_420 (ble rfl) (fun _ => rfl) (i := 5 * (10 * (12 * u + k) + c.ac) + 2) (nI_add _ 2) (by omega) (yX11_readArc_421 (yX11_readArc_422 (yX11_readArc_425 (yX11_readArc_426 (yX11_readArc_427 (yX11_readArc_428 (yX11_readArc_430 (ble rfl) (fun _ => rfl) (i := 5 * (10 * (12 * u + k) + c.ac) + 3) (nI_add _ 3) (by omega) (yX11_readArc_431 (yX11_readArc_432 (yX11_readArc_435 (yX11_readArc_436 (yX11_readArc_437 (yX11_readArc_438 (yX11_readArc_440 (ble rfl) (fun _ => rfl) (i := 5 * (10 * (12 * u + k) + c.ac) + 4) (nI_add _ 4) (by omega) ?_))))))))))))))
      refine yX11_readArc_441 (yX11_readArc_442 (yX11_readArc_445 (yX11_readArc_446 (yX11_readArc_449 (yX11_readArc_450 (ble rfl) rfl (i := 12 * u + k) z30 (by omega) (yX11_readArc_451 (yX11_readArc_452 (yX11_readArc_453 (ble rfl) (fun _ => rfl) (i := 12 * u + k) z30 (by omega) (yX11_readArc_454 ⟨rfl, ?_, ?_⟩)))))))))
      · refine ⟨a6, ?_, h6.2.2.1, ⟨r1, r3, r4, r5, ?_, r7, r8, r9, r10, r11, r12, fun j hj => ?_, r14, r15⟩, w6⟩
        · refine ⟨hu, hk, z29, z30, ⟨_, w1, r4⟩, ⟨_, w2, r5⟩, ⟨_, h9, ?_⟩⟩
          show upd (F6.a 18) (12 * u + k) (F6.a 18 (12 * u + k) + 1) (12 * u + k) = nI (c.ac + 1)
          rw [pk_us, r6, nI_1]
        · show upd (F6.a 18) (12 * u + k) (F6.a 18 (12 * u + k) + 1) (12 * u + k) = nI (c.ac + 1)
          rw [pk_us, r6, nI_1]
        · have hj : j < 5 * (c.ac + 1) := hj
          show upd (upd (upd (upd (upd (F6.a 19) (5 * (10 * (12 * u + k) + c.ac)) x2) (5 * (10 * (12 * u + k) + c.ac) + 1) (nI x3)) (5 * (10 * (12 * u + k) + c.ac) + 2) v) (5 * (10 * (12 * u + k) + c.ac) + 3) x7) (5 * (10 * (12 * u + k) + c.ac) + 4) x8 (50 * (12 * u + k) + j) = adA c.arcs c.ac x2 (nI x3) v x7 x8 j
          unfold adA
          by_cases e4 : j = c.ac * 5 + 4
          · subst e4; rw [er 4, pk_us, pk_us]
          rw [pk_un (by omega), pk_un e4]
          by_cases e3 : j = c.ac * 5 + 3
          · subst e3; rw [er 3, pk_us, pk_us]
          rw [pk_un (by omega), pk_un e3]
          by_cases e2 : j = c.ac * 5 + 2
          · subst e2; rw [er 2, pk_us, pk_us]
          rw [pk_un (by omega), pk_un e2]
          by_cases e1 : j = c.ac * 5 + 1
          · subst e1; rw [er 1, pk_us, pk_us]
          rw [pk_un (by omega), pk_un e1]
          by_cases e0 : j = c.ac * 5
          · subst e0; rw [show 5 * (10 * (12 * u + k) + c.ac) = 50 * (12 * u + k) + c.ac * 5 by omega, pk_us, pk_us]
          rw [pk_un (by omega), pk_un e0]
          exact r13 j (by omega)
      · refine (k6.cK _).tr ?_
        refine (cK.uA (r := 19) (i := 5 * (10 * (12 * u + k) + c.ac)) (v := x2) (by omega) (by show _ * 50 ≤ _; omega) (by show _ < _ * 50; omega)).tr ?_
        refine (cK.uA (r := 19) (i := 5 * (10 * (12 * u + k) + c.ac) + 1) (v := nI x3) (by omega) (by show _ * 50 ≤ _; omega) (by show _ < _ * 50; omega)).tr ?_
        refine (cK.uA (r := 19) (i := 5 * (10 * (12 * u + k) + c.ac) + 2) (v := v) (by omega) (by show _ * 50 ≤ _; omega) (by show _ < _ * 50; omega)).tr ?_
        refine (cK.uA (r := 19) (i := 5 * (10 * (12 * u + k) + c.ac) + 3) (v := x7) (by omega) (by show _ * 50 ≤ _; omega) (by show _ < _ * 50; omega)).tr ?_
        refine (cK.uA (r := 19) (i := 5 * (10 * (12 * u + k) + c.ac) + 4) (v := x8) (by omega) (by show _ * 50 ≤ _; omega) (by show _ < _ * 50; omega)).tr ?_
        exact cK.uA (r := 18) (i := 12 * u + k) (by omega) (by show _ * 1 ≤ _; omega) (by show _ < _ * 1; omega)
    refine yX11_readArc_378 (yX11_readArc_379 (yX11_readArc_382 (yX11_readArc_383 (yX11_readArc_384 (ble rfl) (fun _ => rfl) (i := 5 * (10 * (12 * u + k) + c.ac)) rfl (by omega) (yX11_readArc_385 (yX11_readArc_386 (yX11_readArc_389 (yX11_readArc_390 (yX11_readArc_391 (yX11_readArc_392 (yX11_readArc_393 (ble rfl) (fun _ => rfl) (i := 5 * (10 * (12 * u + k) + c.ac) + 1) (nI_1 _) (by omega) ?_)))))))))))
    refine yX11_readArc_394 (yX11_readArc_395 (yX11_readArc_398 (yX11_readArc_399 (yX11_readArc_400 (yX11_readArc_401 (yX11_readArc_403 (fun z5 => ?_) (fun z5 => ?_)))))))
    · refine yX11_readArc_410 (yX11_readArc_412 (fun z6 => ?_) (fun z6 => ?_))
      · refine yX11_readArc_419 ?_
        exact G 0 (sse 0 (by rw [if_neg (fun y => y z5), if_neg (fun y => y z6)]))
      · refine yX11_readArc_415 (yX11_readArc_416 ?_)
        exact G (-1) (sse (-1) (by rw [if_neg (fun y => y z5), if_pos z6]))
    · refine yX11_readArc_406 (yX11_readArc_407 ?_)
      exact G 1 (sse 1 (by rw [if_pos z5]))
  have se : sSe (tkOf T n) q3 = if ¬ sW T n q3 22 = 0 then 1 else if ¬ sW T n q3 23 = 0 then -1 else 0 := rfl
  refine yX11_readArc_250 (yX11_readArc_251 (yX11_readArc_253 (fun z5 => ?_) (fun z5 => ?_)))
  · refine yX11_readArc_277 (yX11_readArc_278 ?_)
    exact B4 (Or.inl (by rw [se, if_pos z5]; decide))
  · refine yX11_readArc_256 (yX11_readArc_258 (fun z6 => ?_) (fun z6 => ?_))
    · refine yX11_readArc_277 (yX11_readArc_278 ?_)
      exact B4 (Or.inl (by rw [se, if_neg (fun y => y z5), if_pos z6]; decide))
    · refine yX11_readArc_261 (yX11_readArc_262 (yX11_readArc_264 (yX11_readArc_266 (yX11_readArc_268 (yX11_readArc_270 (yX11_readArc_271 (ble rfl) (m_is 24 (by decide) hq3 ht3) (yX11_readArc_274 (fun z7 => ?_) (fun z7 => ?_))))))))
      · refine yX11_readArc_281 ?_
        refine A4 ?_
        rintro (y | y)
        · rw [se, if_neg (fun y => y z5), if_neg (fun y => y z6)] at y; exact y rfl
        · exact y z7
      · refine yX11_readArc_277 (yX11_readArc_278 ?_)
        exact B4 (Or.inr z7)
end M7
