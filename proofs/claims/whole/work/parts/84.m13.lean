section M13
variable {w : xWd} {d o : Nat} {F : mF} {T : Nat → Int32} {n : Nat}
variable {u k q tc : Nat} {c : ceT} {tn : Nat → Int64}
theorem ex_a {cc : Nat} (t : tSt) (hcc : cc < 24) (h30 : F.s 30 = nI cc) (r : celR F cc c) (hw : wC tc c) (ha : al F T n q) (h1 : 1 ≤ q) : yC w (d + 5) mX11_expression [.ref o] o F (qX F T n (allM c.i) (rFun (tkOf T n) c 1400 (tBegin t) q)) := by
  refine yC_of (by decide) (ble rfl) (ls := [some (.ref o), none, none, none]) rfl ?_
  refine yX11_expression_0 (yX11_expression_1 (yX11_expression_2 (yX11_expression_5 (yX11_expression_6 (yX11_expression_7 (yX11_expression_10 (yX11_expression_11 rfl (yX11_expression_12 (yX11_expression_13 rfl (yX11_expression_14 (yX11_expression_15 rfl ?_)))))))))))
  have kx : xK F ((F.uS 32 0).uS 34 0) := (xK.uS (Or.inl rfl)).tr (xK.uS (Or.inr rfl))
  have h14 := ha.2.2.1
  have L := (ex_L (w := w) (d := d) (o := o) (F0 := F) (T := T) (n := n) h30 hcc r hw (n - q + 1)).1 ((F.uS 32 0).uS 34 0) (tBegin t) q 1400 1399 (by omega) (ha.xK kx) kx.eK (Nat.zero_le _) ⟨0, [], [], [], [], [], [], [], [], ⟨rfl, rfl, trivial, trivial, Nat.zero_le _, Nat.zero_le _⟩, ⟨Or.inl ⟨rfl, rfl, rfl⟩, Or.inl ⟨rfl, rfl, rfl⟩, Or.inl ⟨rfl, rfl, rfl⟩⟩, rfl, ⟨rfl, rfl⟩, Nat.zero_le _⟩ (by omega) (by omega)
  exact L
theorem ex_d (hs : F.s 28 = 0) : yC w d mX11_expression [.ref o] o F (fun v F' => (∃ z, v = some (.long z)) ∧ xK F F') := by
  refine yC_of (by decide) (ble rfl) (ls := [some (.ref o), none, none, none]) rfl ?_
  refine yX11_expression_0 (yX11_expression_1 (yX11_expression_2 (yX11_expression_5 (yX11_expression_6 (yX11_expression_7 (yX11_expression_10 (yX11_expression_11 rfl (yX11_expression_12 (yX11_expression_13 rfl (yX11_expression_14 (yX11_expression_15 rfl ?_)))))))))))
  exact ex_D hs ⟨⟨_, rfl⟩, (xK.uS (Or.inl rfl)).tr (xK.uS (Or.inr rfl))⟩
theorem de.xK {F F' : mF} {p : Nat} (h : de F T n p) (k : xK F F') : de F' T n p := by
  obtain ⟨h1, h2, h3, h4, q, h5, h6, h7⟩ := h
  refine ⟨?_, ?_, h3, ?_, q, h5, h6.xK k, h7⟩
  · rw [k.2.2.1 1 (by omega)]; exact h1
  · rw [k.1 1 (by omega) (by omega)]; exact h2
  · rw [k.1 28 (by omega) (by omega)]; exact h4
theorem mCd.xK {F F' : mF} {p : Nat} (h : mCd F T n u k tc tn p) (kx : xK F F') : mCd F' T n u k tc tn p := ⟨h.1.xK kx, h.2.1.eK kx.eK, h.2.2.cK (kx.eK.cK 0)⟩
theorem sg9 : sgOK 9 := ⟨rfl, by decide, by decide⟩
theorem rem3 {x : Nat} (h : x ≤ 3) : nI x - nI x / 3 * 3 = nI (x % 3) := pk_rem (d := 3) (by omega) (by omega) (by omega)
theorem ro_E {p : Nat} {j : Nat} (hj : j < 3) (h : mCd F T n u k tc tn p) : Y w mX11_readOutput (d + 6) (qC F T n u k tc tn (.error p)) o 91 [some (.ref o), some (.int (nI j))] [] F := by
  obtain ⟨hu, hk, s29, s30, ⟨i0, hi0, ei⟩, ⟨o0, ho0, eo⟩, a0, ha0, ea⟩ := h.2.1
  refine yX11_readOutput_91 (yX11_readOutput_92 (yX11_readOutput_95 (yX11_readOutput_96 (yX11_readOutput_97 (yX11_readOutput_100 (yX11_readOutput_101 (yX11_readOutput_102 (yX11_readOutput_103 (yX11_readOutput_104_g (ble rfl) (ex_d h.1.2.2.2.1) (fun v F1 hF => ?_))))))))))
  obtain ⟨⟨z, rfl⟩, k1⟩ := hF
  have h1 := h.xK k1
  have t30 : F1.s 30 = nI (12 * u + k) := h1.2.1.2.2.2.1
  have e1 : F1.a 14 (12 * u + k) = nI o0 := by rw [k1.2.2.1 14 (by omega)]; exact eo
  refine yX11_readOutput_107 (ble rfl) (fun _ => rfl) (i := 3 * (12 * u + k) + j) (by rw [s30]; exact ixm 3 _ _) (by omega) (yX11_readOutput_108 (yX11_readOutput_109 (yX11_readOutput_112 (yX11_readOutput_113 (yX11_readOutput_116 (yX11_readOutput_117 (ble rfl) rfl (i := 12 * u + k) t30 (by omega) (yX11_readOutput_118 (yX11_readOutput_119 (yX11_readOutput_122 (fun _ => ?_) (fun h9 => absurd h1.1.2.2.2.1 h9))))))))))
  refine yX11_readOutput_129 (yX11_readOutput_130 (yX11_readOutput_131 (ble rfl) (fun _ => rfl) (i := 12 * u + k) t30 (by omega) (yX11_readOutput_132 ⟨rfl, ⟨h1.1, ?_, h1.2.2⟩, ?_⟩)))
  · refine ⟨hu, hk, h1.2.1.2.2.1, t30, h1.2.1.2.2.2.2.1, ⟨o0, ho0, ?_⟩, h1.2.1.2.2.2.2.2.2⟩
    show upd (F1.a 14) (12 * u + k) (F1.a 14 (12 * u + k) + 0) (12 * u + k) = nI o0
    rw [pk_us, e1]
    exact nI_add o0 0
  · refine (k1.eK.cK _).tr ?_
    exact (cK.uL (r := 17) (i := 3 * (12 * u + k) + j) (by omega) (by show _ * 3 ≤ _; omega) (by show _ < _ * 3; omega)).tr (cK.uA (r := 14) (i := 12 * u + k) (by omega) (by show _ * 1 ≤ _; omega) (by show _ < _ * 1; omega))
theorem ro_D {p : Nat} (h : mCd F T n u k tc tn p) : Y w mX11_readOutput (d + 6) (qC F T n u k tc tn (.error p)) o 41 [some (.ref o), none] [] F := by
  obtain ⟨hu, hk, s29, s30, ⟨i0, hi0, ei⟩, ⟨o0, ho0, eo⟩, a0, ha0, ea⟩ := h.2.1
  have hm : o0 % 3 < 3 := Nat.mod_lt _ (by omega)
  refine yX11_readOutput_41 (yX11_readOutput_42 (yX11_readOutput_45 (yX11_readOutput_46 (yX11_readOutput_49 (ble rfl) rfl (i := 12 * u + k) s30 (by omega) (yX11_readOutput_50 (yX11_readOutput_51 (by decide) ?_))))))
  rw [eo, rem3 ho0]
  refine yX11_readOutput_52 rfl (yX11_readOutput_53 (yX11_readOutput_54 (yX11_readOutput_57 (fun _ => ?_) (fun h9 => absurd h.1.2.2.2.1 h9))))
  refine yX11_readOutput_81 (yX11_readOutput_82 (ble rfl) (g_d h.1.2.2.2.1) (yX11_readOutput_85 (yX11_readOutput_86 (yX11_readOutput_88 (ble rfl) (sg_d h.1) ?_))))
  exact ro_E hm h
theorem ro_d {p : Nat} (h : mCd F T n u k tc tn p) : yC w (d + 6) mX11_readOutput [.ref o] o F (qC F T n u k tc tn (.error p)) := by
  obtain ⟨hu, hk, s29, s30, ⟨i0, hi0, ei⟩, ⟨o0, ho0, eo⟩, a0, ha0, ea⟩ := h.2.1
  refine yC_of (by decide) (ble rfl) (ls := [some (.ref o), none]) rfl ?_
  refine yX11_readOutput_0 (yX11_readOutput_1 (ble rfl) (g_d h.1.2.2.2.1) (yX11_readOutput_4 (yX11_readOutput_5 (yX11_readOutput_6 (yX11_readOutput_9 (yX11_readOutput_10 (fun h10 => ?_) (fun h10 => ?_)))))))
  · refine yX11_readOutput_37 (yX11_readOutput_38 (ble rfl) (n_d h.1.2.2.2.1 (by first | exact Or.inl rfl | exact Or.inr rfl)) ?_)
    exact ro_D h
  · refine yX11_readOutput_13 (yX11_readOutput_14 (ble rfl) (m_isPin (by omega) s30 hi0 ho0 ei eo) (yX11_readOutput_17 (fun h17 => ?_) (fun h17 => ?_)))
    · refine yX11_readOutput_37 (yX11_readOutput_38 (ble rfl) (n_d h.1.2.2.2.1 (by first | exact Or.inl rfl | exact Or.inr rfl)) ?_)
      exact ro_D h
    · refine yX11_readOutput_20 (yX11_readOutput_21 (yX11_readOutput_24 (yX11_readOutput_25 (yX11_readOutput_28 (ble rfl) rfl (i := 12 * u + k) s30 (by omega) (yX11_readOutput_29 (yX11_readOutput_30 (fun h30 => ?_) (fun h30 => ?_)))))))
      · refine yX11_readOutput_37 (yX11_readOutput_38 (ble rfl) (n_d h.1.2.2.2.1 (by first | exact Or.inl rfl | exact Or.inr rfl)) ?_)
        exact ro_D h
      · refine yX11_readOutput_33 (yX11_readOutput_34 (yX11_readOutput_38 (ble rfl) (n_d h.1.2.2.2.1 (by first | exact Or.inl rfl | exact Or.inr rfl)) ?_))
        exact ro_D h
theorem wthn_M : ∀ i : Fin 7, ((-1 : Int64).toUInt64 >>> ((64 - nI (2 ^ i.val)).toInt64.toUInt64 &&& Int64.toUInt64 63)).toInt64 = allM i := by decide +kernel
theorem wthn_a {i : Nat} (hi : i ≤ 6) (x : Int64) : wthn x (nI (2 ^ i)) = x &&& allM i := by
  unfold wthn
  rw [wthn_M ⟨i, by omega⟩]
def rOut (K : tkT) (c : ceT) (t : tSt) (q : Nat) : Except Nat (ceT × tSt × Nat) := bnd (rOutN K c q) (fun x => rFunction K x.1 t x.2)
theorem wC_out {K : tkT} {c' : ceT} {t t' : tSt} {q' : Nat} (h : rOut K c t q = .ok (c', t', q')) (hw : wC tc c) : wC tc c' := by
  obtain ⟨x, h1, h⟩ := bnd_ok h
  obtain ⟨h2, h1⟩ := dmd_ok h1
  obtain ⟨y, h3, h1⟩ := bnd_ok h1
  obtain ⟨h4, h3⟩ := dmd_ok h3
  cases h3
  obtain ⟨q2, h5, h1⟩ := bnd_ok h1
  cases h1
  obtain ⟨z, h6, h⟩ := bnd_ok h
  obtain ⟨h7, h⟩ := dmd_ok h
  cases h
  obtain ⟨w1, w2, w3, w4, w5, w6, w7, w8, w9⟩ := hw
  refine ⟨w1, h2, w3, ?_, ?_, w6, w7, fun j hj => ?_, fun j hj => ?_⟩
  · show nz (uL c.pins (c.i + c.o) (K.N (K.E q))) (c.i + (c.o + 1))
    exact nz_add w4 h4.1
  · show uq (uL c.pins (c.i + c.o) (K.N (K.E q))) (c.i + (c.o + 1))
    exact uq_add w5 (fnd_no (by omega) h4.2)
  · obtain ⟨b1, ⟨a, a1, a2⟩, b3⟩ := w8 j hj
    exact ⟨b1, ⟨a, Nat.lt_succ_of_lt a1, a2⟩, b3⟩
  · have hj : j < c.o + 1 := hj
    show wthn (uL c.tr c.o (wthn (tTot z.1) (nI (2 ^ c.i))) j) (nI (2 ^ c.i)) = uL c.tr c.o (wthn (tTot z.1) (nI (2 ^ c.i))) j
    by_cases e : j = c.o
    · subst e; rw [ul_s, wthn_a w1, wthn_a w1, i_11]
    · rw [ul_n e]; exact w9 j (by omega)
theorem ro_a (t : tSt) (h : mCo F T n u k tc tn c q) : yC w (d + 6) mX11_readOutput [.ref o] o F (qC F T n u k tc tn (bnd (rOut (tkOf T n) c t q) (fun x => .ok (x.1, x.2.2)))) := by
  obtain ⟨hu, hk, s29, s30, _⟩ := h.2.1
  have hw := h.2.2.2.2
  obtain ⟨w1, w2, w3, w4, w5, w6, w7, w8, w9⟩ := id hw
  refine yC_of (by decide) (ble rfl) (ls := [some (.ref o), none]) rfl ?_
  refine yX11_readOutput_0 (yX11_readOutput_1_g (ble rfl) (g_a h.1) (fun v F1 hF => ?_))
  obtain ⟨rfl, a1, k1⟩ := hF
  have h1 := h.kT a1 k1
  have e1 : rOut (tkOf T n) c t q = bnd (dmd (c.o < 3) (sS T n (sE T n q)) (bnd (rPin (tkOf T n) c (sE T n q)) (fun x => bnd (rSign (tkOf T n) 9 x.2) (fun q2 => .ok (x.1, q2))))) (fun x => rFunction (tkOf T n) x.1 t x.2) := rfl
  have wi : ∀ c' t' q', rOut (tkOf T n) c t q = .ok (c', t', q') → wC tc c' := fun c' t' q' e => wC_out e hw
  rw [e1] at wi ⊢
  clear e1
  generalize sE T n q = q1 at a1 h1 wi ⊢
  have r1 := h1.2.2.2.1
  obtain ⟨_, _, t29, t30, _⟩ := h1.2.1
  have ht := a1.2.2.2.2.2
  have hq := a1.2.2.2.2.1
  have h4 := sK_le T hq
  have Z2 : ¬ (c.o < 3 ∧ ¬ sN T n q1 = 0 ∧ fnd c.pins (sN T n q1) 0 (c.i + c.o) = -1) → Y w mX11_readOutput (d + 6) (qC F T n u k tc tn (bnd (bnd (dmd (c.o < 3) (sS T n q1) (bnd (rPin (tkOf T n) c q1) (fun x => bnd (rSign (tkOf T n) 9 x.2) (fun q2 => .ok (x.1, q2))))) (fun x => rFunction (tkOf T n) x.1 t x.2)) (fun x => .ok (x.1, x.2.2)))) o 38 [some (.ref o), none] [.int 0, .ref o] F1 := by
    intro z
    refine yX11_readOutput_38 (ble rfl) n_0 ?_
    have e : dmd (c.o < 3) (sS T n q1) (bnd (rPin (tkOf T n) c q1) (fun x => bnd (rSign (tkOf T n) 9 x.2) (fun q2 => .ok (x.1, q2)))) = .error (sS T n q1) := by
      by_cases y1 : c.o < 3
      · rw [dmd_t y1, show rPin (tkOf T n) c q1 = .error (sS T n q1) from dmd_f (fun y => z ⟨y1, y.1, y.2⟩)]; rfl
      · rw [dmd_f y1]
    rw [e]
    exact Y_imp (ro_D h1.die) (fun v F' hh => qC.mono ((k1.tr die_kT).cK _) hh)
  refine yX11_readOutput_4 (yX11_readOutput_5 (yX11_readOutput_6 ?_))
  rw [ht.2.2.1]
  refine yX11_readOutput_9 (yX11_readOutput_10 (fun h7 => ?_) (fun h7 => ?_))
  · refine yX11_readOutput_37 ?_
    exact Z2 (fun z => h7 (by rw [(sN_0 hq).mp z.2.1]; rfl))
  have h7 : sK T n q1 = 1 := (nI_eq (b := 1) (by omega) (by omega)).mp h7
  have hnm := tn_l ht h7
  have hP := isP_iff r1 hw.1 hw.2.1
  rw [hnm] at hP
  refine yX11_readOutput_13 (yX11_readOutput_14 (ble rfl) (m_isPin (by omega) t30 hw.1 hw.2.1 r1.2.2.1 r1.2.2.2.1) (yX11_readOutput_17 (fun h6 => ?_) (fun h6 => ?_)))
  · refine yX11_readOutput_37 ?_
    exact Z2 (fun z => h6 (hP.mpr z.2.2))
  refine yX11_readOutput_20 (yX11_readOutput_21 (yX11_readOutput_24 (yX11_readOutput_25 (yX11_readOutput_28 (ble rfl) rfl (i := 12 * u + k) t30 (by omega) ?_))))
  rw [r1.2.2.2.1]
  refine yX11_readOutput_29 (yX11_readOutput_30 (fun h5 => ?_) (fun h5 => ?_))
  · have h5 : 3 ≤ c.o := (nI_leI (a := 3) (by omega) (by omega)).mp h5
    refine yX11_readOutput_37 ?_
    exact Z2 (fun z => by omega)
  have h5 : c.o < 3 := by
    rcases Nat.lt_or_ge c.o 3 with z | z
    · exact z
    · exact absurd (nI_le (a := 3) z (by omega)) h5
  clear Z2
  rw [dmd_t h5, show rPin (tkOf T n) c q1 = .ok ((c.nm, c.pl, uL c.pins (c.i + c.o) (sN T n q1), c.i, c.o, c.tr, c.am, c.tl, c.pw, c.pt, c.arcs, c.ac), sE T n q1) from dmd_t ⟨(sN_0 hq).mpr h7, hP.mp h6⟩] at wi ⊢
  obtain ⟨r01, r03, r04, r05, r06, r07, r08, r09, r10, r11, r12, r13, r14, r15⟩ := id r1
  refine yX11_readOutput_33 (yX11_readOutput_34 (yX11_readOutput_38 (ble rfl) (n_1 a1.2.2.2.1) (yX11_readOutput_41 (yX11_readOutput_42 (yX11_readOutput_45 (yX11_readOutput_46 (yX11_readOutput_49 (ble rfl) rfl (i := 12 * u + k) t30 (by omega) (yX11_readOutput_50 (yX11_readOutput_51 (by decide) ?_)))))))))
  rw [r05, rem3 w2, Nat.mod_eq_of_lt h5]
  refine yX11_readOutput_52 rfl (yX11_readOutput_53 (yX11_readOutput_54 (yX11_readOutput_57 (fun z => absurd (a1.2.2.2.1.symm.trans z) (by decide)) (fun _ => ?_))))
  refine yX11_readOutput_60 (yX11_readOutput_61 (yX11_readOutput_64 (yX11_readOutput_66 (yX11_readOutput_67 (yX11_readOutput_70 (yX11_readOutput_71 (yX11_readOutput_73 (yX11_readOutput_74 (yX11_readOutput_75 (yX11_readOutput_76 (yX11_readOutput_77 (yX11_readOutput_80 (ble rfl) (fun _ => rfl) (i := 9 * (12 * u + k) + 6 + c.o) (by rw [t30, show (9 : Int32) * nI (12 * u + k) + 6 = nI (9 * (12 * u + k) + 6) from ixm 9 _ 6]; exact nI_add _ _) (by omega) ?_))))))))))))
  have kB := (k1.cK (12 * u + k)).tr (cK.uL (F := F1) (c := 12 * u + k) (r := 12) (i := 9 * (12 * u + k) + 6 + c.o) (v := F1.nm) (by omega) (by show _ * 9 ≤ _; omega) (by show _ < _ * 9; omega))
  have aB : al (F1.uL 12 (vp_updL (F1.l 12) (9 * (12 * u + k) + 6 + c.o) F1.nm)) T n q1 := a1
  have rc : celR (F1.uL 12 (vp_updL (F1.l 12) (9 * (12 * u + k) + 6 + c.o) F1.nm)) (12 * u + k) (c.nm, c.pl, uL c.pins (c.i + c.o) (sN T n q1), c.i, c.o, c.tr, c.am, c.tl, c.pw, c.pt, c.arcs, c.ac) := by
    refine ⟨r01, r03, r04, r05, r06, fun j hj => ?_, fun j hj => ?_, r09, r10, r11, r12, r13, r14, r15⟩
    · have hj : j < c.i := hj
      show vp_updL (F1.l 12) (9 * (12 * u + k) + 6 + c.o) F1.nm (9 * (12 * u + k) + j) = uL c.pins (c.i + c.o) (sN T n q1) j
      rw [pk_uLn (by omega), ul_n (by omega)]; exact r07 j hj
    · have hj : j < c.o := hj
      show vp_updL (F1.l 12) (9 * (12 * u + k) + 6 + c.o) F1.nm (9 * (12 * u + k) + 6 + j) = uL c.pins (c.i + c.o) (sN T n q1) (c.i + j)
      rw [pk_uLn (by omega), ul_n (by omega)]; exact r08 j hj
  have last : (F1.uL 12 (vp_updL (F1.l 12) (9 * (12 * u + k) + 6 + c.o) F1.nm)).l 12 (9 * (12 * u + k) + 6 + c.o) = sN T n q1 := by
    show vp_updL (F1.l 12) (9 * (12 * u + k) + 6 + c.o) F1.nm (9 * (12 * u + k) + 6 + c.o) = _
    rw [pk_uLs, hnm]
  have wB : wC tc (c.nm, c.pl, uL c.pins (c.i + c.o) (sN T n q1), c.i, c.o, c.tr, c.am, c.tl, c.pw, c.pt, c.arcs, c.ac) := by
    refine ⟨w1, w2, w3, fun j hj => ?_, fun j j' hj hj' => ?_, w6, w7, w8, w9⟩
    · have hj : j < c.i + c.o := hj
      show ¬ uL c.pins (c.i + c.o) (sN T n q1) j = 0
      rw [ul_n (by omega)]; exact w4 j hj
    · have hj : j < c.i + c.o := hj
      have hj' : j' < c.i + c.o := hj'
      show uL c.pins (c.i + c.o) (sN T n q1) j = uL c.pins (c.i + c.o) (sN T n q1) j' → _
      rw [ul_n (by omega), ul_n (by omega)]; exact w5 j j' hj hj'
  generalize F1.uL 12 (vp_updL (F1.l 12) (9 * (12 * u + k) + 6 + c.o) F1.nm) = F2 at kB aB rc last ⊢
  have hB : mCo F2 T n u k tc tn (c.nm, c.pl, uL c.pins (c.i + c.o) (sN T n q1), c.i, c.o, c.tr, c.am, c.tl, c.pw, c.pt, c.arcs, c.ac) q1 := ⟨aB, shC.of hu hk (by rw [kB.2.2.2.2.1]; exact s29) (by rw [kB.2.2.2.2.2]; exact s30) rc wB, h.2.2.1.cK kB, rc, wB⟩
  refine yX11_readOutput_81 (yX11_readOutput_82_g (ble rfl) (g_a aB) (fun v F3 hF => ?_))
  obtain ⟨rfl, a3, k3⟩ := hF
  have h3 := hB.kT a3 k3
  have wi : ∀ c' t' q', bnd (bnd (rSign (tkOf T n) 9 (sE T n q1)) (fun q2 => .ok ((c.nm, c.pl, uL c.pins (c.i + c.o) (sN T n q1), c.i, c.o, c.tr, c.am, c.tl, c.pw, c.pt, c.arcs, c.ac), q2))) (fun x => rFunction (tkOf T n) x.1 t x.2) = .ok (c', t', q') → wC tc c' := wi
  show Y w mX11_readOutput (d + 6) (qC F T n u k tc tn (bnd (bnd (bnd (rSign (tkOf T n) 9 (sE T n q1)) (fun q2 => .ok ((c.nm, c.pl, uL c.pins (c.i + c.o) (sN T n q1), c.i, c.o, c.tr, c.am, c.tl, c.pw, c.pt, c.arcs, c.ac), q2))) (fun x => rFunction (tkOf T n) x.1 t x.2)) (fun x => .ok (x.1, x.2.2)))) o _ _ _ _
  generalize sE T n q1 = q3 at a3 h3 wi ⊢
  have hq3 := a3.2.2.2.2.1
  refine yX11_readOutput_85 (yX11_readOutput_86 (yX11_readOutput_88_g (ble rfl) (sg_a sg9 a3) (fun v F4 hF => ?_)))
  obtain ⟨rfl, a4, k4⟩ := hF
  match hs : rSign (tkOf T n) 9 q3 with
  | .error p =>
    rw [hs] at a4
    exact Y_imp (ro_E h5 (h3.dd a4 k4)) (fun v F' hh => qC.mono (kB.tr ((k3.tr k4).cK _)) hh)
  | .ok q4 =>
    rw [hs] at a4 wi
    have a4 : al F4 T n q4 := a4
    have h4 := h3.kT a4 k4
    have hq4 : 1 ≤ q4 := by
      obtain ⟨b1, b2⟩ := dmd_ok hs
      have := ((sign_iff T hq3 sg9.1 sg9.2.1 sg9.2.2).mp b1).1
      have := sE_gt (T := T) hq3 (by omega)
      cases b2
      show 1 ≤ sE T n q3
      omega
    have r4 := h4.2.2.2.1
    obtain ⟨_, _, v29, v30, _⟩ := h4.2.1
    have last4 : F4.l 12 (9 * (12 * u + k) + 6 + c.o) = sN T n q1 := by rw [(k3.tr k4).2.2]; exact last
    have wi : ∀ c' t' q', bnd (rFun (tkOf T n) (c.nm, c.pl, uL c.pins (c.i + c.o) (sN T n q1), c.i, c.o, c.tr, c.am, c.tl, c.pw, c.pt, c.arcs, c.ac) 1400 (tBegin t) q4) (fun x => dmd (x.1.1 = 0) (sS T n x.2) (.ok ((c.nm, c.pl, uL c.pins (c.i + c.o) (sN T n q1), c.i, c.o + 1, uL c.tr c.o (wthn (tTot x.1) (nI (2 ^ c.i))), c.am, c.tl, c.pw, c.pt, c.arcs, c.ac), x.1, x.2))) = .ok (c', t', q') → wC tc c' := wi
    show Y w mX11_readOutput (d + 6) (qC F T n u k tc tn (bnd (bnd (rFun (tkOf T n) (c.nm, c.pl, uL c.pins (c.i + c.o) (sN T n q1), c.i, c.o, c.tr, c.am, c.tl, c.pw, c.pt, c.arcs, c.ac) 1400 (tBegin t) q4) (fun x => dmd (x.1.1 = 0) (sS T n x.2) (.ok ((c.nm, c.pl, uL c.pins (c.i + c.o) (sN T n q1), c.i, c.o + 1, uL c.tr c.o (wthn (tTot x.1) (nI (2 ^ c.i))), c.am, c.tl, c.pw, c.pt, c.arcs, c.ac), x.1, x.2)))) (fun x => .ok (x.1, x.2.2)))) o _ _ _ _
    have hex := ex_a (w := w) (d := d) (o := o) t (by omega : 12 * u + k < 24) v30 r4 wB a4 hq4
    generalize rFun (tkOf T n) (c.nm, c.pl, uL c.pins (c.i + c.o) (sN T n q1), c.i, c.o, c.tr, c.am, c.tl, c.pw, c.pt, c.arcs, c.ac) 1400 (tBegin t) q4 = R at wi hex ⊢
    refine yX11_readOutput_91 (yX11_readOutput_92 (yX11_readOutput_95 (yX11_readOutput_96 (yX11_readOutput_97 (yX11_readOutput_100 (yX11_readOutput_101 (yX11_readOutput_102 (yX11_readOutput_103 (yX11_readOutput_104_g (ble rfl) hex (fun v F5 hF => ?_))))))))))
    obtain ⟨k5, hF⟩ := hF
    have r5 := r4.eK k5
    have S5 := h4.2.1.eK k5
    have N5 := h4.2.2.1.cK (k5.cK 0)
    obtain ⟨_, _, x29, x30, _⟩ := id S5
    have kE := (kB.tr ((k3.tr k4).cK (12 * u + k))).tr (k5.cK (12 * u + k))
    -- behind the expression
    have last5 : F5.l 12 (9 * (12 * u + k) + 6 + c.o) = sN T n q1 := by rw [k5.2.2 12 (by omega)]; exact last4
    have DD : ∀ (z : Int64) (p : Nat), de F5 T n p → Y w mX11_readOutput (d + 6) (qC F T n u k tc tn (.error p)) o 107 [some (.ref o), some (.int (nI c.o))] [.long z, .int (3 * F4.s 30 + nI c.o), .ref (o + 17)] F5 := by
      intro z p hd
      refine yX11_readOutput_107 (ble rfl) (fun _ => rfl) (i := 3 * (12 * u + k) + c.o) (by rw [v30]; exact ixm 3 _ _) (by omega) (yX11_readOutput_108 (yX11_readOutput_109 (yX11_readOutput_112 (yX11_readOutput_113 (yX11_readOutput_116 (yX11_readOutput_117 (ble rfl) rfl (i := 12 * u + k) x30 (by omega) (yX11_readOutput_118 (yX11_readOutput_119 (yX11_readOutput_122 (fun _ => ?_) (fun h9 => absurd hd.2.2.2.1 h9))))))))))
      refine yX11_readOutput_129 (yX11_readOutput_130 (yX11_readOutput_131 (ble rfl) (fun _ => rfl) (i := 12 * u + k) x30 (by omega) (yX11_readOutput_132 ⟨rfl, ⟨hd, ⟨hu, hk, x29, x30, ⟨_, w1, r5.2.2.1⟩, ⟨c.o, w2, ?_⟩, ⟨_, w3, r5.2.2.2.2.1⟩⟩, N5⟩, ?_⟩)))
      · show upd (F5.a 14) (12 * u + k) (F5.a 14 (12 * u + k) + 0) (12 * u + k) = nI c.o
        rw [pk_us, r5.2.2.2.1]
        exact nI_add c.o 0
      · refine kE.tr ?_
        exact (cK.uL (r := 17) (i := 3 * (12 * u + k) + c.o) (by omega) (by show _ * 3 ≤ _; omega) (by show _ < _ * 3; omega)).tr (cK.uA (r := 14) (i := 12 * u + k) (by omega) (by show _ * 1 ≤ _; omega) (by show _ < _ * 1; omega))
    match R, hF with
    | .error p, hF =>
      obtain ⟨⟨z, rfl⟩, hd⟩ := hF
      exact DD z p hd
    | .ok x, hF =>
      have hF : if x.1.1 = 0 then v = some (.long (tTot x.1 &&& allM c.i)) ∧ al F5 T n x.2 else (∃ z, v = some (.long z)) ∧ de F5 T n (sS T n x.2) := hF
      by_cases hx : x.1.1 = 0
      · rw [if_pos hx] at hF
        obtain ⟨rfl, a5⟩ := hF
        have wi := wi _ _ _ (show dmd (x.1.1 = 0) (sS T n x.2) _ = _ from dmd_t hx)
        have e : bnd (bnd (.ok x) (fun x : tSt × Nat => dmd (x.1.1 = 0) (sS T n x.2) (.ok ((c.nm, c.pl, uL c.pins (c.i + c.o) (sN T n q1), c.i, c.o + 1, uL c.tr c.o (wthn (tTot x.1) (nI (2 ^ c.i))), c.am, c.tl, c.pw, c.pt, c.arcs, c.ac), x.1, x.2)))) (fun x : ceT × tSt × Nat => .ok (x.1, x.2.2)) = .ok ((c.nm, c.pl, uL c.pins (c.i + c.o) (sN T n q1), c.i, c.o + 1, uL c.tr c.o (wthn (tTot x.1) (nI (2 ^ c.i))), c.am, c.tl, c.pw, c.pt, c.arcs, c.ac), x.2) := by
          show bnd (dmd (x.1.1 = 0) (sS T n x.2) _) _ = _
          rw [dmd_t hx]; rfl
        rw [e]
        obtain ⟨q01, q03, q04, q05, q06, q07, q08, q09, q10, q11, q12, q13, q14, q15⟩ := id r5
        refine yX11_readOutput_107 (ble rfl) (fun _ => rfl) (i := 3 * (12 * u + k) + c.o) (by rw [v30]; exact ixm 3 _ _) (by omega) (yX11_readOutput_108 (yX11_readOutput_109 (yX11_readOutput_112 (yX11_readOutput_113 (yX11_readOutput_116 (yX11_readOutput_117 (ble rfl) rfl (i := 12 * u + k) x30 (by omega) (yX11_readOutput_118 (yX11_readOutput_119 (yX11_readOutput_122 (fun h9 => absurd (a5.2.2.2.1.symm.trans h9) (by decide)) (fun _ => ?_))))))))))
        refine yX11_readOutput_125 (yX11_readOutput_126 (yX11_readOutput_130 (yX11_readOutput_131 (ble rfl) (fun _ => rfl) (i := 12 * u + k) x30 (by omega) (yX11_readOutput_132 ⟨rfl, ⟨a5, ⟨hu, hk, x29, x30, ⟨_, w1, r5.2.2.1⟩, ⟨c.o + 1, h5, ?_⟩, ⟨_, w3, r5.2.2.2.2.1⟩⟩, N5, ⟨q01, q03, q04, ?_, q06, q07, fun j hj => ?_, q09, q10, q11, fun j hj => ?_, q13, q14, q15⟩, wi⟩, ?_⟩))))
        · show upd (F5.a 14) (12 * u + k) (F5.a 14 (12 * u + k) + 1) (12 * u + k) = nI (c.o + 1)
          rw [pk_us, r5.2.2.2.1, nI_1]
        · show upd (F5.a 14) (12 * u + k) (F5.a 14 (12 * u + k) + 1) (12 * u + k) = nI (c.o + 1)
          rw [pk_us, r5.2.2.2.1, nI_1]
        · have hj : j < c.o + 1 := hj
          show F5.l 12 (9 * (12 * u + k) + 6 + j) = uL c.pins (c.i + c.o) (sN T n q1) (c.i + j)
          by_cases ej : j = c.o
          · subst ej; rw [ul_s]; exact last5
          · exact q08 j (by show j < c.o; omega)
        · have hj : j < c.o + 1 := hj
          show vp_updL (F5.l 17) (3 * (12 * u + k) + c.o) (tTot x.1 &&& allM c.i) (3 * (12 * u + k) + j) = uL c.tr c.o (wthn (tTot x.1) (nI (2 ^ c.i))) j
          by_cases ej : j = c.o
          · subst ej; rw [pk_uLs, ul_s, wthn_a w1]
          · rw [pk_uLn (by omega), ul_n ej]; exact q12 j (by show j < c.o; omega)
        · refine kE.tr ?_
          exact (cK.uL (r := 17) (i := 3 * (12 * u + k) + c.o) (by omega) (by show _ * 3 ≤ _; omega) (by show _ < _ * 3; omega)).tr (cK.uA (r := 14) (i := 12 * u + k) (by omega) (by show _ * 1 ≤ _; omega) (by show _ < _ * 1; omega))
      · rw [if_neg hx] at hF
        obtain ⟨⟨z, rfl⟩, hd⟩ := hF
        have e : bnd (bnd (.ok x) (fun x : tSt × Nat => dmd (x.1.1 = 0) (sS T n x.2) (.ok ((c.nm, c.pl, uL c.pins (c.i + c.o) (sN T n q1), c.i, c.o + 1, uL c.tr c.o (wthn (tTot x.1) (nI (2 ^ c.i))), c.am, c.tl, c.pw, c.pt, c.arcs, c.ac), x.1, x.2)))) (fun x : ceT × tSt × Nat => .ok (x.1, x.2.2)) = .error (sS T n x.2) := by
          show bnd (dmd (x.1.1 = 0) (sS T n x.2) _) _ = _
          rw [dmd_f hx]; rfl
        rw [e]
        exact DD z _ hd
end M13
