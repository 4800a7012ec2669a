section M19
variable {w : xWd} {d o : Nat} {F F0 F1 F2 : mF} {T : Nat → Int32} {n : Nat}
variable {u k q t : Nat} {L : liT} {K : tkT}
theorem mo_table {x : liT × Nat} (m : mo K n) (hb : nbK K n) (hq : q ≤ n) (h : rTable K L q = .ok x) : pg (K.E q) n x.2 := by
  obtain ⟨_, h⟩ := dmd_ok h
  obtain ⟨_, h⟩ := dmd_ok h
  obtain ⟨y, h1, h⟩ := bnd_ok h
  cases h
  have a := m q hq
  have b := m _ a.2
  exact b.tr (tab_w m hb b.2 h1).2
theorem mo_items (m : mo K n) : ∀ j c t q x, q ≤ n → rItems K L j c t q = .ok x → pg q n x.2.2 := by
  intro j
  induction j with
  | zero => intro c t q x hq h; cases h; exact pg.rf hq
  | succ j ih =>
    intro c t q x hq h
    unfold rItems at h
    split at h
    · cases h; exact pg.rf hq
    · obtain ⟨y, h1, h⟩ := bnd_ok h
      obtain ⟨q2, h2, h⟩ := bnd_ok h
      have a := mo_item m hq h1
      have b := a.tr (mo_sign m a.2 h2)
      exact b.tr (ih _ _ _ _ b.2 h)
theorem mo_cell {t : tSt} {x : liT × tSt × Nat} (m : mo K n) (hq : q ≤ n) (h : rCell K L t q = .ok x) : pg (K.E q) n x.2.2 := by
  obtain ⟨_, h⟩ := dmd_ok h
  obtain ⟨_, h⟩ := dmd_ok h
  obtain ⟨q2, h1, h⟩ := bnd_ok h
  obtain ⟨y, h2, h⟩ := bnd_ok h
  obtain ⟨_, h⟩ := dmd_ok h
  obtain ⟨q3, h3, h⟩ := bnd_ok h
  cases h
  have a := m q hq
  have b := m _ a.2
  have c := b.tr (mo_sign m b.2 h1)
  have e := c.tr (mo_items m _ _ _ _ _ c.2 h2)
  exact e.tr (mo_sign m e.2 h3)
theorem rd_L {Q : Except Nat (liT × tSt × Nat) → Option Value → mF → Prop}
    (kE : ∀ (p : Nat) (F' : mF), de F' T n p → bK F0 F' u → Y w mX11_read (d + 9) (Q (.error p)) o 118 [some (.ref o)] [] F')
    (kO : ∀ (z : liT × tSt × Nat) (F' : mF), mLo F' T n u z.1 z.2.2 → bK F0 F' u → Y w mX11_read (d + 9) (Q (.ok z)) o 118 [some (.ref o)] [] F') :
    ∀ m L t q F, n - q ≤ m → mLo F T n u L q → bK F0 F u → Y w mX11_read (d + 9) (Q (rText (tkOf T n) m L t q)) o 49 [some (.ref o)] [] F := by
  have kD : ∀ (p : Nat) (F' : mF), de F' T n p → bK F0 F' u → Y w mX11_read (d + 9) (Q (.error p)) o 49 [some (.ref o)] [] F' := by
    intro p F' h1 h2
    refine yX11_read_49 (yX11_read_50 (yX11_read_53 (fun _ => ?_) (fun h9 => absurd h1.2.2.2.1 h9)))
    exact kE p F' h1 h2
  intro m
  induction m with
  | zero =>
    intro L t q F hm h k0
    have hq := h.1.2.2.2.2.1
    have ht := h.1.2.2.2.2.2
    have k0' : sK T n q = 0 := by
      rcases kcase T hq with z | z | z | z | z
      · exact z.1
      all_goals
        have := (tkS_le T hq).1
        have : sS T n q = tkS T n q := rfl
        omega
    refine yX11_read_49 (yX11_read_50 (yX11_read_53 (fun h9 => absurd (h.1.2.2.2.1.symm.trans h9) (by decide)) (fun _ => ?_)))
    refine yX11_read_56 (yX11_read_57 ?_)
    rw [ht.2.2.1, k0']
    refine yX11_read_60 (fun _ => ?_) (fun h9 => absurd rfl h9)
    exact kO (L, t, q) F h k0
  | succ m ih =>
    intro L t q F hm h k0
    have hq := h.1.2.2.2.2.1
    have ht := h.1.2.2.2.2.2
    have h4 := sK_le T hq
    refine yX11_read_49 (yX11_read_50 (yX11_read_53 (fun h9 => absurd (h.1.2.2.2.1.symm.trans h9) (by decide)) (fun _ => ?_)))
    refine yX11_read_56 (yX11_read_57 ?_)
    rw [ht.2.2.1]
    refine yX11_read_60 (fun h9 => ?_) (fun h9 => ?_)
    · have h9 : sK T n q = 0 := (nI_eq (b := 0) (by omega) (by omega)).mp h9
      rw [show rText (tkOf T n) (m + 1) L t q = .ok (L, t, q) from if_pos h9]
      exact kO (L, t, q) F h k0
    · have h9 : ¬ sK T n q = 0 := fun z => h9 (by rw [z]; rfl)
      have hgt := sE_gt hq h9
      have hle := (sE_le T hq).2
      have e0 : rText (tkOf T n) (m + 1) L t q = if ¬ sW T n q 0 = 0 then bnd (rTable (tkOf T n) L q) (fun x => rText (tkOf T n) m x.1 t x.2) else dmd (¬ sW T n q 4 = 0) (sS T n q) (bnd (rCell (tkOf T n) L t q) (fun x => rText (tkOf T n) m x.1 x.2.1 x.2.2)) := if_neg h9
      rw [e0]
      refine yX11_read_63 (yX11_read_64 (yX11_read_66 (yX11_read_68 (yX11_read_70 (yX11_read_72 (yX11_read_74 (ble rfl) (m_is 0 (by decide) hq ht) (yX11_read_77 (fun h8 => ?_) (fun h8 => ?_))))))))
      rotate_left
      · rw [if_pos h8]
        refine yX11_read_80 (yX11_read_81_g (ble rfl) (rt_a h) (fun v F1 hF => ?_))
        obtain ⟨rfl, hR, k1⟩ := hF
        refine yX11_read_84 ?_
        match hr : rTable (tkOf T n) L q with
        | .error p =>
          rw [hr] at hR
          exact kD p F1 hR (k0.tr k1)
        | .ok x =>
          rw [hr] at hR
          have g := mo_table mo_tk nb_tk hq hr
          have g1 : sE T n q ≤ x.2 := g.1
          exact ih x.1 t x.2 F1 (by omega) hR (k0.tr k1)
      rw [if_neg (fun z => z h8)]
      refine yX11_read_87 (yX11_read_88 (yX11_read_90 (yX11_read_92 (yX11_read_94 (yX11_read_96 (yX11_read_97 (ble rfl) (m_is 4 (by decide) hq ht) (yX11_read_100 (fun h7 => ?_) (fun h7 => ?_))))))))
      · rw [dmd_f (fun z => z h7)]
        refine yX11_read_110 (yX11_read_111 (yX11_read_112 (ble rfl) n_0 (yX11_read_115 ?_)))
        exact kD _ _ h.1.die (k0.tr die_kT.bK)
      · rw [dmd_t h7]
        refine yX11_read_103 (yX11_read_104_g (ble rfl) (rc_a t h) (fun v F1 hF => ?_))
        obtain ⟨rfl, hR, k1⟩ := hF
        refine yX11_read_107 ?_
        match hr : rCell (tkOf T n) L t q with
        | .error p =>
          rw [hr] at hR
          exact kD p F1 hR (k0.tr k1)
        | .ok x =>
          rw [hr] at hR
          have g := mo_cell mo_tk hq hr
          have g1 : sE T n q ≤ x.2.2 := g.1
          exact ih x.1 x.2.1 x.2.2 F1 (by omega) hR (k0.tr k1)
/-- the model between two calls: its tape, its library in the bank b -/
def mZ (F : mF) (T : Nat → Int32) (n b : Nat) (L : liT) : Prop := F.a 1 = T ∧ F.s 1 = nI n ∧ n ≤ 1400 ∧ F.s 3 = nI b ∧ b < 2 ∧ libR F b L ∧ wL L
theorem wL_0 : wL (0, L.tn, L.ts, 0, L.cs) := ⟨by show 0 ≤ 12; omega, by show 0 ≤ 12; omega, fun j hj => absurd hj (Nat.not_lt_zero _), fun j _ hj => absurd hj (Nat.not_lt_zero _), fun j hj => absurd hj (Nat.not_lt_zero _), fun j hj => absurd hj (Nat.not_lt_zero _)⟩
/-- what read answers -/
def rdV (r : Except Nat (liT × tSt × Nat)) : Int32 := match r with
  | .ok x => nI x.1.cc
  | .error p => -1 - nI p
def rdL (L : liT) (r : Except Nat (liT × tSt × Nat)) : liT := match r with
  | .ok x => x.1
  | .error _ => L
theorem m_read {b : Nat} (L2 : liT) (t : tSt) (h : mZ F T n b L) : yC w (d + 9) mX11_read [.ref o] o F (fun v F' => v = some (.int (rdV (rAll (tkOf T n) L2 t))) ∧ F'.s 0 = 0 ∧ ∃ b', mZ F' (F'.a 1) 0 b' (rdL L (rAll (tkOf T n) L2 t))) := by
  obtain ⟨h1, h2, h3, h4, hb, hL, hw⟩ := h
  obtain ⟨u, hu, hub, e⟩ : ∃ u, u < 2 ∧ b ≠ u ∧ (1 : Int32) - nI b = nI u := by
    have : b = 0 ∨ b = 1 := by omega
    rcases this with z | z
    · subst z; exact ⟨1, by decide, by decide, rfl⟩
    · subst z; exact ⟨0, by decide, by decide, rfl⟩
  refine yC_of (by decide) (ble rfl) (ls := [some (.ref o)]) rfl ?_
  refine yX11_read_0 (yX11_read_1 (yX11_read_2 (yX11_read_5 (yX11_read_6 (yX11_read_7 (yX11_read_8 ?_))))))
  rw [show (F.uS 0 0).s 3 = nI b from h4]
  refine yX11_read_11 ?_
  rw [e]
  refine yX11_read_12 (yX11_read_15 (yX11_read_16 (yX11_read_19 (yX11_read_20 (yX11_read_23 (yX11_read_24 (ble rfl) (fun _ => rfl) (i := u) rfl hu (yX11_read_25 (yX11_read_26 (yX11_read_29 (yX11_read_30 (yX11_read_33 (yX11_read_34 (ble rfl) (fun _ => rfl) (i := u) rfl hu (yX11_read_35 (yX11_read_36 (yX11_read_37 (by first | exact Or.inl rfl | exact Or.inr rfl) (yX11_read_40 (yX11_read_41 (yX11_read_42 (yX11_read_45 ?_)))))))))))))))))))
  have hat : ((((((F.uS 0 0).uS 29 (nI u)).uA 2 (upd (F.a 2) u 0)).uA 9 (upd (F.a 9) u 0)).uS 28 1).uS 23 0).s 23 = nI 0 := rfl
  refine yX11_read_46 (ble rfl) (m_look (F := ((((((F.uS 0 0).uS 29 (nI u)).uA 2 (upd (F.a 2) u 0)).uA 9 (upd (F.a 9) u 0)).uS 28 1).uS 23 0)) (T := T) (n := n) h1 h2 h3 hat (Nat.zero_le _)) ?_
  have hL0 : libR (tk4 ((((((F.uS 0 0).uS 29 (nI u)).uA 2 (upd (F.a 2) u 0)).uA 9 (upd (F.a 9) u 0)).uS 28 1).uS 23 0) (nI (sS T n 0)) (nI (sE T n 0)) (mNm T n (sS T n 0) (sE T n 0)) (mNu T n (sS T n 0) (sE T n 0)) (nI (sK T n 0))) b L := by
    refine hL.bR (u := u) (fun r i g1 g2 g3 => ⟨?_, rfl⟩) hub hw
    show ((F.uA 2 (upd (F.a 2) u 0)).uA 9 (upd (F.a 9) u 0)).a r i = F.a r i
    by_cases e9 : r = 9
    · subst e9
      have g3 : i < u * 1 ∨ (u + 1) * 1 ≤ i := g3
      rw [uA_s]
      exact pk_un (by omega)
    · rw [uA_n e9]
      by_cases e2 : r = 2
      · subst e2
        have g3 : i < u * 1 ∨ (u + 1) * 1 ≤ i := g3
        rw [uA_s]
        exact pk_un (by omega)
      · rw [uA_n e2]
  have m0 : mLo (tk4 ((((((F.uS 0 0).uS 29 (nI u)).uA 2 (upd (F.a 2) u 0)).uA 9 (upd (F.a 9) u 0)).uS 28 1).uS 23 0) (nI (sS T n 0)) (nI (sE T n 0)) (mNm T n (sS T n 0) (sE T n 0)) (mNu T n (sS T n 0) (sE T n 0)) (nI (sK T n 0))) T n u (0, L2.tn, L2.ts, 0, L2.cs) 0 := by
    refine ⟨⟨h1, h2, h3, rfl, Nat.zero_le _, rfl, rfl, rfl, fun hk => mNm_1 T (Nat.zero_le _) hk, fun hk => mNu_2 T (Nat.zero_le _) hk⟩, hu, rfl, ⟨⟨pk_us, wL_0.1, wL_0.2.2.1, wL_0.2.2.2.1, fun j hj => absurd hj (Nat.not_lt_zero _)⟩, pk_us, fun j hj => absurd hj (Nat.not_lt_zero _), fun j hj => absurd hj (Nat.not_lt_zero _)⟩, wL_0⟩
  have z0 : (tk4 ((((((F.uS 0 0).uS 29 (nI u)).uA 2 (upd (F.a 2) u 0)).uA 9 (upd (F.a 9) u 0)).uS 28 1).uS 23 0) (nI (sS T n 0)) (nI (sE T n 0)) (mNm T n (sS T n 0) (sE T n 0)) (mNu T n (sS T n 0) (sE T n 0)) (nI (sK T n 0))).s 0 = 0 := rfl
  have z3' : (tk4 ((((((F.uS 0 0).uS 29 (nI u)).uA 2 (upd (F.a 2) u 0)).uA 9 (upd (F.a 9) u 0)).uS 28 1).uS 23 0) (nI (sS T n 0)) (nI (sE T n 0)) (mNm T n (sS T n 0) (sE T n 0)) (mNu T n (sS T n 0) (sE T n 0)) (nI (sK T n 0))).s 3 = nI b := h4
  generalize tk4 ((((((F.uS 0 0).uS 29 (nI u)).uA 2 (upd (F.a 2) u 0)).uA 9 (upd (F.a 9) u 0)).uS 28 1).uS 23 0) (nI (sS T n 0)) (nI (sE T n 0)) (mNm T n (sS T n 0) (sE T n 0)) (mNu T n (sS T n 0) (sE T n 0)) (nI (sK T n 0)) = F0 at hL0 m0 z0 z3' ⊢
  refine rd_L (F0 := F0) (Q := fun R v F' => v = some (.int (rdV R)) ∧ F'.s 0 = 0 ∧ ∃ b', mZ F' (F'.a 1) 0 b' (rdL L R)) ?_ ?_ 1400 _ t 0 F0 (by omega) m0 bK.rf
  · intro p F' hd kF
    obtain ⟨_, _, _, d4, qq, _, d6, d7⟩ := hd
    refine yX11_read_118 (yX11_read_119 (yX11_read_120 (yX11_read_123 (yX11_read_124 (yX11_read_127 (fun h9 => absurd d4 h9) (fun _ => ?_))))))
    refine yX11_read_130 (yX11_read_131 (yX11_read_132 ?_))
    rw [show (F'.uS 1 0).s 23 = nI p from d6.1.trans (by rw [d7])]
    refine yX11_read_135 (yX11_read_136 ⟨rfl, kF.2.1.trans z0, b, rfl, rfl, by omega, kF.2.2.1.trans z3', hb, hL0.bK kF hub hw, hw⟩)
  · intro z F' hm kF
    obtain ⟨a1, _, a29, aL, aw⟩ := hm
    refine yX11_read_118 (yX11_read_119 (yX11_read_120 (yX11_read_123 (yX11_read_124 (yX11_read_127 (fun _ => ?_) (fun h9 => absurd (a1.2.2.2.1.symm.trans h9) (by decide)))))))
    refine yX11_read_137 (yX11_read_138 (yX11_read_139 (yX11_read_142 (yX11_read_145 (yX11_read_146 (yX11_read_149 (yX11_read_150 (yX11_read_153 (ble rfl) rfl (i := u) a29 hu ?_))))))))
    rw [show ((F'.uS 1 0).uS 3 ((F'.uS 1 0).s 29)).a 9 u = nI z.1.cc from aL.2.1]
    refine yX11_read_154 ⟨rfl, kF.2.1.trans z0, u, rfl, rfl, by omega, a29, hu, aL, aw⟩
end M19
