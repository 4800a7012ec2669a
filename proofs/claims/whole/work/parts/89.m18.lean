section M18
variable {w : xWd} {d o : Nat} {F F0 F1 F2 : mF} {T : Nat → Int32} {n : Nat}
variable {u k q t : Nat} {L : liT}
theorem rt_D5 {p : Nat} {x y : Option Value} (hu : u < 2) (s29 : F.s 29 = nI u) (h : de F T n p) : Y w mX11_readTable (d + 4) (qD F T n u p) o 185 [some (.ref o), x, y] [] F := by
  refine yX11_readTable_185 (yX11_readTable_186 (yX11_readTable_188 (ble rfl) (sg_d h) (yX11_readTable_191 (yX11_readTable_192 (yX11_readTable_195 (yX11_readTable_196 (yX11_readTable_199 (yX11_readTable_200 (ble rfl) rfl (i := u) s29 hu (yX11_readTable_201 (yX11_readTable_202 (yX11_readTable_205 (fun h205 => ?_) (fun h205 => ?_))))))))))))
  · refine yX11_readTable_212 (yX11_readTable_213 (yX11_readTable_214 (ble rfl) (fun _ => rfl) (i := u) s29 hu (yX11_readTable_215 ?_)))
    exact ⟨rfl, h, bK.uA (r := 2) (by show u * 1 ≤ u; omega) (by show u < (u + 1) * 1; omega)⟩
  · refine yX11_readTable_208 (yX11_readTable_209 (yX11_readTable_213 (yX11_readTable_214 (ble rfl) (fun _ => rfl) (i := u) s29 hu (yX11_readTable_215 ?_))))
    exact ⟨rfl, h, bK.uA (r := 2) (by show u * 1 ≤ u; omega) (by show u < (u + 1) * 1; omega)⟩
theorem rt_D4 {p : Nat} {z : Int32} (hu : u < 2) (ht : t < 24) (s29 : F.s 29 = nI u) (h : de F T n p) : Y w mX11_readTable (d + 4) (qD F T n u p) o 140 [some (.ref o), some (.int (nI t)), some (.int z)] [] F := by
  refine yX11_readTable_140 (yX11_readTable_141 (yX11_readTable_142 (yX11_readTable_145 (yX11_readTable_146 (ble rfl) rfl (i := t) rfl ht (yX11_readTable_147 (yX11_readTable_148 (yX11_readTable_151 (yX11_readTable_152 (ble rfl) rfl (i := t) rfl ht (yX11_readTable_153 (yX11_readTable_154 (fun h154 => ?_) (fun h154 => ?_)))))))))))
  · exact rt_D5 hu s29 h
  · refine yX11_readTable_157 (yX11_readTable_158 (yX11_readTable_161 (fun h161 => ?_) (fun h161 => ?_)))
    · exact rt_D5 hu s29 h
    · exact absurd h.2.2.2.1 h161
theorem rt_D3 {p : Nat} {y : Option Value} (hu : u < 2) (ht : t < 24) (s29 : F.s 29 = nI u) (h : de F T n p) : Y w mX11_readTable (d + 4) (qD F T n u p) o 132 [some (.ref o), some (.int (nI t)), y] [] F := by
  refine yX11_readTable_132 (yX11_readTable_133 (yX11_readTable_135 (ble rfl) (sg_d h) (yX11_readTable_138 (yX11_readTable_139 rfl ?_))))
  exact rt_D4 hu ht s29 h
theorem rt_D2 {p : Nat} {y : Option Value} (hu : u < 2) (hk : k < 12) (s29 : F.s 29 = nI u) (h : de F T n p) : Y w mX11_readTable (d + 4) (qD F T n u p) o 115 [some (.ref o), some (.int (nI (12 * u + k))), y] [] F := by
  refine yX11_readTable_115 (yX11_readTable_116 (yX11_readTable_119 (yX11_readTable_120 (yX11_readTable_121 (yX11_readTable_122 (yX11_readTable_125 (yX11_readTable_126 (yX11_readTable_127 ?_))))))))
  rw [show (4 : Int32) * nI (12 * u + k) = nI (4 * (12 * u + k)) from pk_mul 4 _]
  refine yX11_readTable_128 (ble rfl) (ax_0 (r := 7) h.2.2.2.1) (yX11_readTable_131 (ble rfl) (fun _ => rfl) (i := 12 * u + k) rfl (by omega) ?_)
  exact Y_imp (rt_D3 (F := F.uA 5 (upd (F.a 5) (12 * u + k) 0)) hu (by omega) s29 h) (fun v F' hh => qD.mono ((tW.uA (r := 5) (by omega) (by show (12 * u + k) * 1 ≤ _; omega) (by show _ < (12 * u + k + 1) * 1; omega)).bK hk) hh)
theorem rt_D1 {p : Nat} {y : Option Value} (hu : u < 2) (hk : k < 12) (s29 : F.s 29 = nI u) (h : de F T n p) : Y w mX11_readTable (d + 4) (qD F T n u p) o 109 [some (.ref o), some (.int (nI (12 * u + k))), y] [] F := by
  refine yX11_readTable_109 (yX11_readTable_110 (yX11_readTable_112 (ble rfl) (sg_d h) ?_))
  exact rt_D2 hu hk s29 h
theorem rt_D0 {p : Nat} {y : Option Value} (hu : u < 2) (hk : k < 12) (s29 : F.s 29 = nI u) (h : de F T n p) : Y w mX11_readTable (d + 4) (qD F T n u p) o 92 [some (.ref o), some (.int (nI (12 * u + k))), y] [] F := by
  refine yX11_readTable_92 (yX11_readTable_93 (yX11_readTable_96 (yX11_readTable_97 (yX11_readTable_98 (yX11_readTable_99 (yX11_readTable_102 (yX11_readTable_103 (yX11_readTable_104 ?_))))))))
  rw [show (4 : Int32) * nI (12 * u + k) = nI (4 * (12 * u + k)) from pk_mul 4 _]
  refine yX11_readTable_105 (ble rfl) (ax_0 (r := 6) h.2.2.2.1) (yX11_readTable_108 (ble rfl) (fun _ => rfl) (i := 12 * u + k) rfl (by omega) ?_)
  exact Y_imp (rt_D1 (F := F.uA 4 (upd (F.a 4) (12 * u + k) 0)) hu hk s29 h) (fun v F' hh => qD.mono ((tW.uA (r := 4) (by omega) (by show (12 * u + k) * 1 ≤ _; omega) (by show _ < (12 * u + k + 1) * 1; omega)).bK hk) hh)
theorem rt_D {p tc : Nat} {x y : Option Value} (hu : u < 2) (htc : tc ≤ 12) (s29 : F.s 29 = nI u) (a2 : F.a 2 u = nI tc) (h : de F T n p) : Y w mX11_readTable (d + 4) (qD F T n u p) o 51 [some (.ref o), x, y] [] F := by
  refine yX11_readTable_51 (yX11_readTable_53 (yX11_readTable_54 (yX11_readTable_57 (yX11_readTable_58 (yX11_readTable_59 (yX11_readTable_62 (yX11_readTable_63 (yX11_readTable_66 (ble rfl) rfl (i := u) s29 hu ?_))))))))
  rw [a2]
  refine yX11_readTable_67 (yX11_readTable_69 (by decide) ?_)
  rw [rem12 htc, s29]
  refine yX11_readTable_70 ?_
  rw [show (12 : Int32) * nI u + nI (tc % 12) = nI (12 * u + tc % 12) from ixm 12 _ _]
  have hk : tc % 12 < 12 := by omega
  generalize tc % 12 = k at hk ⊢
  refine yX11_readTable_71 rfl (yX11_readTable_72 (yX11_readTable_73 (yX11_readTable_76 (yX11_readTable_77 (yX11_readTable_78 (yX11_readTable_81 (ble rfl) (fun _ => rfl) (i := 12 * u + k) rfl (by omega) (yX11_readTable_82 (yX11_readTable_83 (ble rfl) (g_d h.2.2.2.1) (yX11_readTable_86 (yX11_readTable_87 (yX11_readTable_89 (ble rfl) (sg_d (F := F.uL 3 (vp_updL (F.l 3) (12 * u + k) F.nm)) h) ?_)))))))))))
  exact Y_imp (rt_D0 (F := F.uL 3 (vp_updL (F.l 3) (12 * u + k) F.nm)) hu hk s29 h) (fun v F' hh => qD.mono ((tW.uL (r := 3) (by omega) (by show (12 * u + k) * 1 ≤ _; omega) (by show _ < (12 * u + k + 1) * 1; omega)).bK hk) hh)
theorem rt_L {sn ln : Nat} {Q : Except Nat ((Nat → Int32) × Nat) → Option Value → mF → Prop} (ht : t < 24) (h1 : sn ≤ 4) (h2 : ln ≤ 4) (a4 : F0.a 4 t = nI sn) (a5 : F0.a 5 t = nI ln)
    (kE : ∀ (p : Nat) (F' : mF) (z : Int32), de F' T n p → aW F0 F' 8 (16 * t) (16 * t + 16) → Y w mX11_readTable (d + 4) (Q (.error p)) o 140 [some (.ref o), some (.int (nI t)), some (.int z)] [] F')
    (kO : ∀ (x : (Nat → Int32) × Nat) (F' : mF), al F' T n x.2 → aW F0 F' 8 (16 * t) (16 * t + 16) → (∀ s, s < sn * ln → F'.a 8 (16 * t + s) = x.1 s) → Y w mX11_readTable (d + 4) (Q (.ok x)) o 185 [some (.ref o), some (.int (nI t)), some (.int (nI (sn * ln)))] [] F') :
    ∀ m s f F q, s + m = sn * ln → al F T n q → aW F0 F 8 (16 * t) (16 * t + 16) → (∀ s', s' < s → F.a 8 (16 * t + s') = f s') →
      Y w mX11_readTable (d + 4) (Q (rNums (tkOf T n) m s f q)) o 140 [some (.ref o), some (.int (nI t)), some (.int (nI s))] [] F := by
  have p16 := p44 h1 h2
  intro m
  induction m with
  | zero =>
    intro s f F q hs ha hp hf
    refine yX11_readTable_140 (yX11_readTable_141 (yX11_readTable_142 (yX11_readTable_145 (yX11_readTable_146 (ble rfl) rfl (i := t) rfl ht (yX11_readTable_147 (yX11_readTable_148 (yX11_readTable_151 (yX11_readTable_152 (ble rfl) rfl (i := t) rfl ht ?_))))))))
    rw [hp.1 4 (by omega), hp.1 5 (by omega), a4, a5]
    refine yX11_readTable_153 ?_
    rw [pk_mul]
    refine yX11_readTable_154 (fun _ => ?_) (fun h9 => absurd (nI_le (by omega) (by omega)) h9)
    obtain rfl : s = sn * ln := by omega
    exact kO (f, q) F ha hp hf
  | succ m ih =>
    intro s f F q hs ha hp hf
    refine yX11_readTable_140 (yX11_readTable_141 (yX11_readTable_142 (yX11_readTable_145 (yX11_readTable_146 (ble rfl) rfl (i := t) rfl ht (yX11_readTable_147 (yX11_readTable_148 (yX11_readTable_151 (yX11_readTable_152 (ble rfl) rfl (i := t) rfl ht ?_))))))))
    rw [hp.1 4 (by omega), hp.1 5 (by omega), a4, a5]
    refine yX11_readTable_153 ?_
    rw [pk_mul]
    refine yX11_readTable_154 (fun h9 => absurd h9 (nI_ge (by omega) (by omega))) (fun _ => ?_)
    refine yX11_readTable_157 (yX11_readTable_158 (yX11_readTable_161 (fun h9 => absurd (ha.2.2.2.1.symm.trans h9) (by decide)) (fun _ => ?_)))
    refine yX11_readTable_164 (yX11_readTable_165 (yX11_readTable_168 (yX11_readTable_170 (yX11_readTable_171 (yX11_readTable_172 (yX11_readTable_173 (yX11_readTable_174 (yX11_readTable_175_g (ble rfl) (nn_a ha) (fun v F3 hF => ?_)))))))))
    obtain ⟨x, rfl, a3, hx, k3⟩ := hF
    refine yX11_readTable_178 (ble rfl) (fun _ => rfl) (i := 16 * t + s) (ixm 16 _ _) (by omega) ?_
    have pB := (hp.tr k3.aW).tr (aW.up (r := 8) (i := 16 * t + s) (v := x) (by omega) (by omega))
    refine yX11_readTable_179 rfl (yX11_readTable_182 ?_)
    match hr : rNum (tkOf T n) q with
    | .error p =>
      rw [hr] at a3
      rw [show rNums (tkOf T n) (m + 1) s f q = .error p by simp only [rNums]; rw [hr]; rfl]
      exact kE p (F3.uA 8 (upd (F3.a 8) (16 * t + s) x)) _ a3 pB
    | .ok y =>
      rw [hr] at a3
      have hx := hx y hr
      subst hx
      rw [show rNums (tkOf T n) (m + 1) s f q = rNums (tkOf T n) m (s + 1) (upd f s y.1) y.2 by simp only [rNums]; rw [hr]; rfl, nI_1]
      refine ih (s + 1) (upd f s y.1) _ y.2 (by omega) a3 pB (fun s' h9 => ?_)
      show upd (F3.a 8) (16 * t + s) y.1 (16 * t + s') = upd f s y.1 s'
      by_cases e : s' = s
      · subst e; rw [pk_us, pk_us]
      · rw [pk_un (by omega), pk_un e, k3.2.1]; exact hf s' (by omega)
theorem wC_up {tc : Nat} {c : ceT} (h : wC tc c) : wC (tc + 1) c := by
  obtain ⟨w1, w2, w3, w4, w5, w6, w7, w8, w9⟩ := h
  refine ⟨w1, w2, w3, w4, w5, w6, w7, fun k hk => ?_, w9⟩
  obtain ⟨a, b, ⟨x, x1, x2⟩, y, y1, y2⟩ := w8 k hk
  exact ⟨a, b, ⟨x, by omega, x2⟩, y, by omega, y2⟩
theorem aW.s29 {r lo hi : Nat} (h : aW F F1 r lo hi) : F1.s 29 = F.s 29 := h.2.2.2 29 (by omega) (by omega) (by omega) (by omega) (by omega)
theorem rt_a (h : mLo F T n u L q) : yC w (d + 4) mX11_readTable [.ref o] o F (qL F T n u (rTable (tkOf T n) L q)) := by
  obtain ⟨ha, hu, s29, hL, hw⟩ := id h
  obtain ⟨w1, w2, w3, w4, w5, w6⟩ := id hw
  refine yC_of (by decide) (ble rfl) (ls := [some (.ref o), none, none]) rfl ?_
  refine yX11_readTable_0 (yX11_readTable_1_g (ble rfl) (g_a ha) (fun v F1 hF => ?_))
  obtain ⟨rfl, a1, k1⟩ := hF
  have h1 := h.kT a1 k1
  obtain ⟨_, _, t29, hL1, _⟩ := id h1
  have e1 : rTable (tkOf T n) L q = dmd (¬ sN T n (sE T n q) = 0 ∧ L.tc < 12) (sS T n (sE T n q)) (dmd (fnd L.tn (sN T n (sE T n q)) 0 L.tc = -1) (sS T n (sE T n q))
    (bnd (rTab (tkOf T n) (L.ts L.tc) (sE T n (sE T n q))) (fun x => .ok ((L.tc + 1, uL L.tn L.tc (sN T n (sE T n q)), upT L.ts L.tc x.1, L.cc, L.cs), x.2)))) := rfl
  rw [e1]
  clear e1
  generalize sE T n q = q1 at a1 h1 ⊢
  have ht := a1.2.2.2.2.2
  have hq := a1.2.2.2.2.1
  have h4 := sK_le T hq
  have a2 : F1.a 2 u = nI L.tc := hL1.1.1
  have Z : ∀ (R : Except Nat (liT × Nat)), ¬ ((¬ sN T n q1 = 0 ∧ L.tc < 12) ∧ fnd L.tn (sN T n q1) 0 L.tc = -1) → Y w mX11_readTable (d + 4) (qL F T n u (dmd (¬ sN T n q1 = 0 ∧ L.tc < 12) (sS T n q1) (dmd (fnd L.tn (sN T n q1) 0 L.tc = -1) (sS T n q1) R))) o 48 [some (.ref o), none, none] [.int 0, .ref o] F1 := by
    intro R z
    have e : dmd (¬ sN T n q1 = 0 ∧ L.tc < 12) (sS T n q1) (dmd (fnd L.tn (sN T n q1) 0 L.tc = -1) (sS T n q1) R) = .error (sS T n q1) := by
      by_cases y : ¬ sN T n q1 = 0 ∧ L.tc < 12
      · rw [dmd_t y, dmd_f (fun y2 => z ⟨y, y2⟩)]
      · rw [dmd_f y]
    rw [e]
    refine yX11_readTable_48 (ble rfl) n_0 ?_
    exact Y_imp (rt_D (F := F1.uS 28 0) hu w1 t29 a2 a1.die) (fun v F' hh => ⟨hh.1, hh.2.1, (k1.bK.tr die_kT.bK).tr hh.2.2⟩)
  refine yX11_readTable_4 (yX11_readTable_5 (yX11_readTable_6 ?_))
  rw [ht.2.2.1]
  refine yX11_readTable_9 (yX11_readTable_10 (fun h7 => ?_) (fun h7 => ?_))
  · refine yX11_readTable_47 ?_
    exact Z _ (fun z => h7 (by rw [(sN_0 hq).mp z.1.1]; rfl))
  have h7 : sK T n q1 = 1 := (nI_eq (b := 1) (by omega) (by omega)).mp h7
  have hnm := tn_l ht h7
  have hfn : lmat (fun k => F1.l 3 (12 * u + k)) F1.nm L.tc 0 (-1) = fnd L.tn (sN T n q1) 0 L.tc := by
    rw [lmat_cg (g := L.tn) F1.nm L.tc 0 (-1) (fun j _ hj => hL1.1.2.2.2.2 j (by omega)), hnm]
    exact lmat_fnd _ w4
  refine yX11_readTable_13 (yX11_readTable_14 (yX11_readTable_15 (yX11_readTable_18 (yX11_readTable_19 ?_))))
  rw [t29]
  refine yX11_readTable_22 (ble rfl) (m_tableOf F1.nm hu w1 a2) ?_
  rw [hfn]
  refine yX11_readTable_25 (yX11_readTable_26 (fun h6 => ?_) (fun h6 => ?_))
  · refine yX11_readTable_47 ?_
    exact Z _ (fun z => h6 z.2)
  refine yX11_readTable_29 (yX11_readTable_30 (yX11_readTable_33 (yX11_readTable_34 (yX11_readTable_37 (ble rfl) rfl (i := u) t29 hu ?_))))
  rw [a2]
  refine yX11_readTable_38 (yX11_readTable_40 (fun h5 => ?_) (fun h5 => ?_))
  · have h5 : 12 ≤ L.tc := (nI_leI (a := 12) (by omega) (by omega)).mp h5
    refine yX11_readTable_47 ?_
    exact Z _ (fun z => by omega)
  have h5 : L.tc < 12 := by
    rcases Nat.lt_or_ge L.tc 12 with z | z
    · exact z
    · exact absurd (nI_le (a := 12) z (by omega)) h5
  clear Z
  rw [dmd_t ⟨(sN_0 hq).mpr h7, h5⟩, dmd_t h6]
  refine yX11_readTable_43 (yX11_readTable_44 (yX11_readTable_48 (ble rfl) (n_1 a1.2.2.2.1) (yX11_readTable_51 (yX11_readTable_53 (yX11_readTable_54 (yX11_readTable_57 (yX11_readTable_58 (yX11_readTable_59 (yX11_readTable_62 (yX11_readTable_63 (yX11_readTable_66 (ble rfl) rfl (i := u) t29 hu ?_)))))))))))
  rw [a2]
  refine yX11_readTable_67 (yX11_readTable_69 (by decide) ?_)
  rw [rem12 w1, t29, Nat.mod_eq_of_lt h5]
  refine yX11_readTable_70 ?_
  rw [show (12 : Int32) * nI u + nI L.tc = nI (12 * u + L.tc) from ixm 12 _ _]
  have ht24 : 12 * u + L.tc < 24 := by omega
  refine yX11_readTable_71 rfl (yX11_readTable_72 (yX11_readTable_73 (yX11_readTable_76 (yX11_readTable_77 (yX11_readTable_78 (yX11_readTable_81 (ble rfl) (fun _ => rfl) (i := 12 * u + L.tc) rfl ht24 ?_))))))
  have kB := (k1.tW (c := 12 * u + L.tc)).tr (tW.uL (F := F1) (r := 3) (i := 12 * u + L.tc) (v := F1.nm) (by omega) (by show (12 * u + L.tc) * 1 ≤ _; omega) (by show _ < (12 * u + L.tc + 1) * 1; omega))
  have aB : al (F1.uL 3 (vp_updL (F1.l 3) (12 * u + L.tc) F1.nm)) T n q1 := a1
  have lB : (F1.uL 3 (vp_updL (F1.l 3) (12 * u + L.tc) F1.nm)).l 3 (12 * u + L.tc) = sN T n q1 := by
    show vp_updL (F1.l 3) (12 * u + L.tc) F1.nm (12 * u + L.tc) = _
    rw [pk_uLs, hnm]
  generalize F1.uL 3 (vp_updL (F1.l 3) (12 * u + L.tc) F1.nm) = F2 at kB aB lB ⊢
  refine yX11_readTable_82 (yX11_readTable_83_g (ble rfl) (g_a aB) (fun v F3 hF => ?_))
  obtain ⟨rfl, a3, k3⟩ := hF
  have k03 := kB.tr k3.tW
  have l3 : F3.l 3 (12 * u + L.tc) = sN T n q1 := by rw [k3.2.2]; exact lB
  have wi : ∀ x, rTab (tkOf T n) (L.ts L.tc) (sE T n q1) = .ok x → wT x.1 := fun x e => (tab_w mo_tk nb_tk a3.2.2.2.2.1 e).1
  generalize sE T n q1 = q3 at a3 wi ⊢
  generalize L.ts L.tc = x0 at wi ⊢
  unfold rTab at wi ⊢
  refine yX11_readTable_86 (yX11_readTable_87 (yX11_readTable_89_g (ble rfl) (sg_a sg1 a3) (fun v F4 hF => ?_)))
  obtain ⟨rfl, a4, k4⟩ := hF
  have k04 := k03.tr k4.tW
  have l4 : F4.l 3 (12 * u + L.tc) = sN T n q1 := by rw [k4.2.2]; exact l3
  have z29 : F4.s 29 = nI u := k04.2.2.2.2.trans s29
  match hs : rSign (tkOf T n) 1 q3 with
  | .error p =>
    rw [hs] at a4
    exact Y_imp (rt_D0 hu h5 z29 a4) (fun v F' hh => ⟨hh.1, hh.2.1, (k04.bK h5).tr hh.2.2⟩)
  | .ok q4 =>
  rw [hs] at a4 wi
  have a4 : al F4 T n q4 := a4
  replace wi : ∀ x, bnd (rAxis (tkOf T n) x0.1 q4) (fun x => bnd (rSign (tkOf T n) 2 x.2.2) (fun q2 => bnd (rAxis (tkOf T n) x0.2.2.1 q2) (fun y => bnd (rSign (tkOf T n) 2 y.2.2) (fun q3 => bnd (rNums (tkOf T n) (x.2.1 * y.2.1) 0 x0.2.2.2.2 q3) (fun v => bnd (rSign (tkOf T n) 3 v.2) (fun q4 => .ok ((x.1, x.2.1, y.1, y.2.1, v.1), q4))))))) = .ok x → wT x.1 := wi
  show Y w mX11_readTable (d + 4) (qL F T n u (bnd (bnd (rAxis (tkOf T n) x0.1 q4) (fun x => bnd (rSign (tkOf T n) 2 x.2.2) (fun q2 => bnd (rAxis (tkOf T n) x0.2.2.1 q2) (fun y => bnd (rSign (tkOf T n) 2 y.2.2) (fun q3 => bnd (rNums (tkOf T n) (x.2.1 * y.2.1) 0 x0.2.2.2.2 q3) (fun v => bnd (rSign (tkOf T n) 3 v.2) (fun q4 => .ok ((x.1, x.2.1, y.1, y.2.1, v.1), q4)))))))) (fun x => .ok ((L.tc + 1, uL L.tn L.tc (sN T n q1), upT L.ts L.tc x.1, L.cc, L.cs), x.2)))) o _ _ _ _
  refine yX11_readTable_92 (yX11_readTable_93 (yX11_readTable_96 (yX11_readTable_97 (yX11_readTable_98 (yX11_readTable_99 (yX11_readTable_102 (yX11_readTable_103 (yX11_readTable_104 ?_))))))))
  rw [show (4 : Int32) * nI (12 * u + L.tc) = nI (4 * (12 * u + L.tc)) from pk_mul 4 _]
  refine yX11_readTable_105_g (ble rfl) (ax_a (r := 6) (f := x0.1) (by decide) (by decide) (fun _ => rfl) ht24 a4) (fun v F5 hF => ?_)
  obtain ⟨k5, hF⟩ := hF
  have k05 := k04.tr (k5.tW (t := 12 * u + L.tc) (by omega) (by show (12 * u + L.tc) * 4 ≤ _; omega) (by show _ ≤ (12 * u + L.tc + 1) * 4; omega))
  have l5 : F5.l 3 (12 * u + L.tc) = sN T n q1 := by rw [k5.2.1]; exact l4
  have y29 : F5.s 29 = nI u := k05.2.2.2.2.trans s29
  match hx1 : rAxis (tkOf T n) x0.1 q4 with
  | .error p =>
    rw [hx1] at hF
    obtain ⟨⟨j, rfl, hj⟩, hd⟩ := hF
    refine yX11_readTable_108 (ble rfl) (fun _ => rfl) (i := 12 * u + L.tc) rfl ht24 ?_
    exact Y_imp (rt_D1 (F := F5.uA 4 (upd (F5.a 4) (12 * u + L.tc) (nI j))) hu h5 y29 hd) (fun v F' hh => ⟨hh.1, hh.2.1, ((k05.tr (tW.uA (r := 4) (by omega) (by show (12 * u + L.tc) * 1 ≤ _; omega) (by show _ < (12 * u + L.tc + 1) * 1; omega))).bK h5).tr hh.2.2⟩)
  | .ok xs1 =>
  rw [hx1] at hF wi
  obtain ⟨rfl, a5, f5⟩ := hF
  obtain ⟨_, sn1, sn4, _⟩ := axis_w mo_tk nb_tk a4.2.2.2.2.1 hx1
  replace wi : ∀ x, bnd (rSign (tkOf T n) 2 xs1.2.2) (fun q2 => bnd (rAxis (tkOf T n) x0.2.2.1 q2) (fun y => bnd (rSign (tkOf T n) 2 y.2.2) (fun q3 => bnd (rNums (tkOf T n) (xs1.2.1 * y.2.1) 0 x0.2.2.2.2 q3) (fun v => bnd (rSign (tkOf T n) 3 v.2) (fun q4 => .ok ((xs1.1, xs1.2.1, y.1, y.2.1, v.1), q4)))))) = .ok x → wT x.1 := wi
  show Y w mX11_readTable (d + 4) (qL F T n u (bnd (bnd (rSign (tkOf T n) 2 xs1.2.2) (fun q2 => bnd (rAxis (tkOf T n) x0.2.2.1 q2) (fun y => bnd (rSign (tkOf T n) 2 y.2.2) (fun q3 => bnd (rNums (tkOf T n) (xs1.2.1 * y.2.1) 0 x0.2.2.2.2 q3) (fun v => bnd (rSign (tkOf T n) 3 v.2) (fun q4 => .ok ((xs1.1, xs1.2.1, y.1, y.2.1, v.1), q4))))))) (fun x => .ok ((L.tc + 1, uL L.tn L.tc (sN T n q1), upT L.ts L.tc x.1, L.cc, L.cs), x.2)))) o _ _ _ _
  obtain ⟨f1, sn, q5⟩ := xs1
  dsimp only at a5 f5 sn1 sn4 wi ⊢
  show Y w mX11_readTable (d + 4) _ o 108 _ [.int (nI sn), .int (nI (12 * u + L.tc)), .ref (o + 4)] F5
  refine yX11_readTable_108 (ble rfl) (fun _ => rfl) (i := 12 * u + L.tc) rfl ht24 ?_
  have k06 := k05.tr (tW.uA (F := F5) (r := 4) (i := 12 * u + L.tc) (v := nI sn) (by omega) (by show (12 * u + L.tc) * 1 ≤ _; omega) (by show _ < (12 * u + L.tc + 1) * 1; omega))
  have a6 : al (F5.uA 4 (upd (F5.a 4) (12 * u + L.tc) (nI sn))) T n q5 := a5
  have g6 : (F5.uA 4 (upd (F5.a 4) (12 * u + L.tc) (nI sn))).a 4 (12 * u + L.tc) = nI sn := pk_us
  have f6 : ∀ j, j < sn → (F5.uA 4 (upd (F5.a 4) (12 * u + L.tc) (nI sn))).a 6 (4 * (12 * u + L.tc) + j) = f1 j := f5
  have l6 : (F5.uA 4 (upd (F5.a 4) (12 * u + L.tc) (nI sn))).l 3 (12 * u + L.tc) = sN T n q1 := l5
  generalize F5.uA 4 (upd (F5.a 4) (12 * u + L.tc) (nI sn)) = F6 at k06 a6 g6 f6 l6 ⊢
  refine yX11_readTable_109 (yX11_readTable_110 (yX11_readTable_112_g (ble rfl) (sg_a sg2 a6) (fun v F7 hF => ?_)))
  obtain ⟨rfl, a7, k7⟩ := hF
  have k07 := k06.tr k7.tW
  have v29 : F7.s 29 = nI u := k07.2.2.2.2.trans s29
  match hs2 : rSign (tkOf T n) 2 q5 with
  | .error p =>
    rw [hs2] at a7
    exact Y_imp (rt_D2 hu h5 v29 a7) (fun v F' hh => ⟨hh.1, hh.2.1, (k07.bK h5).tr hh.2.2⟩)
  | .ok q7 =>
  rw [hs2] at a7 wi
  have a7 : al F7 T n q7 := a7
  replace wi : ∀ x, bnd (rAxis (tkOf T n) x0.2.2.1 q7) (fun y => bnd (rSign (tkOf T n) 2 y.2.2) (fun q3 => bnd (rNums (tkOf T n) (sn * y.2.1) 0 x0.2.2.2.2 q3) (fun v => bnd (rSign (tkOf T n) 3 v.2) (fun q4 => .ok ((f1, sn, y.1, y.2.1, v.1), q4))))) = .ok x → wT x.1 := wi
  show Y w mX11_readTable (d + 4) (qL F T n u (bnd (bnd (rAxis (tkOf T n) x0.2.2.1 q7) (fun y => bnd (rSign (tkOf T n) 2 y.2.2) (fun q3 => bnd (rNums (tkOf T n) (sn * y.2.1) 0 x0.2.2.2.2 q3) (fun v => bnd (rSign (tkOf T n) 3 v.2) (fun q4 => .ok ((f1, sn, y.1, y.2.1, v.1), q4)))))) (fun x => .ok ((L.tc + 1, uL L.tn L.tc (sN T n q1), upT L.ts L.tc x.1, L.cc, L.cs), x.2)))) o _ _ _ _
  refine yX11_readTable_115 (yX11_readTable_116 (yX11_readTable_119 (yX11_readTable_120 (yX11_readTable_121 (yX11_readTable_122 (yX11_readTable_125 (yX11_readTable_126 (yX11_readTable_127 ?_))))))))
  rw [show (4 : Int32) * nI (12 * u + L.tc) = nI (4 * (12 * u + L.tc)) from pk_mul 4 _]
  refine yX11_readTable_128_g (ble rfl) (ax_a (r := 7) (f := x0.2.2.1) (by decide) (by decide) (fun _ => rfl) ht24 a7) (fun v F8 hF => ?_)
  obtain ⟨k8, hF⟩ := hF
  have k08 := k07.tr (k8.tW (t := 12 * u + L.tc) (by omega) (by show (12 * u + L.tc) * 4 ≤ _; omega) (by show _ ≤ (12 * u + L.tc + 1) * 4; omega))
  have u29 : F8.s 29 = nI u := k08.2.2.2.2.trans s29
  match hx2 : rAxis (tkOf T n) x0.2.2.1 q7 with
  | .error p =>
    rw [hx2] at hF
    obtain ⟨⟨j, rfl, hj⟩, hd⟩ := hF
    refine yX11_readTable_131 (ble rfl) (fun _ => rfl) (i := 12 * u + L.tc) rfl ht24 ?_
    exact Y_imp (rt_D3 (F := F8.uA 5 (upd (F8.a 5) (12 * u + L.tc) (nI j))) hu ht24 u29 hd) (fun v F' hh => ⟨hh.1, hh.2.1, ((k08.tr (tW.uA (r := 5) (by omega) (by show (12 * u + L.tc) * 1 ≤ _; omega) (by show _ < (12 * u + L.tc + 1) * 1; omega))).bK h5).tr hh.2.2⟩)
  | .ok xs2 =>
  rw [hx2] at hF wi
  obtain ⟨rfl, a8, f8⟩ := hF
  obtain ⟨_, ln1, ln4, _⟩ := axis_w mo_tk nb_tk a7.2.2.2.2.1 hx2
  obtain ⟨f2, ln, q8⟩ := xs2
  dsimp only at a8 f8 ln1 ln4
  replace wi : ∀ x, bnd (rSign (tkOf T n) 2 q8) (fun q3 => bnd (rNums (tkOf T n) (sn * ln) 0 x0.2.2.2.2 q3) (fun v => bnd (rSign (tkOf T n) 3 v.2) (fun q4 => .ok ((f1, sn, f2, ln, v.1), q4)))) = .ok x → wT x.1 := wi
  show Y w mX11_readTable (d + 4) (qL F T n u (bnd (bnd (rSign (tkOf T n) 2 q8) (fun q3 => bnd (rNums (tkOf T n) (sn * ln) 0 x0.2.2.2.2 q3) (fun v => bnd (rSign (tkOf T n) 3 v.2) (fun q4 => .ok ((f1, sn, f2, ln, v.1), q4))))) (fun x => .ok ((L.tc + 1, uL L.tn L.tc (sN T n q1), upT L.ts L.tc x.1, L.cc, L.cs), x.2)))) o 131 _ [.int (nI ln), .int (nI (12 * u + L.tc)), .ref (o + 5)] F8
  refine yX11_readTable_131 (ble rfl) (fun _ => rfl) (i := 12 * u + L.tc) rfl ht24 ?_
  have k09 := k08.tr (tW.uA (F := F8) (r := 5) (i := 12 * u + L.tc) (v := nI ln) (by omega) (by show (12 * u + L.tc) * 1 ≤ _; omega) (by show _ < (12 * u + L.tc + 1) * 1; omega))
  have a9 : al (F8.uA 5 (upd (F8.a 5) (12 * u + L.tc) (nI ln))) T n q8 := a8
  have g9 : (F8.uA 5 (upd (F8.a 5) (12 * u + L.tc) (nI ln))).a 4 (12 * u + L.tc) = nI sn := by
    show F8.a 4 (12 * u + L.tc) = nI sn
    rw [k8.1 4 (by omega), k7.2.1]; exact g6
  have i9 : (F8.uA 5 (upd (F8.a 5) (12 * u + L.tc) (nI ln))).a 5 (12 * u + L.tc) = nI ln := pk_us
  have f9 : ∀ j, j < sn → (F8.uA 5 (upd (F8.a 5) (12 * u + L.tc) (nI ln))).a 6 (4 * (12 * u + L.tc) + j) = f1 j := by
    intro j hj
    show F8.a 6 (4 * (12 * u + L.tc) + j) = f1 j
    rw [k8.1 6 (by omega), k7.2.1]; exact f6 j hj
  have e9 : ∀ j, j < ln → (F8.uA 5 (upd (F8.a 5) (12 * u + L.tc) (nI ln))).a 7 (4 * (12 * u + L.tc) + j) = f2 j := f8
  have l9 : (F8.uA 5 (upd (F8.a 5) (12 * u + L.tc) (nI ln))).l 3 (12 * u + L.tc) = sN T n q1 := by
    show F8.l 3 (12 * u + L.tc) = _
    rw [k8.2.1, k7.2.2]; exact l6
  generalize F8.uA 5 (upd (F8.a 5) (12 * u + L.tc) (nI ln)) = F9 at k09 a9 g9 i9 f9 e9 l9 ⊢
  refine yX11_readTable_132 (yX11_readTable_133 (yX11_readTable_135_g (ble rfl) (sg_a sg2 a9) (fun v F10 hF => ?_)))
  obtain ⟨rfl, a10, k10⟩ := hF
  have k010 := k09.tr k10.tW
  have w29 : F10.s 29 = nI u := k010.2.2.2.2.trans s29
  have g10 : F10.a 4 (12 * u + L.tc) = nI sn := by rw [k10.2.1]; exact g9
  have i10 : F10.a 5 (12 * u + L.tc) = nI ln := by rw [k10.2.1]; exact i9
  refine yX11_readTable_138 (yX11_readTable_139 rfl ?_)
  match hs3 : rSign (tkOf T n) 2 q8 with
  | .error p =>
    rw [hs3] at a10
    exact Y_imp (rt_D4 hu ht24 w29 a10) (fun v F' hh => ⟨hh.1, hh.2.1, (k010.bK h5).tr hh.2.2⟩)
  | .ok q10 =>
  rw [hs3] at a10 wi
  have a10 : al F10 T n q10 := a10
  replace wi : ∀ x, bnd (rNums (tkOf T n) (sn * ln) 0 x0.2.2.2.2 q10) (fun v => bnd (rSign (tkOf T n) 3 v.2) (fun q4 => .ok ((f1, sn, f2, ln, v.1), q4))) = .ok x → wT x.1 := wi
  show Y w mX11_readTable (d + 4) ((fun R => qL F T n u (bnd (bnd R (fun v => bnd (rSign (tkOf T n) 3 v.2) (fun q4 => .ok ((f1, sn, f2, ln, v.1), q4)))) (fun x => .ok ((L.tc + 1, uL L.tn L.tc (sN T n q1), upT L.ts L.tc x.1, L.cc, L.cs), x.2)))) (rNums (tkOf T n) (sn * ln) 0 x0.2.2.2.2 q10)) o 140 [some (.ref o), some (.int (nI (12 * u + L.tc))), some (.int (nI 0))] [] F10
  have hN : ∀ x, rNums (tkOf T n) (sn * ln) 0 x0.2.2.2.2 q10 = x → rNums (tkOf T n) (sn * ln) 0 x0.2.2.2.2 q10 = x := fun _ h => h
  refine rt_L (F0 := F10) (Q := fun R v F' => R = rNums (tkOf T n) (sn * ln) 0 x0.2.2.2.2 q10 → qL F T n u (bnd (bnd R (fun v => bnd (rSign (tkOf T n) 3 v.2) (fun q4 => .ok ((f1, sn, f2, ln, v.1), q4)))) (fun x => .ok ((L.tc + 1, uL L.tn L.tc (sN T n q1), upT L.ts L.tc x.1, L.cc, L.cs), x.2))) v F') ht24 sn4 ln4 g10 i10 ?_ ?_ (sn * ln) 0 x0.2.2.2.2 F10 q10 (by omega) a10 aW.rf (fun s hs => by omega) |> fun z => Y_imp z (fun v F' hh => hh rfl)
  · intro p F' z hd k11
    have k11' := k010.tr (k11.tW (t := 12 * u + L.tc) (by omega) (by show (12 * u + L.tc) * 16 ≤ _; omega) (by show _ ≤ (12 * u + L.tc + 1) * 16; omega))
    exact Y_imp (rt_D4 hu ht24 (k11'.2.2.2.2.trans s29) hd) (fun v F' hh _ => ⟨hh.1, hh.2.1, (k11'.bK h5).tr hh.2.2⟩)
  · intro x F11 a11 k11 f11
    have k011 := k010.tr (k11.tW (t := 12 * u + L.tc) (by omega) (by show (12 * u + L.tc) * 16 ≤ _; omega) (by show _ ≤ (12 * u + L.tc + 1) * 16; omega))
    have x29 : F11.s 29 = nI u := k011.2.2.2.2.trans s29
    show Y w mX11_readTable (d + 4) (fun v F' => .ok x = rNums (tkOf T n) (sn * ln) 0 x0.2.2.2.2 q10 → qL F T n u (bnd (bnd (rSign (tkOf T n) 3 x.2) (fun q4 => .ok ((f1, sn, f2, ln, x.1), q4))) (fun x => .ok ((L.tc + 1, uL L.tn L.tc (sN T n q1), upT L.ts L.tc x.1, L.cc, L.cs), x.2))) v F') o _ _ _ _
    match hs4 : rSign (tkOf T n) 3 x.2 with
    | .error p =>
      refine yX11_readTable_185 (yX11_readTable_186 (yX11_readTable_188_g (ble rfl) (sg_a sg3 a11) (fun v F12 hF => ?_)))
      obtain ⟨rfl, a12, k12⟩ := hF
      rw [hs4] at a12
      have a12 : de F12 T n p := a12
      have k012 := k011.tr k12.tW
      have z29 : F12.s 29 = nI u := k012.2.2.2.2.trans s29
      refine yX11_readTable_191 (yX11_readTable_192 (yX11_readTable_195 (yX11_readTable_196 (yX11_readTable_199 (yX11_readTable_200 (ble rfl) rfl (i := u) z29 hu (yX11_readTable_201 (yX11_readTable_202 (yX11_readTable_205 (fun h205 => ?_) (fun h205 => ?_)))))))))
      · refine yX11_readTable_212 (yX11_readTable_213 (yX11_readTable_214 (ble rfl) (fun _ => rfl) (i := u) z29 hu (yX11_readTable_215 ?_)))
        exact fun _ => ⟨rfl, a12, (k012.bK h5).tr (bK.uA (r := 2) (by show u * 1 ≤ u; omega) (by show u < (u + 1) * 1; omega))⟩
      · refine yX11_readTable_208 (yX11_readTable_209 (yX11_readTable_213 (yX11_readTable_214 (ble rfl) (fun _ => rfl) (i := u) z29 hu (yX11_readTable_215 ?_))))
        exact fun _ => ⟨rfl, a12, (k012.bK h5).tr (bK.uA (r := 2) (by show u * 1 ≤ u; omega) (by show u < (u + 1) * 1; omega))⟩
    | .ok q12 =>
      refine yX11_readTable_185 (yX11_readTable_186 (yX11_readTable_188_g (ble rfl) (sg_a sg3 a11) (fun v F12 hF => ?_)))
      obtain ⟨rfl, a12, k12⟩ := hF
      rw [hs4] at a12
      have a12 : al F12 T n q12 := a12
      have k012 := k011.tr k12.tW
      have z29 : F12.s 29 = nI u := k012.2.2.2.2.trans s29
      have b2 : F12.a 2 u = nI L.tc := by rw [(k012.2.1 2 (Or.inl rfl) (by omega)).1]; exact hL.1.1
      refine yX11_readTable_191 (yX11_readTable_192 (yX11_readTable_195 (yX11_readTable_196 (yX11_readTable_199 (yX11_readTable_200 (ble rfl) rfl (i := u) z29 hu (yX11_readTable_201 (yX11_readTable_202 (yX11_readTable_205 (fun h8 => absurd (a12.2.2.2.1.symm.trans h8) (by decide)) (fun _ => ?_)))))))))
      refine yX11_readTable_208 (yX11_readTable_209 (yX11_readTable_213 (yX11_readTable_214 (ble rfl) (fun _ => rfl) (i := u) z29 hu ?_)))
      rw [b2, nI_1]
      refine yX11_readTable_215 (fun hR => ?_)
      have wx := wi ((f1, sn, f2, ln, x.1), q12) (by rw [← hR]; show bnd (rSign (tkOf T n) 3 x.2) _ = _; rw [hs4]; rfl)
      have k012' := k012.tr tW.rf
      refine ⟨rfl, ⟨a12, hu, z29, ⟨⟨pk_us, by show L.tc + 1 ≤ 12; omega, nz_add w3 ((sN_0 hq).mpr h7), uq_add w4 (fnd_no (by omega) h6), fun j hj => ?_⟩, ?_, fun j hj => ?_, fun j hj => ?_⟩, ⟨by show L.tc + 1 ≤ 12; omega, w2, nz_add w3 ((sN_0 hq).mpr h7), uq_add w4 (fnd_no (by omega) h6), fun j hj => ?_, fun j hj => ?_⟩⟩, (k012.bK h5).tr (bK.uA (r := 2) (by show u * 1 ≤ u; omega) (by show u < (u + 1) * 1; omega))⟩
      · have hj : j < L.tc + 1 := hj
        show F12.l 3 (12 * u + j) = uL L.tn L.tc (sN T n q1) j
        by_cases e : j = L.tc
        · subst e; rw [ul_s, k12.2.2, k11.2.1, k10.2.2]; exact l9
        · rw [ul_n e, (k012.1 3 (12 * u + j) (by omega) (by omega) (by show _ < (12 * u + L.tc) * 1 ∨ (12 * u + L.tc + 1) * 1 ≤ _; omega)).2]
          exact hL.1.2.2.2.2 j (by omega)
      · show F12.a 9 u = nI L.cc
        rw [(k012.2.1 9 (Or.inr (by omega)) (by omega)).1]; exact hL.2.1
      · have hj : j < L.tc + 1 := hj
        show tabR F12 (12 * u + j) (upT L.ts L.tc (f1, sn, f2, ln, x.1) j)
        by_cases e : j = L.tc
        · subst e
          rw [upT_s]
          refine ⟨?_, ?_, fun i hi => ?_, fun i hi => ?_, fun i hi => ?_⟩
          · rw [k12.2.1, k11.1 4 (by omega)]; exact g10
          · rw [k12.2.1, k11.1 5 (by omega)]; exact i10
          · rw [k12.2.1, k11.1 6 (by omega), k10.2.1]; exact f9 i hi
          · rw [k12.2.1, k11.1 7 (by omega), k10.2.1]; exact e9 i hi
          · rw [k12.2.1]; exact f11 i hi
        · rw [upT_n e]
          exact (hL.2.2.1 j (by omega)).tW k012 (by omega) (w5 j (by omega))
      · have hj : j < L.cc := hj
        show celR F12 (12 * u + j) (L.cs j)
        have := w6 j hj
        exact (hL.2.2.2 j hj).cg ⟨this.1.1, this.1.2.1, this.1.2.2.1⟩ (fun r i g1 g2 _ _ => by rw [(k012.2.1 r (Or.inr (by omega)) g2).1, (k012.2.1 r (Or.inr (by omega)) g2).2]; exact ⟨rfl, rfl⟩)
      · have hj : j < L.tc + 1 := hj
        show wT (upT L.ts L.tc (f1, sn, f2, ln, x.1) j)
        by_cases e : j = L.tc
        · subst e; rw [upT_s]; exact wx
        · rw [upT_n e]; exact w5 j (by omega)
      · have := w6 j hj
        exact ⟨wC_up this.1, this.2⟩
end M18
