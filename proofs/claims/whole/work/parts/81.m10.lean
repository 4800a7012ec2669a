section M10
variable {w : xWd} {d o : Nat} {F : mF} {T : Nat → Int32} {n : Nat}
variable {q tc cc : Nat} {c : ceT}
theorem dig12 (hq : q ≤ n) : ¬ sW T n q 12 = 0 ↔ sK T n q = 2 ∧ sE T n q = sS T n q + 1 ∧ sV T n q = 1 := dig_iff T hq rfl (by decide) (by decide)
theorem dig13 (hq : q ≤ n) : ¬ sW T n q 13 = 0 ↔ sK T n q = 2 ∧ sE T n q = sS T n q + 1 ∧ sV T n q = 0 := dig_iff T hq rfl (by decide) (by decide)
theorem sV_lt2 (hq : q ≤ n) (hk : sK T n q = 2) (he : sE T n q = sS T n q + 1) (h : sV T n q < 2) : sV T n q = 0 ∨ sV T n q = 1 := by
  rcases kcase T hq with h1 | h1 | h1 | h1 | h1
  · omega
  · omega
  · have := h1.2.2.2.2.1 _ (Nat.le_refl _) h1.2.2.1
    rw [sV_1 T he] at h ⊢
    unfold bDg at this
    grind
  · omega
  · omega
theorem op_prim {rest : List Int32} {vl : List Int64} {b : Nat} {x : Int32} (hcc : cc < 24) (h30 : F.s 30 = nI cc) (r : celR F cc c) (hw : wC tc c) (ha : al F T n q) (hs : stk F (List.replicate b 33 ++ rest) vl) (hv : vl.length < 190) (hr : ∀ c l, rest = c :: l → ¬ c = 33) (hb0 : sW T n q 10 = 0) (hb : sW T n q 11 = 0) :
    yC w (d + 4) mX11_operand [.ref o, .int x] o F (fun v F' => eK F F' ∧ (∀ y, rPrim (tkOf T n) c q = .ok y → v = some (.int 1) ∧ al F' T n y.2 ∧ stk F' rest (nots (allM c.i) b (y.1 &&& allM c.i) :: vl)) ∧ (∀ p, rPrim (tkOf T n) c q = .error p → v = some (.int 0) ∧ de F' T n p)) := by
  have hq := ha.2.2.2.2.1
  have ht := ha.2.2.2.2.2
  have hK := sK_le T hq
  have h14 := ha.2.2.1
  obtain ⟨w1, w2, w3, w4, w5, _⟩ := id hw
  have hg0 : sgn T n q 33 = 0 := (sgn_W (T := T) hq sg10).trans hb0
  have hg1 : sgn T n q 40 = 0 := (sgn_W (T := T) hq sg11).trans hb
  have hl1 : lmat (fun j => F.l 12 (9 * cc + 0 + j)) F.nm c.i 0 (-1) = fnd c.pins F.nm 0 c.i := by
    rw [lmat_cg (g := c.pins) F.nm c.i 0 (-1) (fun j _ hj => by rw [Nat.add_zero]; exact r.2.2.2.2.2.1 j (by omega))]
    exact lmat_fnd F.nm (uq_mono w5 (Nat.le_add_right _ _))
  obtain ⟨s1, s2, s3, s4, s5, s6⟩ := id hs
  refine yC_of (by decide) (ble rfl) (ls := [some (.ref o), some (.int x), none, none]) rfl ?_
  refine yX11_operand_0 (yX11_operand_1 (yX11_operand_3 (ble rfl) (m_isSign 33 ha.1 h14 hq ht) ?_))
  rw [hg0]
  refine yX11_operand_6 (fun h9 => absurd rfl h9) (fun _ => ?_)
  refine yX11_operand_9 (yX11_operand_10 (yX11_operand_12 (ble rfl) (m_isSign 40 ha.1 h14 hq ht) ?_))
  rw [hg1]
  refine yX11_operand_15 (fun _ => ?_) (fun h9 => absurd rfl h9)
  refine yX11_operand_64 (yX11_operand_65 (yX11_operand_66 (yX11_operand_69 (yX11_operand_70 (yX11_operand_71 (yX11_operand_74 (yX11_operand_75 (yX11_operand_78 (ble rfl) rfl (i := cc) h30 hcc ?_))))))))
  rw [r.2.2.1]
  refine yX11_operand_79 (ble rfl) (m_pinOf _ (fr := 0) hcc (by omega) h30) (yX11_operand_82 rfl ?_)
  rw [hl1]
  clear hl1
  -- the value is put on the stack
  have V : ∀ (l2 l3 : Option Value) (z v : Int64), z = v &&& allM c.i → rPrim (tkOf T n) c q = .ok (v, sE T n q) → Y w mX11_operand (d + 4) (fun v F' => eK F F' ∧ (∀ y, rPrim (tkOf T n) c q = .ok y → v = some (.int 1) ∧ al F' T n y.2 ∧ stk F' rest (nots (allM c.i) b (y.1 &&& allM c.i) :: vl)) ∧ (∀ p, rPrim (tkOf T n) c q = .error p → v = some (.int 0) ∧ de F' T n p)) o 203 [some (.ref o), some (.int x), l2, l3] [.long z, .int (nI vl.length), .ref (o + 22)] F := by
    intro l2 l3 z v hz hp
    rw [hp]
    refine yX11_operand_203 (ble rfl) (fun _ => rfl) (i := vl.length) rfl (by omega) (yX11_operand_204 (yX11_operand_205 rfl (yX11_operand_206 (yX11_operand_209 (yX11_operand_210 ?_)))))
    rw [show (F.uL 22 (vp_updL (F.l 22) vl.length z)).s 34 + 1 = nI (vl.length + 1) by show F.s 34 + 1 = _; rw [s2, nI_1]]
    refine yX11_operand_211 ?_
    have kx : xK F ((F.uL 22 (vp_updL (F.l 22) vl.length z)).uS 34 (nI (vl.length + 1))) := xK.uL.tr (xK.uS (Or.inr rfl))
    have a1 := ha.xK kx
    have st1 : stk ((F.uL 22 (vp_updL (F.l 22) vl.length z)).uS 34 (nI (vl.length + 1))) (List.replicate b 33 ++ rest) (z :: vl) := ⟨s1, rfl, s3, ⟨pk_uLs, stv_up s4 (Nat.le_refl _)⟩, s5, hv⟩
    have e30 : ((F.uL 22 (vp_updL (F.l 22) vl.length z)).uS 34 (nI (vl.length + 1))).s 30 = nI cc := h30
    have e13 : ((F.uL 22 (vp_updL (F.l 22) vl.length z)).uS 34 (nI (vl.length + 1))).a 13 cc = nI c.i := r.2.2.1
    generalize (F.uL 22 (vp_updL (F.l 22) vl.length z)).uS 34 (nI (vl.length + 1)) = F1 at kx a1 st1 e30 e13 ⊢
    have hturn : yC w (d + 3) mX11_turn [.ref o] o F1 (fun r F' => r = none ∧ stk F' rest (nots (allM c.i) b z :: vl) ∧ xK F1 F') := yC_of (by decide) (ble rfl) (ls := [some (.ref o)]) rfl (m_turn w1 hcc b rest vl z F1 e30 e13 st1 hr)
    refine yX11_operand_214 (yX11_operand_215_g (ble rfl) hturn (fun v2 F2 hF => ?_))
    obtain ⟨rfl, st2, k2⟩ := hF
    have a2 := a1.xK k2
    refine yX11_operand_218 (yX11_operand_219_g (ble rfl) (g_a a2) (fun v2 F3 hF => ?_))
    obtain ⟨rfl, a3, k3⟩ := hF
    refine yX11_operand_222 (yX11_operand_223 ?_)
    rw [a3.2.2.2.1]
    refine yX11_operand_226 (Or.inr rfl) ⟨(kx.tr k2).eK.tr k3.eK, fun y hy => ?_, fun p hp => by cases hp⟩
    cases hy
    exact ⟨rfl, a3, by rw [← hz]; exact st2.kT k3⟩
  -- it falls
  have E : ∀ (l2 l3 : Option Value), (rPrim (tkOf T n) c q = .error (sS T n q)) → Y w mX11_operand (d + 4) (fun v F' => eK F F' ∧ (∀ y, rPrim (tkOf T n) c q = .ok y → v = some (.int 1) ∧ al F' T n y.2 ∧ stk F' rest (nots (allM c.i) b (y.1 &&& allM c.i) :: vl)) ∧ (∀ p, rPrim (tkOf T n) c q = .error p → v = some (.int 0) ∧ de F' T n p)) o 141 [some (.ref o), some (.int x), l2, l3] [.int 0, .ref o] F := by
    intro l2 l3 hp
    rw [hp]
    refine yX11_operand_141 (ble rfl) n_0 (yX11_operand_144 (yX11_operand_145 (yX11_operand_148 (fun _ => ?_) (fun h9 => absurd rfl h9))))
    refine yX11_operand_218 (yX11_operand_219 (ble rfl) (g_d rfl) (yX11_operand_222 (yX11_operand_223 (yX11_operand_226 (Or.inl rfl) ⟨die_kT.eK, fun y hy => (by cases hy), fun p hp => ⟨rfl, ?_⟩⟩))))
    cases hp
    exact ha.die
  have D : ∀ dg : Int32, (dg = 0 ∨ dg = 1) → (dg = 1 ↔ sK T n q = 2 ∧ sE T n q = sS T n q + 1 ∧ (sV T n q = 0 ∨ sV T n q = 1)) → Y w mX11_operand (d + 4) (fun v F' => eK F F' ∧ (∀ y, rPrim (tkOf T n) c q = .ok y → v = some (.int 1) ∧ al F' T n y.2 ∧ stk F' rest (nots (allM c.i) b (y.1 &&& allM c.i) :: vl)) ∧ (∀ p, rPrim (tkOf T n) c q = .error p → v = some (.int 0) ∧ de F' T n p)) o 117 [some (.ref o), some (.int x), some (.int (fnd c.pins F.nm 0 c.i)), none] [.int dg] F := by
    intro dg hd hd2
    refine yX11_operand_117 rfl (yX11_operand_118 (yX11_operand_119 (yX11_operand_120 (fun h9 => ?_) (fun h9 => ?_))))
    · have hd1 := hd.resolve_left h9
      obtain ⟨z1, z2, z3⟩ := hd2.mp hd1
      have hp : rPrim (tkOf T n) c q = .ok (if sW T n q 12 = 0 then 0 else -1, sE T n q) := by
        unfold rPrim
        rw [if_neg (show ¬ (tkOf T n).K q = 1 from fun z => by have : sK T n q = 1 := z; omega)]
        refine dmd_t ?_
        rcases z3 with z3 | z3
        · exact Or.inl ((dig13 hq).mpr ⟨z1, z2, z3⟩)
        · exact Or.inr ((dig12 hq).mpr ⟨z1, z2, z3⟩)
      refine yX11_operand_136 (yX11_operand_137 (yX11_operand_141 (ble rfl) (n_1 ha.2.2.2.1) (yX11_operand_144 (yX11_operand_145 (yX11_operand_148 (fun h9 => absurd (ha.2.2.2.1.symm.trans h9) (by decide)) (fun _ => ?_))))))
      refine yX11_operand_151 (yX11_operand_152 (yX11_operand_155 (yX11_operand_156 (yX11_operand_159 (yX11_operand_160 (fun h8 => absurd h8 h9) (fun _ => ?_))))))
      refine yX11_operand_163 (yX11_operand_164 ?_)
      rw [ht.2.2.2.2 z1, s2]
      refine yX11_operand_167 (yX11_operand_168 (fun h8 => ?_) (fun h8 => ?_))
      · refine yX11_operand_186 (yX11_operand_187 ?_)
        have h12 : sW T n q 12 = 0 := (sW_01 T n q 12).resolve_right (fun h => h8 ((dig12 hq).mp (by rw [h]; decide)).2.2)
        rw [if_pos h12] at hp
        exact V _ _ 0 0 (by have := i_10 (allM c.i); rw [show (0 : Int64) &&& allM c.i = allM c.i &&& 0 by apply l64_b; intro i; simp [Int64.toBitVec_and, Bool.and_comm]]; exact this.symm) hp
      · refine yX11_operand_171 (yX11_operand_172 (yX11_operand_175 (yX11_operand_176 (yX11_operand_179 (ble rfl) rfl (i := cc) h30 hcc ?_))))
        rw [r.2.2.1]
        refine yX11_operand_180 (ble rfl) (m_all w1) (yX11_operand_183 ?_)
        have h12 : ¬ sW T n q 12 = 0 := (dig12 hq).mpr ⟨z1, z2, h8⟩
        rw [if_neg h12] at hp
        exact V _ _ _ (-1) (i_7 _).symm hp
    · have nd : ¬ (sK T n q = 2 ∧ sE T n q = sS T n q + 1 ∧ (sV T n q = 0 ∨ sV T n q = 1)) := fun z => by rw [hd2.mpr z] at h9; exact absurd h9 (by decide)
      refine yX11_operand_123 (yX11_operand_124 ?_)
      rw [ht.2.2.1]
      refine yX11_operand_127 (yX11_operand_128 (fun h8 => ?_) (fun h8 => ?_))
      · have h8 : ¬ sK T n q = 1 := fun z => h8 (by rw [z]; rfl)
        refine yX11_operand_140 ?_
        refine E _ _ ?_
        unfold rPrim
        rw [if_neg (show ¬ (tkOf T n).K q = 1 from h8)]
        refine dmd_f ?_
        rintro (z | z)
        · obtain ⟨z1, z2, z3⟩ := (dig13 hq).mp z
          exact nd ⟨z1, z2, Or.inl z3⟩
        · obtain ⟨z1, z2, z3⟩ := (dig12 hq).mp z
          exact nd ⟨z1, z2, Or.inr z3⟩
      · have h8 : sK T n q = 1 := (nI_eq (b := 1) (by omega) (by omega)).mp h8
        have hnm := tn_l ht h8
        have hp0 : rPrim (tkOf T n) c q = dmd (¬ fnd c.pins (sN T n q) 0 c.i = -1) (sS T n q) (.ok (xN (fnd c.pins (sN T n q) 0 c.i).toNatClampNeg, sE T n q)) := by
          unfold rPrim
          exact if_pos h8
        rw [hnm]
        refine yX11_operand_131 (yX11_operand_132 (yX11_operand_133 (fun h7 => ?_) (fun h7 => ?_)))
        · refine yX11_operand_140 ?_
          exact E _ _ (by rw [hp0]; exact dmd_f (fun z => z h7))
        · rw [dmd_t h7] at hp0
          obtain ⟨a, a1, _, a2⟩ := fnd_yes h7
          rw [a2] at hp0 ⊢
          rw [nI_clamp (by omega)] at hp0
          refine yX11_operand_136 (yX11_operand_137 (yX11_operand_141 (ble rfl) (n_1 ha.2.2.2.1) (yX11_operand_144 (yX11_operand_145 (yX11_operand_148 (fun h9 => absurd (ha.2.2.2.1.symm.trans h9) (by decide)) (fun _ => ?_))))))
          refine yX11_operand_151 (yX11_operand_152 (yX11_operand_155 (yX11_operand_156 (yX11_operand_159 (yX11_operand_160 (fun _ => ?_) (fun h6 => absurd h9 h6))))))
          refine yX11_operand_190 (yX11_operand_191 (yX11_operand_192 (yX11_operand_195 (yX11_operand_196 (yX11_operand_199 (ble rfl) rfl (i := cc) h30 hcc ?_)))))
          rw [r.2.2.1, s2]
          refine yX11_operand_200 (ble rfl) (m_statesOf w1 (by omega)) ?_
          exact V _ _ _ _ rfl hp0
  refine yX11_operand_83 (yX11_operand_84 ?_)
  rw [ht.2.2.1]
  refine yX11_operand_87 (yX11_operand_88 (fun h9 => ?_) (fun h9 => ?_))
  · refine yX11_operand_116 ?_
    refine D 0 (Or.inl rfl) ⟨fun z => absurd z (by decide), fun z => ?_⟩
    rw [z.1] at h9
    exact absurd rfl h9
  · have h9 : sK T n q = 2 := (nI_eq (b := 2) (by omega) (by omega)).mp h9
    have hse := sE_le T hq
    refine yX11_operand_91 (yX11_operand_92 (yX11_operand_95 (yX11_operand_96 (yX11_operand_99 ?_))))
    rw [ht.1, ht.2.1, pk_sub hse.1]
    refine yX11_operand_100 (yX11_operand_101 (fun h8 => ?_) (fun h8 => ?_))
    · refine yX11_operand_116 ?_
      refine D 0 (Or.inl rfl) ⟨fun z => absurd z (by decide), fun z => ?_⟩
      rw [z.2.1, show sS T n q + 1 - sS T n q = 1 by omega] at h8
      exact absurd rfl h8
    · have h8 : sE T n q - sS T n q = 1 := (nI_eq (b := 1) (by omega) (by omega)).mp h8
      refine yX11_operand_104 (yX11_operand_105 ?_)
      rw [ht.2.2.2.2 h9]
      refine yX11_operand_108 (yX11_operand_109 (fun h7 => ?_) (fun h7 => ?_))
      · refine yX11_operand_116 ?_
        refine D 0 (Or.inl rfl) ⟨fun z => absurd z (by decide), fun z => ?_⟩
        rcases z.2.2 with z | z
        · rw [z] at h7; exact absurd h7 (by decide)
        · rw [z] at h7; exact absurd h7 (by decide)
      · refine yX11_operand_112 (yX11_operand_113 ?_)
        exact D 1 (Or.inr rfl) ⟨fun _ => ⟨h9, by omega, sV_lt2 hq h9 (by omega) (Int32.not_le.mp h7)⟩, fun _ => rfl⟩
end M10
