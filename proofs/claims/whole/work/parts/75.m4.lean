section M4
variable {w : xWd} {d o : Nat} {F : mF} {T : Nat → Int32} {n : Nat}
/-- the model reads on at q -/
def al (F : mF) (T : Nat → Int32) (n q : Nat) : Prop := F.a 1 = T ∧ F.s 1 = nI n ∧ n ≤ 1400 ∧ F.s 28 = 1 ∧ q ≤ n ∧ mTk F T n q
/-- the model has failed at p -/
def de (F : mF) (T : Nat → Int32) (n p : Nat) : Prop := F.a 1 = T ∧ F.s 1 = nI n ∧ n ≤ 1400 ∧ F.s 28 = 0 ∧ ∃ q, q ≤ n ∧ mTk F T n q ∧ sS T n q = p
def adR (F : mF) (T : Nat → Int32) (n : Nat) (r : Except Nat Nat) : Prop := match r with
  | .ok q => al F T n q
  | .error p => de F T n p
theorem mT.al {α : Type} {x : α × Nat} (h : mT F T n (.ok x)) : al F T n x.2 := h
theorem uS_id {j : Nat} {v : Int32} (h : F.s j = v) : F.uS j v = F := by
  refine Prod.ext (funext fun k => ?_) rfl
  show (if k = j then v else F.1 k) = F.1 k
  split
  · subst_vars; rfl
  · rfl
theorem al.die {q : Nat} (h : al F T n q) : de (F.uS 28 0) T n (sS T n q) := ⟨h.1, h.2.1, h.2.2.1, rfl, q, h.2.2.2.2.1, h.2.2.2.2.2, rfl⟩
theorem die_kT : keepT F (F.uS 28 0) := ⟨fun j _ _ _ _ b5 => if_neg b5, rfl, rfl⟩
theorem n_1 (h : F.s 28 = 1) : yC w d mX11_need [.ref o, .int 1] o F (yR none F) := by
  have := m_need (w := w) (d := d) (o := o) (F := F) (v := 1) (Or.inr rfl)
  rw [if_neg (by rw [h]; decide), uS_id h] at this
  exact this
theorem n_0 : yC w d mX11_need [.ref o, .int 0] o F (yR none (F.uS 28 0)) := by
  have := m_need (w := w) (d := d) (o := o) (F := F) (v := 0) (Or.inl rfl)
  rw [if_pos (Or.inr rfl)] at this
  exact this
theorem n_d {v : Int32} (h : F.s 28 = 0) (hv : v = 0 ∨ v = 1) : yC w d mX11_need [.ref o, .int v] o F (yR none F) := by
  have := m_need (w := w) (d := d) (o := o) (F := F) hv
  rw [if_pos (Or.inl h), uS_id h] at this
  exact this
theorem g_a {q : Nat} (h : al F T n q) : yC w (d + 2) mX11_go [.ref o] o F (fun v F' => v = none ∧ al F' T n (sE T n q) ∧ keepT F F') := by
  have := m_go (w := w) (d := d) (o := o) (F := F) (T := T) (n := n) (st := .ok ((), q)) h
  exact yC_imp this (fun v F' hh => ⟨hh.1, hh.2.1, hh.2.2⟩)
theorem g_d (h : F.s 28 = 0) : yC w d mX11_go [.ref o] o F (yR none F) := by
  refine yC_of (by decide) (ble rfl) (ls := [some (.ref o)]) rfl ?_
  refine yX11_go_0 (yX11_go_1 (yX11_go_4 (fun _ => ?_) (fun h9 => absurd h h9)))
  refine yX11_go_19 ⟨rfl, rfl⟩
theorem sg_a {q i : Nat} (hi : sgOK i) (h : al F T n q) : yC w (d + 3) mX11_sign [.ref o, .int (chr i 0)] o F (fun v F' => v = none ∧ adR F' T n (rSign (tkOf T n) i q) ∧ keepT F F') := by
  have := m_sign (w := w) (d := d) (o := o) (F := F) (T := T) (n := n) (st := .ok ((), q)) hi h
  refine yC_imp this (fun v F' hh => ⟨hh.1, ?_, hh.2.2⟩)
  have h2 := hh.2.1
  have e : bnd (.ok ((), q)) (fun x : Unit × Nat => bnd (rSign (tkOf T n) i x.2) (fun q => .ok (x.1, q))) = bnd (rSign (tkOf T n) i q) (fun q => .ok ((), q)) := rfl
  rw [e] at h2
  match rSign (tkOf T n) i q, h2 with
  | .ok q', h2 => exact h2
  | .error p, h2 => exact h2
theorem sg_d {p : Nat} {c : Int32} (h : de F T n p) : yC w (d + 3) mX11_sign [.ref o, .int c] o F (yR none F) := by
  obtain ⟨h1, h2, h3, h4, q, h5, h6, _⟩ := h
  refine yC_of (by decide) (ble rfl) (ls := [some (.ref o), some (.int c)]) rfl ?_
  refine yX11_sign_0 (yX11_sign_1 (yX11_sign_2 (yX11_sign_3 (ble rfl) (m_isSign c h1 h3 h5 h6) (yX11_sign_6 (ble rfl) (n_d h4 (sgn_01 _ _ _ _)) (yX11_sign_9 (yX11_sign_10 (ble rfl) (g_d h4) (yX11_sign_13 ⟨rfl, rfl⟩)))))))
theorem nn_a {q : Nat} (h : al F T n q) : yC w (d + 3) mX11_numberNow [.ref o] o F (fun v F' => ∃ r, v = some (.int r) ∧ adR F' T n (bnd (rNum (tkOf T n) q) (fun y => .ok y.2)) ∧ (∀ y, rNum (tkOf T n) q = .ok y → r = y.1) ∧ keepT F F') := by
  have := m_numberNow (w := w) (d := d) (o := o) (F := F) (T := T) (n := n) (st := .ok ((), q)) h
  refine yC_imp this (fun v F' hh => ?_)
  obtain ⟨r, h1, h2, h3, h4⟩ := hh
  refine ⟨r, h1, ?_, ?_, h4⟩
  · have e : bnd (.ok ((), q)) (fun x : Unit × Nat => bnd (rNum (tkOf T n) x.2) (fun y => .ok (x.1, y.2))) = bnd (rNum (tkOf T n) q) (fun y => .ok ((), y.2)) := rfl
    rw [e] at h2
    match rNum (tkOf T n) q, h2 with
    | .ok q', h2 => exact h2
    | .error p, h2 => exact h2
  · intro y hy
    obtain ⟨b, e⟩ := dmd_ok hy
    cases e
    exact h3 _ rfl b
theorem nn_d {p : Nat} (h : de F T n p) : yC w (d + 3) mX11_numberNow [.ref o] o F (fun v F' => ∃ r, v = some (.int r) ∧ F' = F) := by
  obtain ⟨h1, h2, h3, h4, q, h5, h6, _⟩ := h
  refine yC_of (by decide) (ble rfl) (ls := [some (.ref o), none]) rfl ?_
  refine yX11_numberNow_0 (yX11_numberNow_1 (yX11_numberNow_2 (yX11_numberNow_5 (yX11_numberNow_6 (fun h6 => ?_) (fun h6 => ?_)))))
  · refine yX11_numberNow_13 (yX11_numberNow_14 (ble rfl) (n_d h4 (by first | exact Or.inl rfl | exact Or.inr rfl)) (yX11_numberNow_17 (yX11_numberNow_18 (yX11_numberNow_21 rfl (yX11_numberNow_22 (yX11_numberNow_23 (ble rfl) (g_d h4) (yX11_numberNow_26 (yX11_numberNow_27 ?_))))))))
    exact ⟨_, rfl, rfl⟩
  · refine yX11_numberNow_9 (yX11_numberNow_10 (yX11_numberNow_14 (ble rfl) (n_d h4 (by first | exact Or.inl rfl | exact Or.inr rfl)) (yX11_numberNow_17 (yX11_numberNow_18 (yX11_numberNow_21 rfl (yX11_numberNow_22 (yX11_numberNow_23 (ble rfl) (g_d h4) (yX11_numberNow_26 (yX11_numberNow_27 ?_)))))))))
    exact ⟨_, rfl, rfl⟩
theorem al.kT_s {F' : mF} {q : Nat} (h : al F T n q) : F.s 28 = 1 := h.2.2.2.1
/-- reads a cell -/
def mCo (F : mF) (T : Nat → Int32) (n u k tc : Nat) (tn : Nat → Int64) (c : ceT) (q : Nat) : Prop := al F T n q ∧ shC F u k ∧ tabN F u tc tn ∧ celR F (12 * u + k) c ∧ wC tc c
def mCd (F : mF) (T : Nat → Int32) (n u k tc : Nat) (tn : Nat → Int64) (p : Nat) : Prop := de F T n p ∧ shC F u k ∧ tabN F u tc tn
def mCR (F : mF) (T : Nat → Int32) (n u k tc : Nat) (tn : Nat → Int64) (r : Except Nat (ceT × Nat)) : Prop := match r with
  | .ok x => mCo F T n u k tc tn x.1 x.2
  | .error p => mCd F T n u k tc tn p
variable {u k tc q : Nat} {tn : Nat → Int64} {c : ceT}
theorem mCo.kT {F' : mF} {q' : Nat} (h : mCo F T n u k tc tn c q) (ha : al F' T n q') (kt : keepT F F') : mCo F' T n u k tc tn c q' := ⟨ha, h.2.1.kT kt, h.2.2.1.cK (kt.cK 0), h.2.2.2.1.kT kt, h.2.2.2.2⟩
theorem mCo.die (h : mCo F T n u k tc tn c q) : mCd (F.uS 28 0) T n u k tc tn (sS T n q) := ⟨h.1.die, h.2.1.kT die_kT, h.2.2.1.cK (die_kT.cK 0)⟩
theorem mCo.dd {F' : mF} {p : Nat} (h : mCo F T n u k tc tn c q) (hd : de F' T n p) (kt : keepT F F') : mCd F' T n u k tc tn p := ⟨hd, h.2.1.kT kt, h.2.2.1.cK (kt.cK 0)⟩
theorem shC.of (hu : u < 2) (hk : k < 12) (h29 : F.s 29 = nI u) (h30 : F.s 30 = nI (12 * u + k)) (hr : celR F (12 * u + k) c) (hw : wC tc c) : shC F u k := ⟨hu, hk, h29, h30, ⟨_, hw.1, hr.2.2.1⟩, ⟨_, hw.2.1, hr.2.2.2.1⟩, ⟨_, hw.2.2.1, hr.2.2.2.2.1⟩⟩
theorem tn_l {q : Nat} (h : mTk F T n q) (hk : sK T n q = 1) : F.nm = sN T n q := by rw [h.2.2.2.1 hk]; unfold sN; rw [if_pos hk]
/-- QC: how a method that reads a piece of a cell ends -/
def qC (F : mF) (T : Nat → Int32) (n u k tc : Nat) (tn : Nat → Int64) (r : Except Nat (ceT × Nat)) : Option Value → mF → Prop := fun v F' => v = none ∧ mCR F' T n u k tc tn r ∧ cK F F' (12 * u + k)
theorem qC.mono {F1 : mF} {r : Except Nat (ceT × Nat)} {v : Option Value} {F' : mF} (hk : cK F F1 (12 * u + k)) (h : qC F1 T n u k tc tn r v F') : qC F T n u k tc tn r v F' := ⟨h.1, h.2.1, hk.tr h.2.2⟩
theorem ri_D2 {p : Nat} (h : mCd F T n u k tc tn p) : Y w mX11_readInput (d + 4) (qC F T n u k tc tn (.error p)) o 79 [some (.ref o)] [] F := by
  refine yX11_readInput_79 (yX11_readInput_80 (yX11_readInput_83 (fun _ => ?_) (fun h9 => absurd h.1.2.2.2.1 h9)))
  refine yX11_readInput_125 (yX11_readInput_126 (ble rfl) (g_d h.1.2.2.2.1) (yX11_readInput_129 ⟨rfl, h, cK.rf⟩))
theorem ri_D1 {p : Nat} (h : mCd F T n u k tc tn p) : Y w mX11_readInput (d + 4) (qC F T n u k tc tn (.error p)) o 37 [some (.ref o)] [] F := by
  obtain ⟨hu, hk, s29, s30, ⟨i0, hi0, ei⟩, ⟨o0, ho0, eo⟩, a0, ha0, ea⟩ := h.2.1
  refine yX11_readInput_37 (yX11_readInput_38 (ble rfl) (g_d h.1.2.2.2.1) (yX11_readInput_41 (yX11_readInput_42 (yX11_readInput_43 (yX11_readInput_46 (yX11_readInput_47 (fun h47 => ?_) (fun h47 => ?_)))))))
  · refine yX11_readInput_75 (yX11_readInput_76 (ble rfl) (n_d h.1.2.2.2.1 (by first | exact Or.inl rfl | exact Or.inr rfl)) ?_)
    exact ri_D2 h
  · refine yX11_readInput_50 (yX11_readInput_51 (ble rfl) (m_isPin (by omega) s30 hi0 ho0 ei eo) (yX11_readInput_54 (fun h54 => ?_) (fun h54 => ?_)))
    · refine yX11_readInput_75 (yX11_readInput_76 (ble rfl) (n_d h.1.2.2.2.1 (by first | exact Or.inl rfl | exact Or.inr rfl)) ?_)
      exact ri_D2 h
    · refine yX11_readInput_57 (yX11_readInput_58 (yX11_readInput_61 (yX11_readInput_62 (yX11_readInput_65 (ble rfl) rfl (i := 12 * u + k) s30 (by omega) (yX11_readInput_66 (yX11_readInput_68 (fun h68 => ?_) (fun h68 => ?_)))))))
      · refine yX11_readInput_75 (yX11_readInput_76 (ble rfl) (n_d h.1.2.2.2.1 (by first | exact Or.inl rfl | exact Or.inr rfl)) ?_)
        exact ri_D2 h
      · refine yX11_readInput_71 (yX11_readInput_72 (yX11_readInput_76 (ble rfl) (n_d h.1.2.2.2.1 (by first | exact Or.inl rfl | exact Or.inr rfl)) ?_))
        exact ri_D2 h
theorem ri_d {p : Nat} (h : mCd F T n u k tc tn p) : yC w (d + 4) mX11_readInput [.ref o] o F (qC F T n u k tc tn (.error p)) := by
  obtain ⟨hu, hk, s29, s30, ⟨i0, hi0, ei⟩, ⟨o0, ho0, eo⟩, a0, ha0, ea⟩ := h.2.1
  refine yC_of (by decide) (ble rfl) (ls := [some (.ref o)]) rfl ?_
  refine yX11_readInput_0 (yX11_readInput_1 (yX11_readInput_2 (yX11_readInput_5 (yX11_readInput_6 (yX11_readInput_9 (ble rfl) rfl (i := 12 * u + k) s30 (by omega) (yX11_readInput_10 (fun h10 => ?_) (fun h10 => ?_)))))))
  · refine yX11_readInput_33 (yX11_readInput_34 (ble rfl) (n_d h.1.2.2.2.1 (by first | exact Or.inl rfl | exact Or.inr rfl)) ?_)
    exact ri_D1 h
  · refine yX11_readInput_13 (yX11_readInput_14 (yX11_readInput_17 (yX11_readInput_18 (yX11_readInput_19 (yX11_readInput_22 (yX11_readInput_23 (yX11_readInput_24 (yX11_readInput_25 (ble rfl) rfl (i := 4 * (12 * u + k) + 3) (by rw [s30]; exact ixm 4 _ 3) (by omega) (yX11_readInput_26 (fun h26 => ?_) (fun h26 => ?_))))))))))
    · refine yX11_readInput_33 (yX11_readInput_34 (ble rfl) (n_d h.1.2.2.2.1 (by first | exact Or.inl rfl | exact Or.inr rfl)) ?_)
      exact ri_D1 h
    · refine yX11_readInput_29 (yX11_readInput_30 (yX11_readInput_34 (ble rfl) (n_d h.1.2.2.2.1 (by first | exact Or.inl rfl | exact Or.inr rfl)) ?_))
      exact ri_D1 h
theorem ri_a (h : mCo F T n u k tc tn c q) : yC w (d + 4) mX11_readInput [.ref o] o F (qC F T n u k tc tn (rInp (tkOf T n) c q)) := by
  obtain ⟨hu, hk, s29, s30, _⟩ := h.2.1
  have hw := h.2.2.2.2
  have r := h.2.2.2.1
  refine yC_of (by decide) (ble rfl) (ls := [some (.ref o)]) rfl ?_
  have Z1 : ¬ (c.o = 0 ∧ c.pt = 0) → Y w mX11_readInput (d + 4) (qC F T n u k tc tn (rInp (tkOf T n) c q)) o 34 [some (.ref o)] [.int 0, .ref o] F := by
    intro z
    refine yX11_readInput_34 (ble rfl) n_0 ?_
    rw [show rInp (tkOf T n) c q = .error (sS T n q) from dmd_f z]
    exact Y_imp (ri_D1 h.die) (fun v F' hh => qC.mono (die_kT.cK _) hh)
  refine yX11_readInput_0 (yX11_readInput_1 (yX11_readInput_2 (yX11_readInput_5 (yX11_readInput_6 (yX11_readInput_9 (ble rfl) rfl (i := 12 * u + k) s30 (by omega) ?_)))))
  rw [r.2.2.2.1]
  refine yX11_readInput_10 (fun h9 => ?_) (fun h9 => ?_)
  · refine yX11_readInput_33 ?_
    exact Z1 (fun z => h9 (by rw [z.1]; rfl))
  · have h9 : c.o = 0 := (nI_eq (b := 0) (by have := hw.2.1; omega) (by omega)).mp h9
    refine yX11_readInput_13 (yX11_readInput_14 (yX11_readInput_17 (yX11_readInput_18 (yX11_readInput_19 (yX11_readInput_22 (yX11_readInput_23 (yX11_readInput_24 (yX11_readInput_25 (ble rfl) rfl (i := 4 * (12 * u + k) + 3) (by rw [s30]; exact ixm 4 _ 3) (by omega) ?_))))))))
    rw [r.2.2.2.2.2.2.2.2.2.1]
    refine yX11_readInput_26 (fun h8 => ?_) (fun h8 => ?_)
    · refine yX11_readInput_33 ?_
      exact Z1 (fun z => h8 z.2)
    · refine yX11_readInput_29 (yX11_readInput_30 (yX11_readInput_34 (ble rfl) (n_1 h.1.2.2.2.1) (yX11_readInput_37 (yX11_readInput_38_g (ble rfl) (g_a h.1) (fun v F2 hF => ?_)))))
      obtain ⟨rfl, a2, k2⟩ := hF
      have h2 := h.kT a2 k2
      have e1 : rInp (tkOf T n) c q = dmd (c.i < 6) (sS T n (sE T n q)) (bnd (rPin (tkOf T n) c (sE T n q)) (fun x => .ok ((x.1.nm, x.1.pl, x.1.pins, x.1.i + 1, x.1.o, x.1.tr, x.1.am, x.1.tl, x.1.pw, x.1.pt, x.1.arcs, x.1.ac), x.2))) := dmd_t ⟨h9, h8⟩
      have wi : ∀ c' q', rInp (tkOf T n) c q = .ok (c', q') → wC tc c' := fun c' q' e => wC_inp e hw
      rw [e1] at wi ⊢
      clear e1
      revert wi
      generalize hq2 : sE T n q = q2 at a2 h2
      intro wi
      have Z2 : ¬ (c.i < 6 ∧ ¬ sN T n q2 = 0 ∧ fnd c.pins (sN T n q2) 0 (c.i + c.o) = -1) → Y w mX11_readInput (d + 4) (qC F T n u k tc tn (dmd (c.i < 6) (sS T n q2) (bnd (rPin (tkOf T n) c q2) (fun x => .ok ((x.1.nm, x.1.pl, x.1.pins, x.1.i + 1, x.1.o, x.1.tr, x.1.am, x.1.tl, x.1.pw, x.1.pt, x.1.arcs, x.1.ac), x.2))))) o 76 [some (.ref o)] [.int 0, .ref o] F2 := by
        intro z
        refine yX11_readInput_76 (ble rfl) n_0 ?_
        have e : dmd (c.i < 6) (sS T n q2) (bnd (rPin (tkOf T n) c q2) (fun x => .ok ((x.1.nm, x.1.pl, x.1.pins, x.1.i + 1, x.1.o, x.1.tr, x.1.am, x.1.tl, x.1.pw, x.1.pt, x.1.arcs, x.1.ac), x.2))) = .error (sS T n q2) := by
          by_cases y1 : c.i < 6
          · rw [dmd_t y1, show rPin (tkOf T n) c q2 = .error (sS T n q2) from dmd_f (fun y => z ⟨y1, y.1, y.2⟩)]; rfl
          · rw [dmd_f y1]
        rw [e]
        exact Y_imp (ri_D2 h2.die) (fun v F' hh => qC.mono ((k2.tr die_kT).cK _) hh)
      have r2 := h2.2.2.2.1
      obtain ⟨_, _, t29, t30, _⟩ := h2.2.1
      have ht := a2.2.2.2.2.2
      have hq := a2.2.2.2.2.1
      have h4 := sK_le T hq
      refine yX11_readInput_41 (yX11_readInput_42 (yX11_readInput_43 ?_))
      rw [ht.2.2.1]
      refine yX11_readInput_46 (yX11_readInput_47 (fun h7 => ?_) (fun h7 => ?_))
      · refine yX11_readInput_75 ?_
        exact Z2 (fun z => h7 (by rw [(sN_0 hq).mp z.2.1]; rfl))
      · have h7 : sK T n q2 = 1 := (nI_eq (b := 1) (by omega) (by omega)).mp h7
        have hnm := tn_l ht h7
        have hP := isP_iff r2 hw.1 hw.2.1
        rw [hnm] at hP
        refine yX11_readInput_50 (yX11_readInput_51 (ble rfl) (m_isPin (by omega) t30 hw.1 hw.2.1 r2.2.2.1 r2.2.2.2.1) (yX11_readInput_54 (fun h6 => ?_) (fun h6 => ?_)))
        · refine yX11_readInput_75 ?_
          exact Z2 (fun z => h6 (hP.mpr z.2.2))
        · refine yX11_readInput_57 (yX11_readInput_58 (yX11_readInput_61 (yX11_readInput_62 (yX11_readInput_65 (ble rfl) rfl (i := 12 * u + k) t30 (by omega) ?_))))
          rw [r2.2.2.1]
          refine yX11_readInput_66 (yX11_readInput_68 (fun h5 => ?_) (fun h5 => ?_))
          · have h5 : 6 ≤ c.i := (nI_leI (a := 6) (by omega) (by have := hw.1; omega)).mp h5
            refine yX11_readInput_75 ?_
            exact Z2 (fun z => by omega)
          · have h5 : c.i < 6 := by
              rcases Nat.lt_or_ge c.i 6 with z | z
              · exact z
              · exact absurd (nI_le (a := 6) z (by have := hw.1; omega)) h5
            have e2 : dmd (c.i < 6) (sS T n q2) (bnd (rPin (tkOf T n) c q2) (fun x => .ok ((x.1.nm, x.1.pl, x.1.pins, x.1.i + 1, x.1.o, x.1.tr, x.1.am, x.1.tl, x.1.pw, x.1.pt, x.1.arcs, x.1.ac), x.2))) = .ok ((c.nm, c.pl, uL c.pins (c.i + c.o) (sN T n q2), c.i + 1, c.o, c.tr, c.am, c.tl, c.pw, c.pt, c.arcs, c.ac), sE T n q2) := by
              rw [dmd_t h5, show rPin (tkOf T n) c q2 = _ from dmd_t ⟨(sN_0 hq).mpr h7, hP.mp h6⟩]
              rfl
            rw [e2] at wi ⊢
            obtain ⟨r1, r3, r4, r5, r6, r7, r8, r9, r10, r11, r12, r13, r14, r15⟩ := id r2
            refine yX11_readInput_71 (yX11_readInput_72 (yX11_readInput_76 (ble rfl) (n_1 a2.2.2.2.1) (yX11_readInput_79 (yX11_readInput_80 (yX11_readInput_83 (fun z => absurd (a2.2.2.2.1.symm.trans z) (by decide)) (fun _ => ?_))))))
            refine yX11_readInput_86 (yX11_readInput_87 (yX11_readInput_90 (yX11_readInput_92 (yX11_readInput_93 (yX11_readInput_96 (yX11_readInput_97 (yX11_readInput_98 (yX11_readInput_101 (yX11_readInput_102 (yX11_readInput_105 (ble rfl) rfl (i := 12 * u + k) t30 (by omega) (yX11_readInput_106 (yX11_readInput_107 (yX11_readInput_108 (yX11_readInput_111 (ble rfl) (fun _ => rfl) (i := 9 * (12 * u + k) + c.i) (by rw [t30, r4]; exact ixm 9 _ _) (by omega) ?_))))))))))))))
            refine yX11_readInput_112 (yX11_readInput_113 (yX11_readInput_116 (yX11_readInput_117 (yX11_readInput_120 (yX11_readInput_121 (ble rfl) rfl (i := 12 * u + k) t30 (by omega) (yX11_readInput_122 (yX11_readInput_123 (yX11_readInput_124 (ble rfl) (fun _ => rfl) (i := 12 * u + k) t30 (by omega) ?_))))))))
            rw [show (F2.uL 12 (vp_updL (F2.l 12) (9 * (12 * u + k) + c.i) F2.nm)).a 13 (12 * u + k) + 1 = nI (c.i + 1) by show F2.a 13 (12 * u + k) + 1 = _; rw [r4, nI_1]]
            have kB := (cK.uL (F := F2) (c := 12 * u + k) (r := 12) (i := 9 * (12 * u + k) + c.i) (v := F2.nm) (by omega) (by show _ * 9 ≤ _; omega) (by show _ < _ * 9; omega)).tr (cK.uA (r := 13) (i := 12 * u + k) (v := nI (c.i + 1)) (by omega) (by show _ * 1 ≤ _; omega) (by show _ < _ * 1; omega))
            have rc : celR ((F2.uL 12 (vp_updL (F2.l 12) (9 * (12 * u + k) + c.i) F2.nm)).uA 13 (upd ((F2.uL 12 (vp_updL (F2.l 12) (9 * (12 * u + k) + c.i) F2.nm)).a 13) (12 * u + k) (nI (c.i + 1)))) (12 * u + k) (c.nm, c.pl, uL c.pins (c.i + c.o) (sN T n q2), c.i + 1, c.o, c.tr, c.am, c.tl, c.pw, c.pt, c.arcs, c.ac) := by
              refine ⟨r1, r3, pk_us, r5, r6, fun j hj => ?_, fun j hj => ?_, r9, r10, r11, r12, r13, r14, fun hp => absurd h8 hp⟩
              · show vp_updL (F2.l 12) (9 * (12 * u + k) + c.i) F2.nm (9 * (12 * u + k) + j) = uL c.pins (c.i + c.o) (sN T n q2) j
                have hj : j < c.i + 1 := hj
                rw [h9, Nat.add_zero]
                by_cases ej : j = c.i
                · subst ej; rw [pk_uLs, ul_s, hnm]
                · rw [pk_uLn (by omega), ul_n ej]; exact r7 j (by omega)
              · have hj : j < c.o := hj
                omega
            have aB : al ((F2.uL 12 (vp_updL (F2.l 12) (9 * (12 * u + k) + c.i) F2.nm)).uA 13 (upd ((F2.uL 12 (vp_updL (F2.l 12) (9 * (12 * u + k) + c.i) F2.nm)).a 13) (12 * u + k) (nI (c.i + 1)))) T n q2 := a2
            generalize ((F2.uL 12 (vp_updL (F2.l 12) (9 * (12 * u + k) + c.i) F2.nm)).uA 13 (upd ((F2.uL 12 (vp_updL (F2.l 12) (9 * (12 * u + k) + c.i) F2.nm)).a 13) (12 * u + k) (nI (c.i + 1)))) = F3 at kB rc aB ⊢
            refine yX11_readInput_125 (yX11_readInput_126_g (ble rfl) (g_a aB) (fun v F4 hF => ?_))
            obtain ⟨rfl, a4, k4⟩ := hF
            have kF := (k2.cK (12 * u + k)).tr (kB.tr (k4.cK (12 * u + k)))
            have w4 := wi _ _ rfl
            have rc4 := rc.kT k4
            exact yX11_readInput_129 ⟨rfl, ⟨a4, shC.of hu hk (by rw [kF.2.2.2.2.1]; exact s29) (by rw [kF.2.2.2.2.2]; exact s30) rc4 w4, h.2.2.1.cK kF, rc4, w4⟩, kF⟩
end M4
