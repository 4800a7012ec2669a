section M5
variable {w : xWd} {d o : Nat} {F : mF} {T : Nat → Int32} {n : Nat}
variable {u k tc q : Nat} {tn : Nat → Int64} {c : ceT}
theorem nar1 : vp_nar .boolean 1 = 1 := rfl
theorem nar0 : vp_nar .boolean 0 = 0 := rfl
theorem wC_am {tc : Nat} {K : tkT} {c c' : ceT} {j q q' : Nat} (h : rAmount K c j q = .ok (c', q')) (hw : wC tc c) : wC tc c' := by
  obtain ⟨h1, h⟩ := dmd_ok h
  obtain ⟨x, h3, h⟩ := bnd_ok h
  cases h
  obtain ⟨w1, w2, w3, w4, w5, w6, w7, w8, w9⟩ := hw
  refine ⟨w1, w2, w3, w4, w5, w6, fun i hi => ?_, w8, w9⟩
  show upd c.tl j 1 i = 0 ∨ upd c.tl j 1 i = 1
  by_cases e : i = j
  · subst e; rw [pk_us]; exact Or.inr rfl
  · rw [pk_un e]; exact w7 i hi
theorem wC_pw {tc : Nat} {K : tkT} {c c' : ceT} {q q' : Nat} (h : rPower K c q = .ok (c', q')) (hw : wC tc c) : wC tc c' := by
  obtain ⟨h1, h⟩ := dmd_ok h
  obtain ⟨x, h3, h⟩ := bnd_ok h
  cases h
  obtain ⟨w1, w2, w3, w4, w5, w6, w7, w8, w9⟩ := hw
  exact ⟨w1, w2, w3, w4, w5, Or.inr rfl, w7, w8, w9⟩
theorem rn_D {p j : Nat} (hj : j < 3) (h : mCd F T n u k tc tn p) : Y w mX11_readNumber (d + 4) (qC F T n u k tc tn (.error p)) o 25 [some (.ref o), some (.int (nI j))] [] F := by
  obtain ⟨hu, hk, s29, s30, _⟩ := h.2.1
  refine yX11_readNumber_25 (yX11_readNumber_26 (yX11_readNumber_29 (yX11_readNumber_30 (yX11_readNumber_31 (yX11_readNumber_34 (yX11_readNumber_35 (yX11_readNumber_36 (yX11_readNumber_37 (yX11_readNumber_38 (ble rfl) (fun _ => rfl) (i := 4 * (12 * u + k) + j) (by rw [s30]; exact ixm 4 _ _) (by omega) ?_)))))))))
  have kA := cK.uA (F := F) (c := 12 * u + k) (r := 16) (i := 4 * (12 * u + k) + j) (v := vp_nar .boolean 1) (by omega) (by show _ * 4 ≤ _; omega) (by show _ < _ * 4; omega)
  have hA : mCd (F.uA 16 (upd (F.a 16) (4 * (12 * u + k) + j) (vp_nar .boolean 1))) T n u k tc tn p := h
  generalize F.uA 16 (upd (F.a 16) (4 * (12 * u + k) + j) (vp_nar .boolean 1)) = F1 at kA hA ⊢
  obtain ⟨_, _, t29, t30, _⟩ := hA.2.1
  refine yX11_readNumber_39 (yX11_readNumber_40 (ble rfl) (g_d hA.1.2.2.2.1) (yX11_readNumber_43 (yX11_readNumber_44 (yX11_readNumber_47 (yX11_readNumber_48 (yX11_readNumber_49 (yX11_readNumber_52 (yX11_readNumber_53 (yX11_readNumber_54 (yX11_readNumber_55 (yX11_readNumber_56_g (ble rfl) (nn_d hA.1) (fun v F2 hF => ?_))))))))))))
  obtain ⟨r, rfl, rfl⟩ := hF
  refine yX11_readNumber_59 (ble rfl) (fun _ => rfl) (i := 3 * (12 * u + k) + j) (by rw [t30]; exact ixm 3 _ _) (by omega) ?_
  have kB := kA.tr (cK.uA (r := 15) (i := 3 * (12 * u + k) + j) (v := r) (by omega) (by show _ * 3 ≤ _; omega) (by show _ < _ * 3; omega))
  exact yX11_readNumber_60 ⟨rfl, hA, kB⟩
theorem rn_d {p j : Nat} (hj : j < 3) (h : mCd F T n u k tc tn p) : yC w (d + 4) mX11_readNumber [.ref o, .int (nI j)] o F (qC F T n u k tc tn (.error p)) := by
  obtain ⟨hu, hk, s29, s30, _⟩ := h.2.1
  refine yC_of (by decide) (ble rfl) (ls := [some (.ref o), some (.int (nI j))]) rfl ?_
  refine yX11_readNumber_0 (yX11_readNumber_1 (yX11_readNumber_2 (yX11_readNumber_5 (yX11_readNumber_6 (yX11_readNumber_7 (yX11_readNumber_10 (yX11_readNumber_11 (yX11_readNumber_12 (yX11_readNumber_13 (ble rfl) rfl (i := 4 * (12 * u + k) + j) (by rw [s30]; exact ixm 4 _ _) (by omega) (yX11_readNumber_14 (fun h14 => ?_) (fun h14 => ?_)))))))))))
  · refine yX11_readNumber_21 (yX11_readNumber_22 (ble rfl) (n_d h.1.2.2.2.1 (by first | exact Or.inl rfl | exact Or.inr rfl)) ?_)
    exact rn_D hj h
  · refine yX11_readNumber_17 (yX11_readNumber_18 (yX11_readNumber_22 (ble rfl) (n_d h.1.2.2.2.1 (by first | exact Or.inl rfl | exact Or.inr rfl)) ?_))
    exact rn_D hj h
theorem rn_a {j : Nat} (hj : j < 3) (h : mCo F T n u k tc tn c q) : yC w (d + 4) mX11_readNumber [.ref o, .int (nI j)] o F (qC F T n u k tc tn (rAmount (tkOf T n) c j q)) := by
  obtain ⟨hu, hk, s29, s30, _⟩ := h.2.1
  have hw := h.2.2.2.2
  have r := h.2.2.2.1
  have wi : ∀ c' q', rAmount (tkOf T n) c j q = .ok (c', q') → wC tc c' := fun c' q' e => wC_am e hw
  refine yC_of (by decide) (ble rfl) (ls := [some (.ref o), some (.int (nI j))]) rfl ?_
  refine yX11_readNumber_0 (yX11_readNumber_1 (yX11_readNumber_2 (yX11_readNumber_5 (yX11_readNumber_6 (yX11_readNumber_7 (yX11_readNumber_10 (yX11_readNumber_11 (yX11_readNumber_12 (yX11_readNumber_13 (ble rfl) rfl (i := 4 * (12 * u + k) + j) (by rw [s30]; exact ixm 4 _ _) (by omega) ?_)))))))))
  rw [r.2.2.2.2.2.2.2.2.1 j hj]
  refine yX11_readNumber_14 (fun h9 => ?_) (fun h9 => ?_)
  · refine yX11_readNumber_21 (yX11_readNumber_22 (ble rfl) n_0 ?_)
    rw [show rAmount (tkOf T n) c j q = .error (sS T n q) from dmd_f h9]
    exact Y_imp (rn_D hj h.die) (fun v F' hh => qC.mono (die_kT.cK _) hh)
  · rw [show rAmount (tkOf T n) c j q = bnd (rNum (tkOf T n) (sE T n q)) (fun x => .ok ((c.nm, c.pl, c.pins, c.i, c.o, c.tr, upd c.am j x.1, upd c.tl j 1, c.pw, c.pt, c.arcs, c.ac), x.2)) from dmd_t h9] at wi ⊢
    refine yX11_readNumber_17 (yX11_readNumber_18 (yX11_readNumber_22 (ble rfl) (n_1 h.1.2.2.2.1) (yX11_readNumber_25 (yX11_readNumber_26 (yX11_readNumber_29 (yX11_readNumber_30 (yX11_readNumber_31 (yX11_readNumber_34 (yX11_readNumber_35 (yX11_readNumber_36 (yX11_readNumber_37 (yX11_readNumber_38 (ble rfl) (fun _ => rfl) (i := 4 * (12 * u + k) + j) (by rw [s30]; exact ixm 4 _ _) (by omega) ?_))))))))))))
    have kA := cK.uA (F := F) (c := 12 * u + k) (r := 16) (i := 4 * (12 * u + k) + j) (v := vp_nar .boolean 1) (by omega) (by show _ * 4 ≤ _; omega) (by show _ < _ * 4; omega)
    have hA : al (F.uA 16 (upd (F.a 16) (4 * (12 * u + k) + j) (vp_nar .boolean 1))) T n q ∧ shC (F.uA 16 (upd (F.a 16) (4 * (12 * u + k) + j) (vp_nar .boolean 1))) u k ∧ tabN (F.uA 16 (upd (F.a 16) (4 * (12 * u + k) + j) (vp_nar .boolean 1))) u tc tn := ⟨h.1, h.2.1, h.2.2.1⟩
    have rc : celR (F.uA 16 (upd (F.a 16) (4 * (12 * u + k) + j) (vp_nar .boolean 1))) (12 * u + k) (c.nm, c.pl, c.pins, c.i, c.o, c.tr, c.am, upd c.tl j 1, c.pw, c.pt, c.arcs, c.ac) := by
      obtain ⟨r1, r3, r4, r5, r6, r7, r8, r9, r10, r11, r12, r13, r14, r15⟩ := r
      refine ⟨r1, r3, r4, r5, r6, r7, r8, r9, fun i hi => ?_, ?_, r12, r13, r14, r15⟩
      · show upd (F.a 16) (4 * (12 * u + k) + j) (vp_nar .boolean 1) (4 * (12 * u + k) + i) = upd c.tl j 1 i
        by_cases e : i = j
        · subst e; rw [pk_us, pk_us]; rfl
        · rw [pk_un (by omega), pk_un e]; exact r10 i hi
      · show upd (F.a 16) (4 * (12 * u + k) + j) (vp_nar .boolean 1) (4 * (12 * u + k) + 3) = c.pt
        rw [pk_un (by omega)]; exact r11
    generalize F.uA 16 (upd (F.a 16) (4 * (12 * u + k) + j) (vp_nar .boolean 1)) = F1 at kA hA rc ⊢
    refine yX11_readNumber_39 (yX11_readNumber_40_g (ble rfl) (g_a hA.1) (fun v F2 hF => ?_))
    obtain ⟨rfl, a2, k2⟩ := hF
    refine yX11_readNumber_43 (yX11_readNumber_44 (yX11_readNumber_47 (yX11_readNumber_48 (yX11_readNumber_49 (yX11_readNumber_52 (yX11_readNumber_53 (yX11_readNumber_54 (yX11_readNumber_55 (yX11_readNumber_56_g (ble rfl) (nn_a a2) (fun v F3 hF => ?_))))))))))
    obtain ⟨x, rfl, a3, hx, k3⟩ := hF
    have kT3 := k2.tr k3
    obtain ⟨_, _, t29, t30, _⟩ := hA.2.1.kT kT3
    have t30' : F2.s 30 = nI (12 * u + k) := (hA.2.1.kT k2).2.2.2.1
    refine yX11_readNumber_59 (ble rfl) (fun _ => rfl) (i := 3 * (12 * u + k) + j) (by rw [t30']; exact ixm 3 _ _) (by omega) ?_
    have kB := (kA.tr (kT3.cK _)).tr (cK.uA (r := 15) (i := 3 * (12 * u + k) + j) (v := x) (by omega) (by show _ * 3 ≤ _; omega) (by show _ < _ * 3; omega))
    have sh3 : shC F3 u k := hA.2.1.kT kT3
    have tb3 : tabN F3 u tc tn := hA.2.2.cK (kT3.cK 0)
    refine yX11_readNumber_60 ⟨rfl, ?_, kB⟩
    match hr : rNum (tkOf T n) (sE T n q) with
    | .error p =>
      rw [hr] at a3
      exact ⟨a3, sh3, tb3⟩
    | .ok y =>
      rw [hr] at a3 wi
      have hx := hx y hr
      subst hx
      have w4 := wi _ _ rfl
      have rc3 := rc.kT kT3
      obtain ⟨r1, r3, r4, r5, r6, r7, r8, r9, r10, r11, r12, r13, r14, r15⟩ := id rc3
      refine ⟨a3, sh3, tb3, ⟨r1, r3, r4, r5, r6, r7, r8, fun i hi => ?_, r10, r11, r12, r13, r14, r15⟩, w4⟩
      show upd (F3.a 15) (3 * (12 * u + k) + j) y.1 (3 * (12 * u + k) + i) = upd c.am j y.1 i
      by_cases e : i = j
      · subst e; rw [pk_us, pk_us]
      · rw [pk_un (by omega), pk_un e]; exact r9 i hi
/-- only powers of the cell c are different -/
def p20 (F F' : mF) (c : Nat) : Prop := (∀ r, r ≠ 20 → F'.a r = F.a r) ∧ F'.l = F.l ∧ (∀ i, i < 64 * c ∨ 64 * c + 64 ≤ i → F'.a 20 i = F.a 20 i) ∧ (∀ j, j ≠ 23 → j ≠ 24 → j ≠ 25 → j ≠ 27 → j ≠ 28 → F'.s j = F.s j)
theorem p20.rf {c : Nat} : p20 F F c := ⟨fun _ _ => rfl, rfl, fun _ _ => rfl, fun _ _ _ _ _ _ => rfl⟩
theorem p20.tr {F F1 F2 : mF} {c : Nat} (h : p20 F F1 c) (h2 : p20 F1 F2 c) : p20 F F2 c := ⟨fun r hr => (h2.1 r hr).trans (h.1 r hr), h2.2.1.trans h.2.1, fun i hi => (h2.2.2.1 i hi).trans (h.2.2.1 i hi), fun j a b c d' e => (h2.2.2.2 j a b c d' e).trans (h.2.2.2 j a b c d' e)⟩
theorem keepT.p20 {F F' : mF} (c : Nat) (k : keepT F F') : p20 F F' c := ⟨fun r _ => by rw [k.2.1], k.2.2, fun i _ => by rw [k.2.1], k.1⟩
theorem p20.up {c i : Nat} {v : Int32} (h1 : 64 * c ≤ i) (h2 : i < 64 * c + 64) : p20 F (F.uA 20 (upd (F.a 20) i v)) c := ⟨fun r hr => uA_n hr, rfl, fun j hj => pk_un (by omega), fun _ _ _ _ _ _ => rfl⟩
theorem p20.cK {F F' : mF} {c : Nat} (h : p20 F F' c) : cK F F' c := by
  refine ⟨fun r _ h11 => ⟨h.1 r (by omega), by rw [h.2.1]⟩, fun r i _ _ hi => ⟨?_, by rw [h.2.1]⟩, h.2.2.2 0 (by omega) (by omega) (by omega) (by omega) (by omega), h.2.2.2 3 (by omega) (by omega) (by omega) (by omega) (by omega), h.2.2.2 29 (by omega) (by omega) (by omega) (by omega) (by omega), h.2.2.2 30 (by omega) (by omega) (by omega) (by omega) (by omega)⟩
  by_cases e : r = 20
  · subst e; exact h.2.2.1 i (by have : i < c * 64 ∨ (c + 1) * 64 ≤ i := hi; omega)
  · rw [h.1 r e]
theorem p20_shC {F F' : mF} {c : Nat} (h : p20 F F' c) (hs : shC F u k) : shC F' u k := by
  unfold shC
  rw [h.1 13 (by omega), h.1 14 (by omega), h.1 18 (by omega), h.2.2.2 29 (by omega) (by omega) (by omega) (by omega) (by omega), h.2.2.2 30 (by omega) (by omega) (by omega) (by omega) (by omega)]
  exact hs
theorem rp_D45 {p : Nat} {x : Int32} (h : mCd F T n u k tc tn p) : Y w mX11_readPower (d + 4) (qC F T n u k tc tn (.error p)) o 45 [some (.ref o), some (.int x)] [] F := by
  obtain ⟨hu, hk, s29, s30, _⟩ := h.2.1
  refine yX11_readPower_45 (yX11_readPower_46 (yX11_readPower_47 (yX11_readPower_48 (yX11_readPower_51 (yX11_readPower_52 (yX11_readPower_55 (ble rfl) rfl (i := 12 * u + k) s30 (by omega) (yX11_readPower_56 (yX11_readPower_57 (fun _ => ?_) (fun _ => ?_)))))))))
  · refine yX11_readPower_91 ⟨rfl, h, cK.rf⟩
  · refine yX11_readPower_60 (yX11_readPower_61 (yX11_readPower_64 (fun _ => ?_) (fun h9 => absurd h.1.2.2.2.1 h9)))
    refine yX11_readPower_91 ⟨rfl, h, cK.rf⟩
theorem rp_D {p : Nat} (h : mCd F T n u k tc tn p) : Y w mX11_readPower (d + 4) (qC F T n u k tc tn (.error p)) o 25 [some (.ref o), none] [] F := by
  obtain ⟨hu, hk, s29, s30, _⟩ := h.2.1
  refine yX11_readPower_25 (yX11_readPower_26 (yX11_readPower_29 (yX11_readPower_30 (yX11_readPower_31 (yX11_readPower_34 (yX11_readPower_35 (yX11_readPower_36 (yX11_readPower_37 (yX11_readPower_38 (ble rfl) (fun _ => rfl) (i := 4 * (12 * u + k) + 3) (by rw [s30]; exact ixm 4 _ 3) (by omega) ?_)))))))))
  have kA := cK.uA (F := F) (c := 12 * u + k) (r := 16) (i := 4 * (12 * u + k) + 3) (v := vp_nar .boolean 1) (by omega) (by show _ * 4 ≤ _; omega) (by show _ < _ * 4; omega)
  have hA : mCd (F.uA 16 (upd (F.a 16) (4 * (12 * u + k) + 3) (vp_nar .boolean 1))) T n u k tc tn p := h
  refine yX11_readPower_39 (yX11_readPower_40 (ble rfl) (g_d hA.1.2.2.2.1) (yX11_readPower_43 (yX11_readPower_44 rfl ?_)))
  exact Y_imp (rp_D45 hA) (fun v F' hh => qC.mono kA hh)
theorem rp_d {p : Nat} (h : mCd F T n u k tc tn p) : yC w (d + 4) mX11_readPower [.ref o] o F (qC F T n u k tc tn (.error p)) := by
  obtain ⟨hu, hk, s29, s30, _⟩ := h.2.1
  refine yC_of (by decide) (ble rfl) (ls := [some (.ref o), none]) rfl ?_
  refine yX11_readPower_0 (yX11_readPower_1 (yX11_readPower_2 (yX11_readPower_5 (yX11_readPower_6 (yX11_readPower_7 (yX11_readPower_10 (yX11_readPower_11 (yX11_readPower_12 (yX11_readPower_13 (ble rfl) rfl (i := 4 * (12 * u + k) + 3) (by rw [s30]; exact ixm 4 _ 3) (by omega) (yX11_readPower_14 (fun h14 => ?_) (fun h14 => ?_)))))))))))
  · refine yX11_readPower_21 (yX11_readPower_22 (ble rfl) (n_d h.1.2.2.2.1 (by first | exact Or.inl rfl | exact Or.inr rfl)) ?_)
    exact rp_D h
  · refine yX11_readPower_17 (yX11_readPower_18 (yX11_readPower_22 (ble rfl) (n_d h.1.2.2.2.1 (by first | exact Or.inl rfl | exact Or.inr rfl)) ?_))
    exact rp_D h
theorem rp_L {F0 : mF} {i : Nat} (hi : i ≤ 6) (S0 : shC F0 u k) (N0 : tabN F0 u tc tn) (e13 : F0.a 13 (12 * u + k) = nI i) (W : wC tc (c.nm, c.pl, c.pins, c.i, c.o, c.tr, c.am, c.tl, c.pw, 1, c.arcs, c.ac))
    (hcl : ∀ F' f, p20 F0 F' (12 * u + k) → (∀ s, s < 2 ^ i → F'.a 20 (64 * (12 * u + k) + s) = f s) → celR F' (12 * u + k) (c.nm, c.pl, c.pins, c.i, c.o, c.tr, c.am, c.tl, f, 1, c.arcs, c.ac)) :
    ∀ m s f F q, s + m = 2 ^ i → al F T n q → p20 F0 F (12 * u + k) → (∀ s', s' < s → F.a 20 (64 * (12 * u + k) + s') = f s') →
      Y w mX11_readPower (d + 4) (qC F0 T n u k tc tn (bnd (rNums (tkOf T n) m s f q) (fun x => .ok ((c.nm, c.pl, c.pins, c.i, c.o, c.tr, c.am, c.tl, x.1, 1, c.arcs, c.ac), x.2)))) o 45 [some (.ref o), some (.int (nI s))] [] F := by
  have p2 : 2 ^ i ≤ 64 := Nat.pow_le_pow_right (n := 2) (by omega) hi
  intro m
  induction m with
  | zero =>
    intro s f F q hs ha hp hf
    have S := p20_shC hp S0
    obtain ⟨hu, hk, s29, s30, _⟩ := id S
    have e13' : F.a 13 (12 * u + k) = nI i := by rw [hp.1 13 (by omega)]; exact e13
    refine yX11_readPower_45 (yX11_readPower_46 (yX11_readPower_47 (yX11_readPower_48 (yX11_readPower_51 (yX11_readPower_52 (yX11_readPower_55 (ble rfl) rfl (i := 12 * u + k) s30 (by omega) ?_))))))
    rw [e13']
    refine yX11_readPower_56 ?_
    rw [sh1 ⟨i, by omega⟩]
    refine yX11_readPower_57 (fun _ => ?_) (fun h9 => absurd (nI_le (by show 2 ^ i ≤ s; omega) (by omega)) h9)
    exact yX11_readPower_91 ⟨rfl, ⟨ha, S, N0.cK hp.cK, hcl F f hp (fun s' h9 => hf s' (by omega)), W⟩, hp.cK⟩
  | succ m ih =>
    intro s f F q hs ha hp hf
    have S := p20_shC hp S0
    obtain ⟨hu, hk, s29, s30, _⟩ := id S
    have e13' : F.a 13 (12 * u + k) = nI i := by rw [hp.1 13 (by omega)]; exact e13
    refine yX11_readPower_45 (yX11_readPower_46 (yX11_readPower_47 (yX11_readPower_48 (yX11_readPower_51 (yX11_readPower_52 (yX11_readPower_55 (ble rfl) rfl (i := 12 * u + k) s30 (by omega) ?_))))))
    rw [e13']
    refine yX11_readPower_56 ?_
    rw [sh1 ⟨i, by omega⟩]
    refine yX11_readPower_57 (fun h9 => absurd h9 (nI_ge (by show s < 2 ^ i; omega) (by show 2 ^ i < _; omega))) (fun _ => ?_)
    refine yX11_readPower_60 (yX11_readPower_61 (yX11_readPower_64 (fun h9 => absurd (ha.2.2.2.1.symm.trans h9) (by decide)) (fun _ => ?_)))
    refine yX11_readPower_67 (yX11_readPower_68 (yX11_readPower_71 (yX11_readPower_73 (yX11_readPower_74 (yX11_readPower_77 (yX11_readPower_78 (yX11_readPower_79 (yX11_readPower_80 (yX11_readPower_81_g (ble rfl) (nn_a ha) (fun v F3 hF => ?_))))))))))
    obtain ⟨x, rfl, a3, hx, k3⟩ := hF
    refine yX11_readPower_84 (ble rfl) (fun _ => rfl) (i := 64 * (12 * u + k) + s) (by rw [s30]; exact ixm 64 _ _) (by omega) ?_
    have pB := (hp.tr (k3.p20 _)).tr (p20.up (i := 64 * (12 * u + k) + s) (v := x) (by omega) (by omega))
    refine yX11_readPower_85 rfl (yX11_readPower_88 ?_)
    match hr : rNum (tkOf T n) q with
    | .error p =>
      rw [hr] at a3
      have hd : mCd (F3.uA 20 (upd (F3.a 20) (64 * (12 * u + k) + s) x)) T n u k tc tn p := ⟨a3, p20_shC pB S0, N0.cK pB.cK⟩
      rw [show rNums (tkOf T n) (m + 1) s f q = .error p by simp only [rNums]; rw [hr]; rfl]
      exact Y_imp (rp_D45 hd) (fun v F' hh => qC.mono pB.cK hh)
    | .ok y =>
      rw [hr] at a3
      have hx := hx y hr
      subst hx
      rw [show rNums (tkOf T n) (m + 1) s f q = rNums (tkOf T n) m (s + 1) (upd f s y.1) y.2 by simp only [rNums]; rw [hr]; rfl, nI_1]
      refine ih (s + 1) (upd f s y.1) _ y.2 (by omega) a3 pB (fun s' h9 => ?_)
      show upd (F3.a 20) (64 * (12 * u + k) + s) y.1 (64 * (12 * u + k) + s') = upd f s y.1 s'
      by_cases e : s' = s
      · subst e; rw [pk_us, pk_us]
      · rw [pk_un (by omega), pk_un e, k3.2.1]; exact hf s' (by omega)
theorem rp_a (h : mCo F T n u k tc tn c q) : yC w (d + 4) mX11_readPower [.ref o] o F (qC F T n u k tc tn (rPower (tkOf T n) c q)) := by
  obtain ⟨hu, hk, s29, s30, _⟩ := h.2.1
  have hw := h.2.2.2.2
  have r := h.2.2.2.1
  refine yC_of (by decide) (ble rfl) (ls := [some (.ref o), none]) rfl ?_
  refine yX11_readPower_0 (yX11_readPower_1 (yX11_readPower_2 (yX11_readPower_5 (yX11_readPower_6 (yX11_readPower_7 (yX11_readPower_10 (yX11_readPower_11 (yX11_readPower_12 (yX11_readPower_13 (ble rfl) rfl (i := 4 * (12 * u + k) + 3) (by rw [s30]; exact ixm 4 _ 3) (by omega) ?_)))))))))
  rw [r.2.2.2.2.2.2.2.2.2.1]
  refine yX11_readPower_14 (fun h9 => ?_) (fun h9 => ?_)
  · refine yX11_readPower_21 (yX11_readPower_22 (ble rfl) n_0 ?_)
    rw [show rPower (tkOf T n) c q = .error (sS T n q) from dmd_f h9]
    exact Y_imp (rp_D h.die) (fun v F' hh => qC.mono (die_kT.cK _) hh)
  · rw [show rPower (tkOf T n) c q = bnd (rNums (tkOf T n) (2 ^ c.i) 0 c.pw (sE T n q)) (fun x => .ok ((c.nm, c.pl, c.pins, c.i, c.o, c.tr, c.am, c.tl, x.1, 1, c.arcs, c.ac), x.2)) from dmd_t h9]
    refine yX11_readPower_17 (yX11_readPower_18 (yX11_readPower_22 (ble rfl) (n_1 h.1.2.2.2.1) (yX11_readPower_25 (yX11_readPower_26 (yX11_readPower_29 (yX11_readPower_30 (yX11_readPower_31 (yX11_readPower_34 (yX11_readPower_35 (yX11_readPower_36 (yX11_readPower_37 (yX11_readPower_38 (ble rfl) (fun _ => rfl) (i := 4 * (12 * u + k) + 3) (by rw [s30]; exact ixm 4 _ 3) (by omega) ?_))))))))))))
    have kA := cK.uA (F := F) (c := 12 * u + k) (r := 16) (i := 4 * (12 * u + k) + 3) (v := vp_nar .boolean 1) (by omega) (by show _ * 4 ≤ _; omega) (by show _ < _ * 4; omega)
    have hA : al (F.uA 16 (upd (F.a 16) (4 * (12 * u + k) + 3) (vp_nar .boolean 1))) T n q ∧ shC (F.uA 16 (upd (F.a 16) (4 * (12 * u + k) + 3) (vp_nar .boolean 1))) u k ∧ tabN (F.uA 16 (upd (F.a 16) (4 * (12 * u + k) + 3) (vp_nar .boolean 1))) u tc tn := ⟨h.1, h.2.1, h.2.2.1⟩
    have rc : ∀ F' f, p20 (F.uA 16 (upd (F.a 16) (4 * (12 * u + k) + 3) (vp_nar .boolean 1))) F' (12 * u + k) → (∀ s, s < 2 ^ c.i → F'.a 20 (64 * (12 * u + k) + s) = f s) → celR F' (12 * u + k) (c.nm, c.pl, c.pins, c.i, c.o, c.tr, c.am, c.tl, f, 1, c.arcs, c.ac) := by
      intro F' f hp hf
      obtain ⟨r1, r3, r4, r5, r6, r7, r8, r9, r10, r11, r12, r13, r14, r15⟩ := r
      unfold celR
      rw [hp.2.1, hp.1 11 (by omega), hp.1 13 (by omega), hp.1 14 (by omega), hp.1 18 (by omega), hp.1 15 (by omega), hp.1 16 (by omega), hp.1 19 (by omega)]
      refine ⟨r1, r3, r4, r5, r6, r7, r8, r9, fun i hi => ?_, ?_, r12, r13, fun z => absurd z (show ¬ (1 : Int32) = 0 by decide), fun _ => hf⟩
      · show upd (F.a 16) (4 * (12 * u + k) + 3) (vp_nar .boolean 1) (4 * (12 * u + k) + i) = c.tl i
        rw [pk_un (by omega)]; exact r10 i hi
      · show upd (F.a 16) (4 * (12 * u + k) + 3) (vp_nar .boolean 1) (4 * (12 * u + k) + 3) = 1
        rw [pk_us]; rfl
    generalize F.uA 16 (upd (F.a 16) (4 * (12 * u + k) + 3) (vp_nar .boolean 1)) = F1 at kA hA rc ⊢
    refine yX11_readPower_39 (yX11_readPower_40_g (ble rfl) (g_a hA.1) (fun v F2 hF => ?_))
    obtain ⟨rfl, a2, k2⟩ := hF
    refine yX11_readPower_43 (yX11_readPower_44 rfl ?_)
    have e13 : F1.a 13 (12 * u + k) = nI c.i := (rc F1 (fun s => F1.a 20 (64 * (12 * u + k) + s)) p20.rf (fun _ _ => rfl)).2.2.1
    have W : wC tc (c.nm, c.pl, c.pins, c.i, c.o, c.tr, c.am, c.tl, c.pw, 1, c.arcs, c.ac) := by
      obtain ⟨w1, w2, w3, w4, w5, w6, w7, w8, w9⟩ := hw
      exact ⟨w1, w2, w3, w4, w5, Or.inr rfl, w7, w8, w9⟩
    have L := rp_L (w := w) (d := d) (o := o) (T := T) (n := n) hw.1 hA.2.1 hA.2.2 e13 W rc (2 ^ c.i) 0 c.pw F2 (sE T n q) (by omega) a2 (k2.p20 _) (fun s' h9 => by omega)
    rw [nI_0] at L
    exact Y_imp L (fun v F' hh => qC.mono kA hh)
end M5
