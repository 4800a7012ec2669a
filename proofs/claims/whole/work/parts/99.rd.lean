section RD
variable {w : xWd} {d : Nat} {P P1 P2 : xH} {b S n q k : Nat} {T : Nat → Int32} {t : tSt} {L : liT}
theorem upC_u {c c' : ceT} : upC (upC L k c) k c' = upC L k c' := by
  unfold upC
  show (L.tc, L.tn, L.ts, L.cc, upT (upT L.cs k c) k c') = _
  rw [upT_u]
theorem upC_id {c : ceT} (h : L.cs k = c) : upC L k c = L := by
  unfold upC
  rw [← h, upT_id]
theorem upC_s {c : ceT} : (upC L k c).cs k = c := upT_s
theorem rP.cell (h : rP w P b S T n q t L) (hk : k < 12) : pC P (S + 76 + 7 * k) (L.cs k) ∧ (L.cs k).i ≤ 6 ∧ (L.cs k).o ≤ 3 ∧ (L.cs k).ac ≤ 10 := ⟨h.2.2.2.2.1.2.2 k hk, h.2.2.2.2.2.2.2.2.2.2.2.2.1 k hk⟩
theorem r_pin {c : ceT} (hc : L.cs k = c) (hk : k < 12) (h9 : c.i + c.o < 9) (h : rP w P b S T n q t L) : xC w (d + 3) mX5_takeNewPin [.ref (b + 162), .ref (S + 76 + 7 * k)] P (rO w b S T n P (bnd (rPin (tkOf T n) c q) (fun x => .ok (none, x.2, t, upC L k x.1)))) := by
  obtain ⟨hR, hW, _, _, _, _, _, _, hr, _⟩ := id h
  obtain ⟨hp, hi, ho, ha⟩ := h.cell hk
  rw [hc] at hp hi ho ha
  obtain ⟨nm, pl, pins, i, o, tr, am, tl, pw, pt, arcs, ac⟩ := c
  have hO : P.1 (S + 76 + 7 * k) = some (cO (S + 76 + 7 * k) nm pl i o pt ac) := hp.1
  have h9 : i + o < 9 := h9
  refine xC_of (by decide) (ble rfl) (ls := [some (.ref (b + 162)), some (.ref (S + 76 + 7 * k)), none, none]) rfl ?_
  refine sX5_takeNewPin_0 (sX5_takeNewPin_1 (by assumption) (by rfl) (sX5_takeNewPin_4 (ble rfl) hW (w_name h) (sX5_takeNewPin_7 rfl (sX5_takeNewPin_8 (sX5_takeNewPin_9 (sX5_takeNewPin_10 (sX5_takeNewPin_11 (fun z => ?_) (fun z => ?_))))))))
  · rw [lg_cmp_eq] at z
    rw [show rPin (tkOf T n) (nm, pl, pins, i, o, tr, am, tl, pw, pt, arcs, ac) q = .error (sS T n q) from dmd_f (fun y => y.1 z)]
    refine sX5_takeNewPin_27 (sX5_takeNewPin_28_t (ble rfl) (c_dem0 hr) (rE.mk' h rF.rf))
  rw [lg_cmp_eq] at z
  refine sX5_takeNewPin_14 (sX5_takeNewPin_15 (sX5_takeNewPin_16 (ble rfl) hO (c_pinNamed (sN T n q) hO hp.2.1 hi ho) (sX5_takeNewPin_19 (sX5_takeNewPin_20 (fun y => ?_) (fun y => ?_)))))
  · rw [show rPin (tkOf T n) (nm, pl, pins, i, o, tr, am, tl, pw, pt, arcs, ac) q = .error (sS T n q) from dmd_f (fun x => y x.2)]
    refine sX5_takeNewPin_27 (sX5_takeNewPin_28_t (ble rfl) (c_dem0 hr) (rE.mk' h rF.rf))
  rw [show rPin (tkOf T n) (nm, pl, pins, i, o, tr, am, tl, pw, pt, arcs, ac) q = .ok ((nm, pl, uL pins (i + o) (sN T n q), i, o, tr, am, tl, pw, pt, arcs, ac), sE T n q) from dmd_t ⟨z, y⟩]
  refine sX5_takeNewPin_23 (sX5_takeNewPin_24 (sX5_takeNewPin_28 (ble rfl) (c_dem1 (by decide)) (sX5_takeNewPin_31 (sX5_takeNewPin_32 (by assumption) (by rfl) (sX5_takeNewPin_35 (sX5_takeNewPin_36 (by assumption) (by rfl) (sX5_takeNewPin_39 (sX5_takeNewPin_40 (by assumption) (by rfl) (sX5_takeNewPin_43 ?_)))))))))
  rw [nI_add]
  refine sX5_takeNewPin_44 (sX5_takeNewPin_45 hp.2.1 (vp_in_nI h9 (by omega)) ?_)
  rw [nI_clamp (by omega)]
  obtain ⟨h1, F1⟩ := h.ce (k := k) hk (hp.r1 (f := uL pins (i + o) (sN T n q))) (same.rf.xs (by omega) (by omega)) ⟨hi, ho, ha⟩
  have hR1 := h1.1
  have hW1 := h1.2.1
  refine sX5_takeNewPin_46 (sX5_takeNewPin_47 (by assumption) (by rfl) (sX5_takeNewPin_50_r (ble rfl) hW1 (w_step h1) (fun P2 h2 => ?_)))
  refine sX5_takeNewPin_53 ⟨rfl, h2.1, F1.tr h2.2⟩
theorem r_inp {c : ceT} (hc : L.cs k = c) (hk : k < 12) (h : rP w P b S T n q t L) : xC w (d + 4) mX5_readInput [.ref (b + 162), .ref (S + 76 + 7 * k)] P (rO w b S T n P (bnd (rInp (tkOf T n) c q) (fun x => .ok (none, x.2, t, upC L k x.1)))) := by
  obtain ⟨hR, hW, _, _, _, _, _, _, hr, _⟩ := id h
  obtain ⟨hp, hi, ho, ha⟩ := h.cell hk
  rw [hc] at hp hi ho ha
  have hO := hp.1
  refine xC_of (by decide) (ble rfl) (ls := [some (.ref (b + 162)), some (.ref (S + 76 + 7 * k))]) rfl ?_
  have E1 : ¬ (c.o = 0 ∧ c.pt = 0) → X w mX5_readInput (d + 4) (rO w b S T n P (bnd (rInp (tkOf T n) c q) (fun x => .ok (none, x.2, t, upC L k x.1)))) 18 [some (.ref (b + 162)), some (.ref (S + 76 + 7 * k))] [] P := by
    intro z
    rw [show rInp (tkOf T n) c q = .error (sS T n q) from dmd_f z]
    refine sX5_readInput_18 (sX5_readInput_19_t (ble rfl) (c_dem0 hr) (rE.mk' h rF.rf))
  refine sX5_readInput_0 (sX5_readInput_1 (by assumption) (by rfl) (sX5_readInput_4 (fun z => ?_) (fun z => ?_)))
  · exact E1 (fun y => z (by rw [y.1]; rfl))
  have z : c.o = 0 := (nI_eq (b := 0) (by omega) (by omega)).mp z
  refine sX5_readInput_7 (sX5_readInput_8 (by assumption) (by rfl) (sX5_readInput_11 (fun y => ?_) (fun y => ?_)))
  · exact E1 (fun x => y x.2)
  rw [show rInp (tkOf T n) c q = dmd (c.i < 6) (sS T n (sE T n q)) (bnd (rPin (tkOf T n) c (sE T n q)) (fun x => .ok ((x.1.nm, x.1.pl, x.1.pins, x.1.i + 1, x.1.o, x.1.tr, x.1.am, x.1.tl, x.1.pw, x.1.pt, x.1.arcs, x.1.ac), x.2))) from dmd_t ⟨z, y⟩]
  clear E1
  refine sX5_readInput_14 (sX5_readInput_15 (sX5_readInput_19 (ble rfl) (c_dem1 (by decide)) (sX5_readInput_22 (sX5_readInput_23 (by assumption) (by rfl) (sX5_readInput_26_r (ble rfl) hW (w_step h) (fun P1 h1 => ?_))))))
  obtain ⟨h1, F1⟩ := h1
  generalize sE T n q = q1 at h1 ⊢
  obtain ⟨hp1, _⟩ := h1.cell hk
  rw [hc] at hp1
  have hO1 := hp1.1
  refine sX5_readInput_29 (sX5_readInput_30 (by assumption) (by rfl) (sX5_readInput_33 (sX5_readInput_35 (fun x => ?_) (fun x => ?_))))
  · have x : ¬ c.i < 6 := fun y => absurd x (nI_ge (b := 6) y (by omega))
    rw [dmd_f x]
    refine sX5_readInput_42 (sX5_readInput_43_t (ble rfl) (c_dem0 h1.2.2.2.2.2.2.2.2.1) (rE.mk' h1 F1))
  have x : c.i < 6 := by
    rcases Nat.lt_or_ge c.i 6 with y | y
    · exact y
    · exact absurd (nI_le (a := 6) y (by omega)) x
  rw [dmd_t x]
  have hR1 := h1.1
  refine sX5_readInput_38 (sX5_readInput_39 (sX5_readInput_43 (ble rfl) (c_dem1 (by decide)) ?_))
  match hr2 : rPin (tkOf T n) c q1 with
  | .error s =>
    refine sX5_readInput_46 (sX5_readInput_47 (sX5_readInput_48_g (ble rfl) hR1 (rO_er (r_pin hc hk (by omega) h1) (s := s) (by rw [hr2]; rfl)) (fun _ _ z => (rE.no z).elim) (fun _ _ z => Xt_out rfl (z.up F1))))
  | .ok y' =>
    refine sX5_readInput_46 (sX5_readInput_47 (sX5_readInput_48_r (ble rfl) hR1 (rO_ok (r_pin hc hk (by omega) h1) (x := (none, y'.2, t, upC L k y'.1)) (by rw [hr2]; rfl)) (fun P2 h2 => ?_)))
    obtain ⟨h2, F2⟩ := h2
    have h2 : rP w P2 b S T n y'.2 t (upC L k y'.1) := h2
    obtain ⟨hp2, hi2, ho2, ha2⟩ := h2.cell hk
    rw [upC_s] at hp2 hi2 ho2 ha2
    have ey : y'.1.i = c.i := by
      obtain ⟨_, e⟩ := dmd_ok hr2
      cases e
      rfl
    show X w mX5_readInput (d + 4) (rO w b S T n P (.ok (none, y'.2, t, upC L k (y'.1.nm, y'.1.pl, y'.1.pins, y'.1.i + 1, y'.1.o, y'.1.tr, y'.1.am, y'.1.tl, y'.1.pw, y'.1.pt, y'.1.arcs, y'.1.ac)))) 51 _ _ _
    obtain ⟨⟨nm, pl, pins, i, o, tr, am, tl, pw, pt, arcs, ac⟩, q2⟩ := y'
    have hO2 : P2.1 (S + 76 + 7 * k) = some (cO (S + 76 + 7 * k) nm pl i o pt ac) := hp2.1
    have ey : i = c.i := ey
    refine sX5_readInput_51 (sX5_readInput_52 rfl (sX5_readInput_53 (by assumption) (by rfl) (sX5_readInput_56 (sX5_readInput_57 ?_))))
    rw [nI_1]
    obtain ⟨h3, F3⟩ := h2.ce (k := k) hk (hp2.obj (nm' := nm) (pl' := pl) (i' := i + 1) (o' := o) (pt' := pt) (ac' := ac)) (same.rf.xs (by omega) (by omega)) ⟨by show i + 1 ≤ 6; omega, ho2, ha2⟩
    rw [upC_u] at h3
    refine sX5_readInput_58 hO2 (ble rfl) (sX5_readInput_61 ⟨rfl, h3, (F1.tr F2).tr F3⟩)
theorem r_outN {c : ceT} (hc : L.cs k = c) (hk : k < 12) (h : rP w P b S T n q t L) : xC w (d + 6) mX5_readOutputName [.ref (b + 162), .ref (S + 76 + 7 * k)] P (rO w b S T n P (bnd (rOutN (tkOf T n) c q) (fun x => .ok (none, x.2, t, upC L k x.1)))) := by
  obtain ⟨hR, hW, _, _, _, _, _, _, hr, _⟩ := id h
  refine xC_of (by decide) (ble rfl) (ls := [some (.ref (b + 162)), some (.ref (S + 76 + 7 * k))]) rfl ?_
  refine sX5_readOutputName_0 (sX5_readOutputName_1 (by assumption) (by rfl) (sX5_readOutputName_4_r (ble rfl) hW (w_step h) (fun P1 h1 => ?_)))
  obtain ⟨h1, F1⟩ := h1
  rw [show rOutN (tkOf T n) c q = dmd (c.o < 3) (sS T n (sE T n q)) (bnd (rPin (tkOf T n) c (sE T n q)) (fun x => bnd (rSign (tkOf T n) 9 x.2) (fun q2 => .ok (x.1, q2)))) from rfl]
  generalize sE T n q = q1 at h1 ⊢
  obtain ⟨hp1, hi, ho, ha⟩ := h1.cell hk
  rw [hc] at hp1 hi ho ha
  have hO1 := hp1.1
  have hR1 := h1.1
  refine sX5_readOutputName_7 (sX5_readOutputName_8 (by assumption) (by rfl) (sX5_readOutputName_11 (sX5_readOutputName_12 (fun x => ?_) (fun x => ?_))))
  · have x : ¬ c.o < 3 := fun y => absurd x (nI_ge (b := 3) y (by omega))
    rw [dmd_f x]
    refine sX5_readOutputName_19 (sX5_readOutputName_20_t (ble rfl) (c_dem0 h1.2.2.2.2.2.2.2.2.1) (rE.mk' h1 F1))
  have x : c.o < 3 := by
    rcases Nat.lt_or_ge c.o 3 with y | y
    · exact y
    · exact absurd (nI_le (a := 3) y (by omega)) x
  rw [dmd_t x]
  refine sX5_readOutputName_15 (sX5_readOutputName_16 (sX5_readOutputName_20 (ble rfl) (c_dem1 (by decide)) ?_))
  match hr2 : rPin (tkOf T n) c q1 with
  | .error s =>
    refine sX5_readOutputName_23 (sX5_readOutputName_24 (sX5_readOutputName_25_g (ble rfl) hR1 (rO_er (r_pin hc hk (by omega) h1) (s := s) (by rw [hr2]; rfl)) (fun _ _ z => (rE.no z).elim) (fun _ _ z => Xt_out rfl (z.up F1))))
  | .ok y' =>
    refine sX5_readOutputName_23 (sX5_readOutputName_24 (sX5_readOutputName_25_r (ble rfl) hR1 (rO_ok (r_pin hc hk (by omega) h1) (x := (none, y'.2, t, upC L k y'.1)) (by rw [hr2]; rfl)) (fun P2 h2 => ?_)))
    obtain ⟨h2, F2⟩ := h2
    have h2 : rP w P2 b S T n y'.2 t (upC L k y'.1) := h2
    show X w mX5_readOutputName (d + 6) (rO w b S T n P (bnd (bnd (rSign (tkOf T n) 9 y'.2) (fun q2 => .ok (y'.1, q2))) (fun x => .ok (none, x.2, t, upC L k x.1)))) 28 _ _ _
    match hs : rSign (tkOf T n) 9 y'.2 with
    | .error s =>
      refine sX5_readOutputName_28 (sX5_readOutputName_29 (sX5_readOutputName_31_g (ble rfl) h2.1 (rO_er (r_sign (i := 9) h2 (by decide)) (s := s) (by rw [hs]; rfl)) (fun _ _ z => (rE.no z).elim) (fun _ _ z => Xt_out rfl (z.up (F1.tr F2)))))
    | .ok q4 =>
      refine sX5_readOutputName_28 (sX5_readOutputName_29 (sX5_readOutputName_31_r (ble rfl) h2.1 (rO_ok (r_sign (i := 9) h2 (by decide)) (x := (none, q4, t, upC L k y'.1)) (by rw [hs]; rfl)) (fun P4 h4 => ?_)))
      refine sX5_readOutputName_34 ⟨rfl, h4.1, (F1.tr F2).tr h4.2⟩
theorem r_am {c : ceT} {j : Nat} (hj : j < 3) (hc : L.cs k = c) (hk : k < 12) (h : rP w P b S T n q t L) : xC w (d + 3) mX5_readAmount [.ref (b + 162), .ref (S + 76 + 7 * k), .int (nI j)] P (rO w b S T n P (bnd (rAmount (tkOf T n) c j q) (fun x => .ok (none, x.2, t, upC L k x.1)))) := by
  obtain ⟨hR, hW, _, _, _, _, _, _, hr, _⟩ := id h
  obtain ⟨hp, hi, ho, ha⟩ := h.cell hk
  rw [hc] at hp hi ho ha
  obtain ⟨nm, pl, pins, i, o, tr, am, tl, pw, pt, arcs, ac⟩ := c
  have hO := hp.1
  have hv : vp_in (nI j) 3 := vp_in_nI hj (by omega)
  have hcl : (nI j).toNatClampNeg = j := nI_clamp (by omega)
  refine xC_of (by decide) (ble rfl) (ls := [some (.ref (b + 162)), some (.ref (S + 76 + 7 * k)), some (.int (nI j))]) rfl ?_
  refine sX5_readAmount_0 (sX5_readAmount_1 (by assumption) (by rfl) (sX5_readAmount_4 (sX5_readAmount_5 hp.2.2.2.2.1 hv ?_)))
  rw [hcl]
  refine sX5_readAmount_6 (fun z => ?_) (fun z => ?_)
  · rw [show rAmount (tkOf T n) (nm, pl, pins, i, o, tr, am, tl, pw, pt, arcs, ac) j q = .error (sS T n q) from dmd_f z]
    refine sX5_readAmount_13 (sX5_readAmount_14_t (ble rfl) (c_dem0 hr) (rE.mk' h rF.rf))
  rw [show rAmount (tkOf T n) (nm, pl, pins, i, o, tr, am, tl, pw, pt, arcs, ac) j q = bnd (rNum (tkOf T n) (sE T n q)) (fun x => .ok ((nm, pl, pins, i, o, tr, upd am j x.1, upd tl j 1, pw, pt, arcs, ac), x.2)) from dmd_t z]
  refine sX5_readAmount_9 (sX5_readAmount_10 (sX5_readAmount_14 (ble rfl) (c_dem1 (by decide)) (sX5_readAmount_17 (sX5_readAmount_18 (by assumption) (by rfl) (sX5_readAmount_21_r (ble rfl) hW (w_step h) (fun P1 h1 => ?_))))))
  obtain ⟨h1, F1⟩ := h1
  generalize sE T n q = q1 at h1 ⊢
  obtain ⟨hp1, _⟩ := h1.cell hk
  rw [hc] at hp1
  have hO1 := hp1.1
  have hR1 := h1.1
  match hr2 : rNum (tkOf T n) q1 with
  | .error s =>
    refine sX5_readAmount_24 (sX5_readAmount_25 (by assumption) (by rfl) (sX5_readAmount_28 (sX5_readAmount_29 (sX5_readAmount_30_g (ble rfl) hR1 (rO_er (r_num h1) (s := s) (by rw [hr2]; rfl)) (fun _ _ z => (rE.no z).elim) (fun _ _ z => Xt_out rfl (z.up F1))))))
  | .ok x =>
    refine sX5_readAmount_24 (sX5_readAmount_25 (by assumption) (by rfl) (sX5_readAmount_28 (sX5_readAmount_29 (sX5_readAmount_30_r (ble rfl) hR1 (rO_ok (r_num h1) (x := (some (.int x.1), x.2, t, L)) (by rw [hr2]; rfl)) (fun P2 h2 => ?_)))))
    obtain ⟨h2, F2⟩ := h2
    have h2 : rP w P2 b S T n x.2 t L := h2
    obtain ⟨hp2, _⟩ := h2.cell hk
    rw [hc] at hp2
    refine sX5_readAmount_33 hp2.2.2.2.1 hv ?_
    rw [hcl]
    have hp3 := hp2.r3 (f := upd am j x.1)
    have hO3 := hp3.1
    refine sX5_readAmount_34 (sX5_readAmount_35 (by assumption) (by rfl) (sX5_readAmount_38 (sX5_readAmount_39 (sX5_readAmount_40 hp3.2.2.2.2.1 hv ?_))))
    rw [hcl, nar1]
    have hp4 := hp3.r4 (f := upd tl j 1)
    obtain ⟨h3, F3⟩ := h2.ce (k := k) hk hp4 ((same.rf.xs (by omega) (by omega)).xs (by omega) (by omega)) ⟨hi, ho, ha⟩
    refine sX5_readAmount_41 ⟨rfl, h3, (F1.tr F2).tr F3⟩
theorem r_pw {c : ceT} (hc : L.cs k = c) (hk : k < 12) (h : rP w P b S T n q t L) : xC w (d + 4) mX5_readPowers [.ref (b + 162), .ref (S + 76 + 7 * k)] P (rO w b S T n P (bnd (rPower (tkOf T n) c q) (fun x => .ok (none, x.2, t, upC L k x.1)))) := by
  obtain ⟨hR, hW, _, _, _, _, _, _, hr, _⟩ := id h
  obtain ⟨hp, hi, ho, ha⟩ := h.cell hk
  rw [hc] at hp hi ho ha
  obtain ⟨nm, pl, pins, i, o, tr, am, tl, pw, pt, arcs, ac⟩ := c
  have hO := hp.1
  have hi : i ≤ 6 := hi
  have p6 : 2 ^ i ≤ 64 := Nat.pow_le_pow_right (n := 2) (by omega) hi
  refine xC_of (by decide) (ble rfl) (ls := [some (.ref (b + 162)), some (.ref (S + 76 + 7 * k))]) rfl ?_
  refine sX5_readPowers_0 (sX5_readPowers_1 (by assumption) (by rfl) (sX5_readPowers_4 (fun z => ?_) (fun z => ?_)))
  · rw [show rPower (tkOf T n) (nm, pl, pins, i, o, tr, am, tl, pw, pt, arcs, ac) q = .error (sS T n q) from dmd_f z]
    refine sX5_readPowers_11 (sX5_readPowers_12_t (ble rfl) (c_dem0 hr) (rE.mk' h rF.rf))
  rw [show rPower (tkOf T n) (nm, pl, pins, i, o, tr, am, tl, pw, pt, arcs, ac) q = bnd (rNums (tkOf T n) (2 ^ i) 0 pw (sE T n q)) (fun x => .ok ((nm, pl, pins, i, o, tr, am, tl, x.1, 1, arcs, ac), x.2)) from dmd_t z]
  refine sX5_readPowers_7 (sX5_readPowers_8 (sX5_readPowers_12 (ble rfl) (c_dem1 (by decide)) (sX5_readPowers_15 (sX5_readPowers_16 (by assumption) (by rfl) (sX5_readPowers_19_r (ble rfl) hW (w_step h) (fun P1 h1 => ?_))))))
  obtain ⟨h1, F1⟩ := h1
  generalize sE T n q = q1 at h1 ⊢
  obtain ⟨hp1, _⟩ := h1.cell hk
  rw [hc] at hp1
  have hO1 := hp1.1
  have hR1 := h1.1
  have row : rRow w b S T n t (S + 76 + 7 * k + 5) 64 (fun f => upC L k (nm, pl, pins, i, o, tr, am, tl, f, pt, arcs, ac)) := by
    intro P q f hh
    obtain ⟨g1, g2⟩ := hh.cell hk
    rw [upC_s] at g1 g2
    refine ⟨g1.2.2.2.2.2.1, fun f' => ?_⟩
    have := hh.ce (k := k) hk (g1.r5 (f := f')) (same.rf.xs (by omega) (by omega)) g2
    rw [upC_u] at this
    exact this
  have h1' : rP w P1 b S T n q1 t (upC L k (nm, pl, pins, i, o, tr, am, tl, pw, pt, arcs, ac)) := by rw [upC_id hc]; exact h1
  refine sX5_readPowers_22 (sX5_readPowers_23 (sX5_readPowers_24 (by assumption) (by rfl) (sX5_readPowers_27 (sX5_readPowers_28 (ble rfl) hO1 (c_states hO1 hi) ?_))))
  match hr2 : rNums (tkOf T n) (2 ^ i) 0 pw q1 with
  | .error s =>
    refine sX5_readPowers_31_g (ble rfl) hR1 (rO_er (r_nums row (f := pw) (by omega) p6 h1') (s := s) (by rw [hr2]; rfl)) (fun _ _ z => (rE.no z).elim) (fun _ _ z => Xt_out rfl (z.up F1))
  | .ok x =>
    refine sX5_readPowers_31_r (ble rfl) hR1 (rO_ok (r_nums row (f := pw) (by omega) p6 h1') (x := (none, x.2, t, upC L k (nm, pl, pins, i, o, tr, am, tl, x.1, pt, arcs, ac))) (by rw [hr2]; rfl)) (fun P2 h2 => ?_)
    obtain ⟨h2, F2⟩ := h2
    have h2 : rP w P2 b S T n x.2 t (upC L k (nm, pl, pins, i, o, tr, am, tl, x.1, pt, arcs, ac)) := h2
    obtain ⟨hp2, hb2⟩ := h2.cell hk
    rw [upC_s] at hp2 hb2
    have hO2 := hp2.1
    obtain ⟨h3, F3⟩ := h2.ce (k := k) hk (hp2.obj (nm' := nm) (pl' := pl) (i' := i) (o' := o) (pt' := 1) (ac' := ac)) (same.rf.xs (by omega) (by omega)) hb2
    rw [upC_u] at h3
    refine sX5_readPowers_34 (sX5_readPowers_35 (sX5_readPowers_36 hO2 (ble rfl) (Or.inr rfl) (sX5_readPowers_39 ⟨rfl, h3, (F1.tr F2).tr F3⟩)))
end RD
