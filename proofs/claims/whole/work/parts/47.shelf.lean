section CellW
variable {w : xWd} {d : Nat} {P : xH}
theorem xs_c {P : xH} {a b : Nat} {e e' : xE} (h : a ≠ b) : xs (xs P a e) b e' = xs (xs P b e') a e := by
  unfold xs
  refine Prod.ext ?_ rfl
  funext q
  by_cases h1 : q = a <;> by_cases h2 : q = b <;> simp [va_up, h1, h2] <;> (try omega) <;> (intro; omega)
/-- a cell's values: name, place, pins, inputs, outputs, truths, amounts, told, powers, power told, arcs, arc count -/
abbrev ceT : Type := Int64 × Int32 × (Nat → Int64) × Nat × Nat × (Nat → Int64) × (Nat → Int32) × (Nat → Int32) × (Nat → Int32) × Int32 × (Nat → Int32) × Nat
abbrev ceT.nm (c : ceT) : Int64 := c.1
abbrev ceT.pl (c : ceT) : Int32 := c.2.1
abbrev ceT.pins (c : ceT) : Nat → Int64 := c.2.2.1
abbrev ceT.i (c : ceT) : Nat := c.2.2.2.1
abbrev ceT.o (c : ceT) : Nat := c.2.2.2.2.1
abbrev ceT.tr (c : ceT) : Nat → Int64 := c.2.2.2.2.2.1
abbrev ceT.am (c : ceT) : Nat → Int32 := c.2.2.2.2.2.2.1
abbrev ceT.tl (c : ceT) : Nat → Int32 := c.2.2.2.2.2.2.2.1
abbrev ceT.pw (c : ceT) : Nat → Int32 := c.2.2.2.2.2.2.2.2.1
abbrev ceT.pt (c : ceT) : Int32 := c.2.2.2.2.2.2.2.2.2.1
abbrev ceT.arcs (c : ceT) : Nat → Int32 := c.2.2.2.2.2.2.2.2.2.2.1
abbrev ceT.ac (c : ceT) : Nat := c.2.2.2.2.2.2.2.2.2.2.2
def pC (P : xH) (a : Nat) (c : ceT) : Prop := P.1 a = some (cO a c.nm c.pl c.i c.o c.pt c.ac) ∧ P.1 (a + 1) = some (xJ 9 c.pins) ∧ P.1 (a + 2) = some (xJ 3 c.tr) ∧ P.1 (a + 3) = some (xA 0 3 c.am) ∧ P.1 (a + 4) = some (xA 3 3 c.tl) ∧ P.1 (a + 5) = some (xA 0 64 c.pw) ∧ P.1 (a + 6) = some (xA 0 50 c.arcs)
theorem pC.same {P P1 : xH} {a lo hi : Nat} {c : ceT} (h : pC P a c) (hs : same P P1 lo hi) (hd : a + 6 < lo ∨ hi ≤ a) : pC P1 a c :=
  ⟨hs.get (by omega) h.1, hs.get (by omega) h.2.1, hs.get (by omega) h.2.2.1, hs.get (by omega) h.2.2.2.1, hs.get (by omega) h.2.2.2.2.1, hs.get (by omega) h.2.2.2.2.2.1, hs.get (by omega) h.2.2.2.2.2.2⟩
variable {a : Nat} {nm : Int64} {pl pt : Int32} {pins tr : Nat → Int64} {i o ac : Nat} {am tl pw arcs : Nat → Int32}
theorem pC.obj {nm' : Int64} {pl' pt' : Int32} {i' o' ac' : Nat} (h : pC P a (nm, pl, pins, i, o, tr, am, tl, pw, pt, arcs, ac)) : pC (xs P a (cO a nm' pl' i' o' pt' ac')) a (nm', pl', pins, i', o', tr, am, tl, pw, pt', arcs, ac') :=
  ⟨xs_s, xs_n (by omega) h.2.1, xs_n (by omega) h.2.2.1, xs_n (by omega) h.2.2.2.1, xs_n (by omega) h.2.2.2.2.1, xs_n (by omega) h.2.2.2.2.2.1, xs_n (by omega) h.2.2.2.2.2.2⟩
theorem pC.r1 {f : Nat → Int64} (h : pC P a (nm, pl, pins, i, o, tr, am, tl, pw, pt, arcs, ac)) : pC (xs P (a + 1) (xJ 9 f)) a (nm, pl, f, i, o, tr, am, tl, pw, pt, arcs, ac) :=
  ⟨xs_n (by omega) h.1, xs_s, xs_n (by omega) h.2.2.1, xs_n (by omega) h.2.2.2.1, xs_n (by omega) h.2.2.2.2.1, xs_n (by omega) h.2.2.2.2.2.1, xs_n (by omega) h.2.2.2.2.2.2⟩
theorem pC.r2 {f : Nat → Int64} (h : pC P a (nm, pl, pins, i, o, tr, am, tl, pw, pt, arcs, ac)) : pC (xs P (a + 2) (xJ 3 f)) a (nm, pl, pins, i, o, f, am, tl, pw, pt, arcs, ac) :=
  ⟨xs_n (by omega) h.1, xs_n (by omega) h.2.1, xs_s, xs_n (by omega) h.2.2.2.1, xs_n (by omega) h.2.2.2.2.1, xs_n (by omega) h.2.2.2.2.2.1, xs_n (by omega) h.2.2.2.2.2.2⟩
theorem pC.r3 {f : Nat → Int32} (h : pC P a (nm, pl, pins, i, o, tr, am, tl, pw, pt, arcs, ac)) : pC (xs P (a + 3) (xA 0 3 f)) a (nm, pl, pins, i, o, tr, f, tl, pw, pt, arcs, ac) :=
  ⟨xs_n (by omega) h.1, xs_n (by omega) h.2.1, xs_n (by omega) h.2.2.1, xs_s, xs_n (by omega) h.2.2.2.2.1, xs_n (by omega) h.2.2.2.2.2.1, xs_n (by omega) h.2.2.2.2.2.2⟩
theorem pC.r4 {f : Nat → Int32} (h : pC P a (nm, pl, pins, i, o, tr, am, tl, pw, pt, arcs, ac)) : pC (xs P (a + 4) (xA 3 3 f)) a (nm, pl, pins, i, o, tr, am, f, pw, pt, arcs, ac) :=
  ⟨xs_n (by omega) h.1, xs_n (by omega) h.2.1, xs_n (by omega) h.2.2.1, xs_n (by omega) h.2.2.2.1, xs_s, xs_n (by omega) h.2.2.2.2.2.1, xs_n (by omega) h.2.2.2.2.2.2⟩
theorem pC.r5 {f : Nat → Int32} (h : pC P a (nm, pl, pins, i, o, tr, am, tl, pw, pt, arcs, ac)) : pC (xs P (a + 5) (xA 0 64 f)) a (nm, pl, pins, i, o, tr, am, tl, f, pt, arcs, ac) :=
  ⟨xs_n (by omega) h.1, xs_n (by omega) h.2.1, xs_n (by omega) h.2.2.1, xs_n (by omega) h.2.2.2.1, xs_n (by omega) h.2.2.2.2.1, xs_s, xs_n (by omega) h.2.2.2.2.2.2⟩
theorem pC.r6 {f : Nat → Int32} (h : pC P a (nm, pl, pins, i, o, tr, am, tl, pw, pt, arcs, ac)) : pC (xs P (a + 6) (xA 0 50 f)) a (nm, pl, pins, i, o, tr, am, tl, pw, pt, f, ac) :=
  ⟨xs_n (by omega) h.1, xs_n (by omega) h.2.1, xs_n (by omega) h.2.2.1, xs_n (by omega) h.2.2.2.1, xs_n (by omega) h.2.2.2.2.1, xs_n (by omega) h.2.2.2.2.2.1, xs_s⟩
def z3 (f : Nat → Int32) : Nat → Int32 := upd (upd (upd f 0 0) 1 0) 2 0
theorem vin3 : vp_in (0 : Int32) 3 ∧ vp_in (0 + 1 : Int32) 3 ∧ vp_in (0 + 1 + 1 : Int32) 3 := by unfold vp_in; decide

theorem c_cbegin (nm' : Int64) (pl' : Int32) (h : pC P a (nm, pl, pins, i, o, tr, am, tl, pw, pt, arcs, ac)) : xC w d mX1_begin [.ref a, .long nm', .int pl'] P (xRl none (fun P1 => pC P1 a (nm', pl', pins, 0, 0, tr, z3 am, z3 tl, pw, 0, arcs, 0) ∧ same P P1 a (a + 7))) := by
  refine xC_of (by decide) (ble rfl) (ls := [some (.ref a), some (.long nm'), none, some (.int pl'), none]) rfl ?_
  refine sX1_begin_0 (sX1_begin_1 (sX1_begin_2 h.1 (ble rfl) ?_))
  refine sX1_begin_5 (sX1_begin_6 (sX1_begin_7 xs_s (ble rfl) ?_))
  rw [xs_xs]
  refine sX1_begin_10 (sX1_begin_11 (sX1_begin_12 xs_s (ble rfl) ?_))
  rw [xs_xs]
  refine sX1_begin_15 (sX1_begin_16 (sX1_begin_17 xs_s (ble rfl) ?_))
  rw [xs_xs]
  refine sX1_begin_20 (sX1_begin_21 (sX1_begin_22 xs_s (ble rfl) ?_))
  rw [xs_xs]
  refine sX1_begin_25 (sX1_begin_26 (sX1_begin_27 xs_s (ble rfl) (Or.inl rfl) ?_))
  rw [xs_xs]
  have h1 : pC (xs P a (cO a nm' pl' 0 0 0 0)) a (nm', pl', pins, 0, 0, tr, am, tl, pw, 0, arcs, 0) := h.obj
  have hs : same P (xs P a (cO a nm' pl' 0 0 0 0)) a (a + 7) := same.rf.xs (by omega) (by omega)
  show X w mX1_begin d _ 30 _ _ (xs P a (cO a nm' pl' 0 0 0 0))
  generalize xs P a (cO a nm' pl' 0 0 0 0) = P1 at h1 hs
  refine sX1_begin_30 (sX1_begin_31 rfl (sX1_begin_33 (sX1_begin_35 (sX1_begin_36 h1.1 rfl ?_))))
  refine sX1_begin_39 (Or.inl rfl) h1.2.2.2.1 (sX1_begin_40 (fun h9 => absurd h9 (by decide)) (fun _ => ?_))
  refine sX1_begin_43 (sX1_begin_44 h1.1 rfl (sX1_begin_47 (sX1_begin_49 (sX1_begin_50 h1.2.2.2.1 vin3.1 ?_))))
  have h2 := h1.r3 (f := upd am 0 0)
  refine sX1_begin_51 (sX1_begin_52 h2.1 rfl (sX1_begin_55 (sX1_begin_57 (sX1_begin_58 h2.2.2.2.2.1 vin3.1 ?_))))
  have h3 := h2.r4 (f := upd tl 0 0)
  refine sX1_begin_59 rfl (sX1_begin_62 (sX1_begin_33 (sX1_begin_35 (sX1_begin_36 h3.1 rfl (sX1_begin_39 (Or.inl rfl) h3.2.2.2.1 (sX1_begin_40 (fun h9 => absurd h9 (by decide)) (fun _ => ?_)))))))
  refine sX1_begin_43 (sX1_begin_44 h3.1 rfl (sX1_begin_47 (sX1_begin_49 (sX1_begin_50 h3.2.2.2.1 vin3.2.1 ?_))))
  have h4 := h3.r3 (f := upd (upd am 0 0) 1 0)
  refine sX1_begin_51 (sX1_begin_52 h4.1 rfl (sX1_begin_55 (sX1_begin_57 (sX1_begin_58 h4.2.2.2.2.1 vin3.2.1 ?_))))
  have h5 := h4.r4 (f := upd (upd tl 0 0) 1 0)
  refine sX1_begin_59 rfl (sX1_begin_62 (sX1_begin_33 (sX1_begin_35 (sX1_begin_36 h5.1 rfl (sX1_begin_39 (Or.inl rfl) h5.2.2.2.1 (sX1_begin_40 (fun h9 => absurd h9 (by decide)) (fun _ => ?_)))))))
  refine sX1_begin_43 (sX1_begin_44 h5.1 rfl (sX1_begin_47 (sX1_begin_49 (sX1_begin_50 h5.2.2.2.1 vin3.2.2 ?_))))
  have h6 := h5.r3 (f := z3 am)
  refine sX1_begin_51 (sX1_begin_52 h6.1 rfl (sX1_begin_55 (sX1_begin_57 (sX1_begin_58 h6.2.2.2.2.1 vin3.2.2 ?_))))
  have h7 := h6.r4 (f := z3 tl)
  refine sX1_begin_59 rfl (sX1_begin_62 (sX1_begin_33 (sX1_begin_35 (sX1_begin_36 h7.1 rfl (sX1_begin_39 (Or.inl rfl) h7.2.2.2.1 (sX1_begin_40 (fun _ => ?_) (fun h9 => absurd (by decide) h9)))))))
  refine sX1_begin_65 ⟨rfl, h7, (((((hs.xs (by omega) (by omega)).xs (by omega) (by omega)).xs (by omega) (by omega)).xs (by omega) (by omega)).xs (by omega) (by omega)).xs (by omega) (by omega)⟩
def adA (arcs : Nat → Int32) (ac : Nat) (x y s r f : Int32) : Nat → Int32 := upd (upd (upd (upd (upd arcs (ac * 5) x) (ac * 5 + 1) y) (ac * 5 + 2) s) (ac * 5 + 3) r) (ac * 5 + 4) f
theorem c_addArc (x y s r f : Int32) (h : pC P a (nm, pl, pins, i, o, tr, am, tl, pw, pt, arcs, ac)) (hac : ac < 10) : xC w d mX1_addArc [.ref a, .int x, .int y, .int s, .int r, .int f] P (xRl none (fun P1 => pC P1 a (nm, pl, pins, i, o, tr, am, tl, pw, pt, adA arcs ac x y s r f, ac + 1) ∧ same P P1 a (a + 7))) := by
  refine xC_of (by decide) (ble rfl) (ls := [some (.ref a), some (.int x), some (.int y), some (.int s), some (.int r), some (.int f), none]) rfl ?_
  have hs : same P P a (a + 7) := same.rf
  refine sX1_addArc_0 (sX1_addArc_1 h.1 rfl (sX1_addArc_4 (sX1_addArc_5 ?_)))
  rw [show nI ac * (5 : Int32) = nI (ac * 5) from pk_mul ac 5]
  refine sX1_addArc_6 rfl (sX1_addArc_8 (sX1_addArc_9 h.1 rfl (sX1_addArc_12 (sX1_addArc_14 (sX1_addArc_15 ?_)))))
  rw [show nI (ac * 5) + 0 = nI (ac * 5) from nI_add (ac * 5) 0]
  refine sX1_addArc_16 (sX1_addArc_17 h.2.2.2.2.2.2 (vp_in_nI (by omega) (by omega)) ?_)
  rw [nI_clamp (by omega)]
  have h1 := h.r6 (f := upd arcs (ac * 5) x)
  refine sX1_addArc_18 (sX1_addArc_19 h1.1 rfl (sX1_addArc_22 (sX1_addArc_24 (sX1_addArc_25 ?_))))
  rw [show nI (ac * 5) + 1 = nI (ac * 5 + 1) from nI_add (ac * 5) 1]
  refine sX1_addArc_26 (sX1_addArc_27 h1.2.2.2.2.2.2 (vp_in_nI (by omega) (by omega)) ?_)
  rw [nI_clamp (by omega), xs_xs]
  have h1 := h.r6 (f := upd (upd arcs (ac * 5) x) (ac * 5 + 1) y)
  refine sX1_addArc_28 (sX1_addArc_29 h1.1 rfl (sX1_addArc_32 (sX1_addArc_34 (sX1_addArc_35 ?_))))
  rw [show nI (ac * 5) + 2 = nI (ac * 5 + 2) from nI_add (ac * 5) 2]
  refine sX1_addArc_36 (sX1_addArc_37 h1.2.2.2.2.2.2 (vp_in_nI (by omega) (by omega)) ?_)
  rw [nI_clamp (by omega), xs_xs]
  have h1 := h.r6 (f := upd (upd (upd arcs (ac * 5) x) (ac * 5 + 1) y) (ac * 5 + 2) s)
  refine sX1_addArc_38 (sX1_addArc_39 h1.1 rfl (sX1_addArc_42 (sX1_addArc_44 (sX1_addArc_45 ?_))))
  rw [show nI (ac * 5) + 3 = nI (ac * 5 + 3) from nI_add (ac * 5) 3]
  refine sX1_addArc_46 (sX1_addArc_48 h1.2.2.2.2.2.2 (vp_in_nI (by omega) (by omega)) ?_)
  rw [nI_clamp (by omega), xs_xs]
  have h1 := h.r6 (f := upd (upd (upd (upd arcs (ac * 5) x) (ac * 5 + 1) y) (ac * 5 + 2) s) (ac * 5 + 3) r)
  refine sX1_addArc_49 (sX1_addArc_50 h1.1 rfl (sX1_addArc_53 (sX1_addArc_55 (sX1_addArc_56 ?_))))
  rw [show nI (ac * 5) + 4 = nI (ac * 5 + 4) from nI_add (ac * 5) 4]
  refine sX1_addArc_57 (sX1_addArc_59 h1.2.2.2.2.2.2 (vp_in_nI (by omega) (by omega)) ?_)
  rw [nI_clamp (by omega), xs_xs]
  have h1 := h.r6 (f := adA arcs ac x y s r f)
  refine sX1_addArc_60 (sX1_addArc_61 rfl (sX1_addArc_62 h1.1 rfl (sX1_addArc_65 (sX1_addArc_66 ?_))))
  rw [nI_1]
  refine sX1_addArc_67 h1.1 (ble rfl) (sX1_addArc_70 ⟨rfl, h1.obj, (hs.xs (by omega) (by omega)).xs (by omega) (by omega)⟩)
def cmb (d1 d2 : Int32) (n1 n2 : Int64) : Int32 := if d1 = d2 then (if n1 < n2 then 1 else 0) else (if d1 < d2 then 1 else 0)
theorem c_comesBefore {b : Nat} {c1 c2 : ceT} (h1 : pC P a c1) (h2 : pC P b c2) : xC w d mX1_comesBefore [.ref a, .ref b] P (xRet (some (.int (cmb (c1.am 0) (c2.am 0) c1.nm c2.nm))) P) := by
  have v0 : vp_in (0 : Int32) 3 := vin3.1
  refine xC_of (by decide) (ble rfl) (ls := [some (.ref a), some (.ref b)]) rfl ?_
  refine sX1_comesBefore_0 (sX1_comesBefore_1 h1.1 rfl (sX1_comesBefore_4 (sX1_comesBefore_5 h1.2.2.2.1 v0 (sX1_comesBefore_6 (sX1_comesBefore_7 h2.1 rfl (sX1_comesBefore_10 (sX1_comesBefore_11 h2.2.2.2.1 v0 (sX1_comesBefore_12 (fun h12 => ?_) (fun h12 => ?_)))))))))
  · refine sX1_comesBefore_36 (sX1_comesBefore_37 h1.1 rfl (sX1_comesBefore_40 (sX1_comesBefore_41 h2.1 rfl (sX1_comesBefore_44 (sX1_comesBefore_45 (fun h45 => ?_) (fun h45 => ?_))))))
    · refine sX1_comesBefore_52 (sX1_comesBefore_53 (by first | exact Or.inl rfl | exact Or.inr rfl) ?_)
      refine ⟨?_, rfl⟩; (try simp only [lg_cmp_ge] at *); unfold cmb; (have e0 : (0 : Int32).toNatClampNeg = 0 := rfl); rw [e0] at *; first | (simp only [*, if_true, if_false]; done) | (simp [*]; done) | grind
    · refine sX1_comesBefore_48 (sX1_comesBefore_49 (sX1_comesBefore_53 (by first | exact Or.inl rfl | exact Or.inr rfl) ?_))
      refine ⟨?_, rfl⟩; (try simp only [lg_cmp_ge] at *); unfold cmb; (have e0 : (0 : Int32).toNatClampNeg = 0 := rfl); rw [e0] at *; first | (simp only [*, if_true, if_false]; done) | (simp [*]; done) | grind
  · refine sX1_comesBefore_15 (sX1_comesBefore_16 h1.1 rfl (sX1_comesBefore_19 (sX1_comesBefore_20 h1.2.2.2.1 v0 (sX1_comesBefore_21 (sX1_comesBefore_22 h2.1 rfl (sX1_comesBefore_25 (sX1_comesBefore_26 h2.2.2.2.1 v0 (sX1_comesBefore_27 (fun h27 => ?_) (fun h27 => ?_)))))))))
    · refine sX1_comesBefore_34 (sX1_comesBefore_35 (by first | exact Or.inl rfl | exact Or.inr rfl) ?_)
      refine ⟨?_, rfl⟩; (try simp only [lg_cmp_ge] at *); unfold cmb; (have e0 : (0 : Int32).toNatClampNeg = 0 := rfl); rw [e0] at *; first | (simp only [*, if_true, if_false]; done) | (simp [*]; done) | grind
    · refine sX1_comesBefore_30 (sX1_comesBefore_31 (sX1_comesBefore_35 (by first | exact Or.inl rfl | exact Or.inr rfl) ?_))
      refine ⟨?_, rfl⟩; (try simp only [lg_cmp_ge] at *); unfold cmb; (have e0 : (0 : Int32).toNatClampNeg = 0 := rfl); rw [e0] at *; first | (simp only [*, if_true, if_false]; done) | (simp [*]; done) | grind
end CellW
