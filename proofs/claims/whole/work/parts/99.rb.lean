section RB
variable {w : xWd} {d : Nat} {P P1 P2 : xH} {b S n q : Nat} {T : Nat → Int32} {t : tSt} {L : liT}
def upB (L : liT) (k : Nat) (x : taT) : liT := (L.tc, L.tn, upT L.ts k x, L.cc, L.cs)
theorem rP.tb {k : Nat} {x : taT} (h : rP w P b S T n q t L) (hk : k < 12) (hp : pBx P1 (S + 4 + 6 * k) x) (hs : same P P1 (S + 4 + 6 * k) (S + 4 + 6 * k + 6)) (hw : x.2.1 ≤ 4 ∧ x.2.2.2.1 ≤ 4) : rP w P1 b S T n q t (upB L k x) ∧ rF P P1 b S := by
  have K : ∀ a, ¬ (S + 4 + 6 * k ≤ a ∧ a < S + 4 + 6 * k + 6) → P1.1 a = P.1 a := hs.2
  obtain ⟨h1, h2, h3, h4, h5, h6, h7, h8, h9, h10, h11⟩ := id h
  refine h.sh ⟨h5.1.cg (fun i a c => K _ (by omega)), fun j hj => ?_, fun j hj => (h5.2.2 j hj).cg (fun i a c => K _ (by omega))⟩ hs.1 (fun a ha => K a (by omega)) ⟨h11.1, h11.2.1, h11.2.2.1, fun j hj => ?_⟩
  · show pBx P1 (S + 4 + 6 * j) (upT L.ts k x j)
    by_cases e : j = k
    · subst e; rw [upT_s]; exact hp
    · rw [upT_n e]; exact (h5.2.1 j hj).cg (fun i a c => K _ (by omega))
  · show (upT L.ts k x j).2.1 ≤ 4 ∧ (upT L.ts k x j).2.2.2.1 ≤ 4
    by_cases e : j = k
    · subst e; rw [upT_s]; exact hw
    · rw [upT_n e]; exact h11.2.2.2 j hj
/-- a row of numbers that is a part of the shelf -/
def rRow (w : xWd) (b S : Nat) (T : Nat → Int32) (n : Nat) (t : tSt) (ra m : Nat) (Lf : (Nat → Int32) → liT) : Prop := ∀ P q f, rP w P b S T n q t (Lf f) → P.1 ra = some (xA 0 m f) ∧ ∀ f', rP w (xs P ra (xA 0 m f')) b S T n q t (Lf f') ∧ rF P (xs P ra (xA 0 m f')) b S
theorem r_nums {ra m sz : Nat} {Lf : (Nat → Int32) → liT} {f : Nat → Int32} (hL : rRow w b S T n t ra m Lf) (hm : m < 2 ^ 31) (hs : sz ≤ m) (h : rP w P b S T n q t (Lf f)) : xC w (d + 3) mX5_readNumbers [.ref (b + 162), .ref ra, .int (nI sz)] P (rO w b S T n P (bnd (rNums (tkOf T n) sz 0 f q) (fun x => .ok (none, x.2, t, Lf x.1)))) := by
  refine xC_of (by decide) (ble rfl) (ls := [some (.ref (b + 162)), some (.ref ra), some (.int (nI sz)), none]) rfl ?_
  have Lp : ∀ k i f q P1, i + k = sz → rP w P1 b S T n q t (Lf f) → rF P P1 b S → X w mX5_readNumbers (d + 3) (rO w b S T n P (bnd (rNums (tkOf T n) k i f q) (fun x => .ok (none, x.2, t, Lf x.1)))) 2 [some (.ref (b + 162)), some (.ref ra), some (.int (nI sz)), some (.int (nI i))] [] P1 := by
    intro k
    induction k with
    | zero =>
      intro i f q P1 hi h1 hF
      refine sX5_readNumbers_2 (sX5_readNumbers_3 (sX5_readNumbers_4 (fun _ => ?_) (fun h9 => absurd (nI_le (by omega) (by omega)) h9)))
      refine sX5_readNumbers_20 ⟨rfl, h1, hF⟩
    | succ k ih =>
      intro i f q P1 hi h1 hF
      have hR := h1.1
      refine sX5_readNumbers_2 (sX5_readNumbers_3 (sX5_readNumbers_4 (fun h9 => absurd h9 (nI_ge (by omega) (by omega))) (fun _ => ?_)))
      match hr : rNum (tkOf T n) q with
      | .error s =>
        rw [show rNums (tkOf T n) (k + 1) i f q = .error s by simp only [rNums]; rw [hr]; rfl]
        refine sX5_readNumbers_7 (sX5_readNumbers_8 (sX5_readNumbers_9 (sX5_readNumbers_10_g (ble rfl) hR (rO_er (r_num h1) (s := s) (by rw [hr]; rfl)) (fun _ _ z => (rE.no z).elim) (fun _ _ z => Xt_out rfl (z.up hF)))))
      | .ok x =>
        rw [show rNums (tkOf T n) (k + 1) i f q = rNums (tkOf T n) k (i + 1) (upd f i x.1) x.2 by simp only [rNums]; rw [hr]; rfl]
        refine sX5_readNumbers_7 (sX5_readNumbers_8 (sX5_readNumbers_9 (sX5_readNumbers_10_r (ble rfl) hR (rO_ok (r_num h1) (x := (some (.int x.1), x.2, t, Lf f)) (by rw [hr]; rfl)) (fun P2 h2 => ?_))))
        obtain ⟨hA, hU⟩ := hL _ _ _ h2.1
        refine sX5_readNumbers_13 hA (vp_in_nI (by omega) (by omega)) ?_
        rw [nI_clamp (by omega)]
        refine sX5_readNumbers_14 rfl (sX5_readNumbers_17 ?_)
        rw [nI_1]
        have hU := hU (upd f i x.1)
        exact ih (i + 1) _ _ _ (by omega) hU.1 ((hF.tr h2.2).tr hU.2)
  refine sX5_readNumbers_0 (sX5_readNumbers_1 rfl ?_)
  exact Lp sz 0 f q P (by omega) h rF.rf
/-- an axis that is a part of the shelf -/
def rAxs (w : xWd) (b S : Nat) (T : Nat → Int32) (n : Nat) (t : tSt) (aa : Nat) (Lf : (Nat → Int32) → Nat → liT) : Prop := ∀ P q f z, rP w P b S T n q t (Lf f z) → pA P aa f z ∧ z ≤ 4 ∧ (∀ f', rP w (xs P (aa + 1) (xA 0 4 f')) b S T n q t (Lf f' z) ∧ rF P (xs P (aa + 1) (xA 0 4 f')) b S) ∧ ∀ z', z' ≤ 4 → rP w (xs P aa (aO aa z')) b S T n q t (Lf f z') ∧ rF P (xs P aa (aO aa z')) b S
theorem r_axis {aa z : Nat} {Lf : (Nat → Int32) → Nat → liT} {f : Nat → Int32} (hL : rAxs w b S T n t aa Lf) (h : rP w P b S T n q t (Lf f z)) : xC w (d + 2) mX5_readAxis [.ref (b + 162), .ref aa] P (rO w b S T n P (bnd (rAxis (tkOf T n) f q) (fun x => .ok (none, x.2.2, t, Lf x.1 x.2.1)))) := by
  refine xC_of (by decide) (ble rfl) (ls := [some (.ref (b + 162)), some (.ref aa), none, none]) rfl ?_
  have Fin : ∀ k f q P1 (l2 l3 : Option Value), rP w P1 b S T n q t (Lf f k) → rF P P1 b S → X w mX5_readAxis (d + 2) (rO w b S T n P (bnd (dmd (0 < k) (sS T n q) (.ok (f, k, q))) (fun x => .ok (none, x.2.2, t, Lf x.1 x.2.1)))) 82 [some (.ref (b + 162)), some (.ref aa), l2, l3] [] P1 := by
    intro k f q P1 l2 l3 h1 hF
    obtain ⟨⟨hA, _⟩, hk4, _⟩ := hL _ _ _ _ h1
    refine sX5_readAxis_82 (sX5_readAxis_83 (by assumption) (by rfl) (sX5_readAxis_86 (fun h9 => ?_) (fun h9 => ?_)))
    · have h9 : ¬ 0 < k := by
        have := (nI_leI (b := 0) (by omega) (by omega)).mp h9
        omega
      rw [dmd_f h9]
      refine sX5_readAxis_93 (sX5_readAxis_94_t (ble rfl) (c_dem0 h1.2.2.2.2.2.2.2.2.1) (rE.mk' h1 hF))
    · have h9 : 0 < k := Nat.pos_of_ne_zero (fun z => h9 (by rw [z]; decide))
      rw [dmd_t h9]
      refine sX5_readAxis_89 (sX5_readAxis_90 (sX5_readAxis_94 (ble rfl) (c_dem1 (by decide)) (sX5_readAxis_97 ⟨rfl, h1, hF⟩)))
  have Lp : ∀ m k f q P1 (l3 : Option Value), k + m = 4 → rP w P1 b S T n q t (Lf f k) → rF P P1 b S → X w mX5_readAxis (d + 2) (rO w b S T n P (bnd (rAxF (tkOf T n) m k f q) (fun x => .ok (none, x.2.2, t, Lf x.1 x.2.1)))) 7 [some (.ref (b + 162)), some (.ref aa), some (.int (nI k)), l3] [] P1 := by
    intro m
    induction m with
    | zero =>
      intro k f q P1 l3 hk h1 hF
      refine sX5_readAxis_7 (sX5_readAxis_8 (sX5_readAxis_9 (fun _ => ?_) (fun h9 => absurd (nI_le (a := 4) (by omega) (by omega)) h9)))
      exact Fin k f q P1 _ _ h1 hF
    | succ m ih =>
      intro k f q P1 l3 hk h1 hF
      obtain ⟨hR, hW, _, _, _, _, h7, _, hr, _⟩ := id h1
      obtain ⟨⟨hA, hN⟩, _, hU, hZ⟩ := hL _ _ _ _ h1
      have h4 := sK_le T h7
      refine sX5_readAxis_7 (sX5_readAxis_8 (sX5_readAxis_9 (fun h9 => absurd h9 (nI_ge (b := 4) (by omega) (by omega))) (fun _ => ?_)))
      refine sX5_readAxis_12 (sX5_readAxis_13 (by assumption) (by rfl) (sX5_readAxis_16 (by assumption) (by rfl) (sX5_readAxis_19 (sX5_readAxis_20 (fun h9 => ?_) (fun h9 => ?_)))))
      · have h9 : ¬ sK T n q = 2 := fun z => h9 (by rw [z]; rfl)
        rw [show rAxF (tkOf T n) (m + 1) k f q = dmd (0 < k) (sS T n q) (.ok (f, k, q)) by
          show bnd (rAx (tkOf T n) (m + 1) k f q) _ = _
          rw [show rAx (tkOf T n) (m + 1) k f q = .ok (f, k, q) from if_neg h9]
          rfl]
        exact Fin k f q P1 _ _ h1 hF
      · have h9 : sK T n q = 2 := (nI_eq (b := 2) (by omega) (by omega)).mp h9
        rw [show rAxF (tkOf T n) (m + 1) k f q = dmd (k = 0 ∨ f (k - 1) < sV T n q) (sS T n q) (rAxF (tkOf T n) m (k + 1) (upd f k (sV T n q)) (sE T n q)) by
          show bnd (rAx (tkOf T n) (m + 1) k f q) _ = _
          rw [show rAx (tkOf T n) (m + 1) k f q = dmd (k = 0 ∨ f (k - 1) < sV T n q) (sS T n q) (rAx (tkOf T n) m (k + 1) (upd f k (sV T n q)) (sE T n q)) from if_pos h9]
          by_cases y : k = 0 ∨ f (k - 1) < sV T n q
          · rw [dmd_t y, dmd_t y]; rfl
          · rw [dmd_f y, dmd_f y]; rfl]
        refine sX5_readAxis_23 (sX5_readAxis_24 (by assumption) (by rfl) (sX5_readAxis_27 (ble rfl) hW (w_number h1) (sX5_readAxis_30 rfl ?_)))
        have G : (k = 0 ∨ f (k - 1) < sV T n q) → X w mX5_readAxis (d + 2) (rO w b S T n P (bnd (dmd (k = 0 ∨ f (k - 1) < sV T n q) (sS T n q) (rAxF (tkOf T n) m (k + 1) (upd f k (sV T n q)) (sE T n q))) (fun x => .ok (none, x.2.2, t, Lf x.1 x.2.1)))) 47 [some (.ref (b + 162)), some (.ref aa), some (.int (nI k)), some (.int (sV T n q))] [] P1 := by
          intro hg
          rw [dmd_t hg]
          refine sX5_readAxis_47 (sX5_readAxis_48 (sX5_readAxis_52 (ble rfl) (c_dem1 (by decide)) (sX5_readAxis_55 (sX5_readAxis_56 (by assumption) (by rfl) (sX5_readAxis_59 (sX5_readAxis_60 (sX5_readAxis_61 hN (vp_in_nI (by omega) (by omega)) ?_)))))))
          rw [nI_clamp (by omega)]
          have hU := hU (upd f k (sV T n q))
          obtain ⟨⟨hA2, hN2⟩, _, _, hZ2⟩ := hL _ _ _ _ hU.1
          refine sX5_readAxis_62 (sX5_readAxis_63 (sX5_readAxis_64 (sX5_readAxis_65 ?_)))
          rw [nI_1]
          refine sX5_readAxis_66 hA2 (ble rfl) ?_
          have hZ := hZ2 (k + 1) (by omega)
          have hR3 := hZ.1.1
          have hW3 := hZ.1.2.1
          refine sX5_readAxis_69 (sX5_readAxis_70 (by assumption) (by rfl) (sX5_readAxis_73_r (ble rfl) hW3 (w_step hZ.1) (fun P3 h3 => ?_)))
          refine sX5_readAxis_76 rfl (sX5_readAxis_79 ?_)
          rw [nI_1]
          exact ih (k + 1) _ _ P3 _ (by omega) h3.1 (((hF.tr hU.2).tr hZ.2).tr h3.2)
        have B : ¬ (k = 0 ∨ f (k - 1) < sV T n q) → X w mX5_readAxis (d + 2) (rO w b S T n P (bnd (dmd (k = 0 ∨ f (k - 1) < sV T n q) (sS T n q) (rAxF (tkOf T n) m (k + 1) (upd f k (sV T n q)) (sE T n q))) (fun x => .ok (none, x.2.2, t, Lf x.1 x.2.1)))) 51 [some (.ref (b + 162)), some (.ref aa), some (.int (nI k)), some (.int (sV T n q))] [] P1 := by
          intro hg
          rw [dmd_f hg]
          refine sX5_readAxis_51 (sX5_readAxis_52_t (ble rfl) (c_dem0 hr) (rE.mk' h1 hF))
        refine sX5_readAxis_31 (sX5_readAxis_32 (fun h8 => ?_) (fun h8 => ?_))
        · exact G (Or.inl ((nI_eq (b := 0) (by omega) (by omega)).mp h8))
        · have h8 : 0 < k := Nat.pos_of_ne_zero (fun z => h8 (by rw [z]; rfl))
          refine sX5_readAxis_35 (sX5_readAxis_36 (sX5_readAxis_37 (by assumption) (by rfl) (sX5_readAxis_40 (sX5_readAxis_41 (sX5_readAxis_42 ?_)))))
          rw [show nI k - 1 = nI (k - 1) from pk_sub (b := 1) h8]
          refine sX5_readAxis_43 hN (vp_in_nI (by omega) (by omega)) ?_
          rw [nI_clamp (by omega)]
          refine sX5_readAxis_44 (fun h6 => ?_) (fun h6 => ?_)
          · exact B (fun z => by rcases z with z | z; omega; grind)
          · exact G (Or.inr (by grind))
  obtain ⟨⟨hA, _⟩, _, _, hZ⟩ := hL _ _ _ _ h
  have hZ := hZ 0 (by omega)
  refine sX5_readAxis_0 (sX5_readAxis_1 (sX5_readAxis_2 hA (ble rfl) (sX5_readAxis_5 (sX5_readAxis_6 rfl ?_))))
  exact Lp 4 0 f q _ none rfl hZ.1 hZ.2
theorem tb_sl {k : Nat} {x : taT} (hk : k < 12) : rAxs w b S T n t (S + 4 + 6 * k + 1) (fun f z => upB L k (f, z, x.2.2.1, x.2.2.2.1, x.2.2.2.2)) := by
  intro P q f z h
  have hb := h.2.2.2.2.1.2.1 k hk
  have hw := h.2.2.2.2.2.2.2.2.2.2.2.2.2 k hk
  rw [show (upB L k (f, z, x.2.2.1, x.2.2.2.1, x.2.2.2.2)).ts k = (f, z, x.2.2.1, x.2.2.2.1, x.2.2.2.2) from upT_s] at hb hw
  obtain ⟨h0, ⟨h1, h2⟩, ⟨h3, h4⟩, h5⟩ := id hb
  have e : ∀ y, upB (upB L k (f, z, x.2.2.1, x.2.2.2.1, x.2.2.2.2)) k y = upB L k y := fun y => by unfold upB; show (L.tc, L.tn, upT (upT L.ts k _) k y, L.cc, L.cs) = _; rw [upT_u]
  refine ⟨⟨h1, h2⟩, hw.1, fun f' => ?_, fun z' hz' => ?_⟩
  · have := h.tb hk (P1 := xs P (S + 4 + 6 * k + 1 + 1) (xA 0 4 f')) (x := (f', z, x.2.2.1, x.2.2.2.1, x.2.2.2.2)) ⟨xs_n (by omega) h0, ⟨xs_n (by omega) h1, xs_s⟩, ⟨xs_n (by omega) h3, xs_n (by omega) h4⟩, xs_n (by omega) h5⟩ (same.rf.xs (by omega) (by omega)) hw
    rw [e] at this
    exact this
  · have := h.tb hk (P1 := xs P (S + 4 + 6 * k + 1) (aO (S + 4 + 6 * k + 1) z')) (x := (f, z', x.2.2.1, x.2.2.2.1, x.2.2.2.2)) ⟨xs_n (by omega) h0, ⟨xs_s, xs_n (by omega) h2⟩, ⟨xs_n (by omega) h3, xs_n (by omega) h4⟩, xs_n (by omega) h5⟩ (same.rf.xs (by omega) (by omega)) ⟨hz', hw.2⟩
    rw [e] at this
    exact this
theorem tb_ld {k : Nat} {x : taT} (hk : k < 12) : rAxs w b S T n t (S + 4 + 6 * k + 3) (fun f z => upB L k (x.1, x.2.1, f, z, x.2.2.2.2)) := by
  intro P q f z h
  have hb := h.2.2.2.2.1.2.1 k hk
  have hw := h.2.2.2.2.2.2.2.2.2.2.2.2.2 k hk
  rw [show (upB L k (x.1, x.2.1, f, z, x.2.2.2.2)).ts k = (x.1, x.2.1, f, z, x.2.2.2.2) from upT_s] at hb hw
  obtain ⟨h0, ⟨h1, h2⟩, ⟨h3, h4⟩, h5⟩ := id hb
  have e : ∀ y, upB (upB L k (x.1, x.2.1, f, z, x.2.2.2.2)) k y = upB L k y := fun y => by unfold upB; show (L.tc, L.tn, upT (upT L.ts k _) k y, L.cc, L.cs) = _; rw [upT_u]
  refine ⟨⟨h3, h4⟩, hw.2, fun f' => ?_, fun z' hz' => ?_⟩
  · have := h.tb hk (P1 := xs P (S + 4 + 6 * k + 3 + 1) (xA 0 4 f')) (x := (x.1, x.2.1, f', z, x.2.2.2.2)) ⟨xs_n (by omega) h0, ⟨xs_n (by omega) h1, xs_n (by omega) h2⟩, ⟨xs_n (by omega) h3, xs_s⟩, xs_n (by omega) h5⟩ (same.rf.xs (by omega) (by omega)) hw
    rw [e] at this
    exact this
  · have := h.tb hk (P1 := xs P (S + 4 + 6 * k + 3) (aO (S + 4 + 6 * k + 3) z')) (x := (x.1, x.2.1, f, z', x.2.2.2.2)) ⟨xs_n (by omega) h0, ⟨xs_n (by omega) h1, xs_n (by omega) h2⟩, ⟨xs_s, xs_n (by omega) h4⟩, xs_n (by omega) h5⟩ (same.rf.xs (by omega) (by omega)) ⟨hw.1, hz'⟩
    rw [e] at this
    exact this
theorem tb_vl {k : Nat} {x : taT} (hk : k < 12) : rRow w b S T n t (S + 4 + 6 * k + 5) 16 (fun f => upB L k (x.1, x.2.1, x.2.2.1, x.2.2.2.1, f)) := by
  intro P q f h
  have hb := h.2.2.2.2.1.2.1 k hk
  have hw := h.2.2.2.2.2.2.2.2.2.2.2.2.2 k hk
  rw [show (upB L k (x.1, x.2.1, x.2.2.1, x.2.2.2.1, f)).ts k = (x.1, x.2.1, x.2.2.1, x.2.2.2.1, f) from upT_s] at hb hw
  obtain ⟨h0, ⟨h1, h2⟩, ⟨h3, h4⟩, h5⟩ := id hb
  have e : ∀ y, upB (upB L k (x.1, x.2.1, x.2.2.1, x.2.2.2.1, f)) k y = upB L k y := fun y => by unfold upB; show (L.tc, L.tn, upT (upT L.ts k _) k y, L.cc, L.cs) = _; rw [upT_u]
  refine ⟨h5, fun f' => ?_⟩
  have := h.tb hk (P1 := xs P (S + 4 + 6 * k + 5) (xA 0 16 f')) (x := (x.1, x.2.1, x.2.2.1, x.2.2.2.1, f')) ⟨xs_n (by omega) h0, ⟨xs_n (by omega) h1, xs_n (by omega) h2⟩, ⟨xs_n (by omega) h3, xs_n (by omega) h4⟩, xs_s⟩ (same.rf.xs (by omega) (by omega)) hw
  rw [e] at this
  exact this
end RB
