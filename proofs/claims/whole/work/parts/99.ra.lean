section RA
variable {w : xWd} {d : Nat} {P P1 P2 : xH} {b S n q : Nat} {T : Nat → Int32} {t : tSt} {L : liT}
def pBx (P : xH) (a : Nat) (x : taT) : Prop := pB P a x.1 x.2.1 x.2.2.1 x.2.2.2.1 x.2.2.2.2
def pSh (P : xH) (S : Nat) (L : liT) : Prop := pS P S L.tn L.tc L.cc ∧ (∀ k, k < 12 → pBx P (S + 4 + 6 * k) (L.ts k)) ∧ ∀ k, k < 12 → pC P (S + 76 + 7 * k) (L.cs k)
theorem pBx.cg {a : Nat} {x : taT} (h : pBx P a x) (k : ∀ i, a ≤ i → i < a + 6 → P1.1 i = P.1 i) : pBx P1 a x := by
  obtain ⟨h0, ⟨h1, h2⟩, ⟨h3, h4⟩, h5⟩ := h
  exact ⟨(k _ (by omega) (by omega)).trans h0, ⟨(k _ (by omega) (by omega)).trans h1, (k _ (by omega) (by omega)).trans h2⟩, ⟨(k _ (by omega) (by omega)).trans h3, (k _ (by omega) (by omega)).trans h4⟩, (k _ (by omega) (by omega)).trans h5⟩
theorem pC.cg {a : Nat} {x : ceT} (h : pC P a x) (k : ∀ i, a ≤ i → i < a + 7 → P1.1 i = P.1 i) : pC P1 a x := by
  obtain ⟨h0, h1, h2, h3, h4, h5, h6⟩ := h
  exact ⟨(k _ (by omega) (by omega)).trans h0, (k _ (by omega) (by omega)).trans h1, (k _ (by omega) (by omega)).trans h2, (k _ (by omega) (by omega)).trans h3, (k _ (by omega) (by omega)).trans h4, (k _ (by omega) (by omega)).trans h5, (k _ (by omega) (by omega)).trans h6⟩
theorem pS.cg {tn : Nat → Int64} {tc cc : Nat} (h : pS P S tn tc cc) (k : ∀ i, S ≤ i → i < S + 4 → P1.1 i = P.1 i) : pS P1 S tn tc cc := by
  obtain ⟨h0, h1, h2, h3⟩ := h
  exact ⟨(k _ (by omega) (by omega)).trans h0, (k _ (by omega) (by omega)).trans h1, (k _ (by omega) (by omega)).trans h2, (k _ (by omega) (by omega)).trans h3⟩
theorem pSh.cg (h : pSh P S L) (k : ∀ i, S ≤ i → i < S + 160 → P1.1 i = P.1 i) : pSh P1 S L :=
  ⟨h.1.cg (fun i a c => k i a (by omega)), fun j hj => (h.2.1 j hj).cg (fun i a c => k i (by omega) (by omega)), fun j hj => (h.2.2 j hj).cg (fun i a c => k i (by omega) (by omega))⟩
theorem pT.cg {a : Nat} (h : pT P a t) (k : ∀ i, a ≤ i → i < a + 5 → P1.1 i = P.1 i) : pT P1 a t := by
  obtain ⟨h0, h1, h2, h3, h4⟩ := h
  exact ⟨(k _ (by omega) (by omega)).trans h0, (k _ (by omega) (by omega)).trans h1, (k _ (by omega) (by omega)).trans h2, (k _ (by omega) (by omega)).trans h3, (k _ (by omega) (by omega)).trans h4⟩
/-- bounds of what lies on a shelf -/
def wS (L : liT) : Prop := L.tc ≤ 12 ∧ L.cc ≤ 12 ∧ (∀ k, k < 12 → (L.cs k).i ≤ 6 ∧ (L.cs k).o ≤ 3 ∧ (L.cs k).ac ≤ 10) ∧ ∀ k, k < 12 → (L.ts k).2.1 ≤ 4 ∧ (L.ts k).2.2.2.1 ≤ 4
/-- the reader stands at q, with these terms and this shelf -/
def rP (w : xWd) (P : xH) (b S : Nat) (T : Nat → Int32) (n q : Nat) (t : tSt) (L : liT) : Prop :=
  P.1 (b + 162) = some (xO 3 [.ref (b + 163), .ref (b + 165), .ref S]) ∧ P.1 (b + 163) = some (wO (b + 1) n (nI (sS T n q)) (nI (sE T n q)) (nI (sK T n q))) ∧ P.1 (b + 1) = some (xA 2 1400 T) ∧ pT P (b + 165) t ∧ pSh P S L ∧ n ≤ 1400 ∧ q ≤ n ∧ (S = b + 2 ∨ S = b + 170) ∧ (P.2.1 + 1 ≤ w.z + 601024 ∧ P.2.2 + 6 ≤ 7293034) ∧ t.1 ≤ 16 ∧ wS L
/-- only words, terms and the shelf are different -/
def rF (P P1 : xH) (b S : Nat) : Prop := P1.2 = P.2 ∧ ∀ a, ¬ (a = b + 163 ∨ (b + 165 ≤ a ∧ a < b + 170) ∨ (S ≤ a ∧ a < S + 160)) → P1.1 a = P.1 a
theorem rF.rf : rF P P b S := ⟨rfl, fun _ _ => rfl⟩
theorem rF.tr (h : rF P P1 b S) (h2 : rF P1 P2 b S) : rF P P2 b S := ⟨h2.1.trans h.1, fun a ha => (h2.2 a ha).trans (h.2 a ha)⟩
theorem rP.wd {q' : Nat} (h : rP w P b S T n q t L) (hq : q' ≤ n) : rP w (xs P (b + 163) (wO (b + 1) n (nI (sS T n q')) (nI (sE T n q')) (nI (sK T n q')))) b S T n q' t L ∧ rF P (xs P (b + 163) (wO (b + 1) n (nI (sS T n q')) (nI (sE T n q')) (nI (sK T n q')))) b S := by
  obtain ⟨h1, h2, h3, h4, h5, h6, h7, h8, h9, h10⟩ := h
  have k : ∀ a, a ≠ b + 163 → (xs P (b + 163) (wO (b + 1) n (nI (sS T n q')) (nI (sE T n q')) (nI (sK T n q')))).1 a = P.1 a := fun a ha => xs_n ha rfl
  refine ⟨⟨(k _ (by omega)).trans h1, xs_s, (k _ (by omega)).trans h3, h4.cg (fun i a c => k _ (by omega)), h5.cg (fun i a c => k _ (by omega)), h6, hq, h8, h9, h10⟩, rfl, fun a ha => k a (by omega)⟩
theorem rP.tm {t' : tSt} (h : rP w P b S T n q t L) (hp : pT P1 (b + 165) t') (hs : same P P1 (b + 165) (b + 165 + 5)) (ht : t'.1 ≤ 16) : rP w P1 b S T n q t' L ∧ rF P P1 b S := by
  obtain ⟨h1, h2, h3, h4, h5, h6, h7, h8, h9, h10, h11⟩ := h
  have k : ∀ a, ¬ (b + 165 ≤ a ∧ a < b + 165 + 5) → P1.1 a = P.1 a := hs.2
  refine ⟨⟨(k _ (by omega)).trans h1, (k _ (by omega)).trans h2, (k _ (by omega)).trans h3, hp, h5.cg (fun i a c => k _ (by omega)), h6, h7, h8, by rw [hs.1]; exact h9, ht, h11⟩, hs.1, fun a ha => k a (by omega)⟩
theorem rP.sh {L' : liT} (h : rP w P b S T n q t L) (hp : pSh P1 S L') (h2 : P1.2 = P.2) (k : ∀ a, ¬ (S ≤ a ∧ a < S + 160) → P1.1 a = P.1 a) (hw : wS L') : rP w P1 b S T n q t L' ∧ rF P P1 b S := by
  obtain ⟨h1, h2', h3, h4, h5, h6, h7, h8, h9, h10, h11⟩ := h
  refine ⟨⟨(k _ (by omega)).trans h1, (k _ (by omega)).trans h2', (k _ (by omega)).trans h3, h4.cg (fun i a c => k _ (by omega)), hp, h6, h7, h8, by rw [h2]; exact h9, h10, hw⟩, h2, fun a ha => k a (by omega)⟩
def upC (L : liT) (k : Nat) (c : ceT) : liT := (L.tc, L.tn, L.ts, L.cc, upT L.cs k c)
theorem rP.ce {k : Nat} {c : ceT} (h : rP w P b S T n q t L) (hk : k < 12) (hp : pC P1 (S + 76 + 7 * k) c) (hs : same P P1 (S + 76 + 7 * k) (S + 76 + 7 * k + 7)) (hw : c.i ≤ 6 ∧ c.o ≤ 3 ∧ c.ac ≤ 10) : rP w P1 b S T n q t (upC L k c) ∧ rF P P1 b S := by
  have K : ∀ a, ¬ (S + 76 + 7 * k ≤ a ∧ a < S + 76 + 7 * k + 7) → P1.1 a = P.1 a := hs.2
  obtain ⟨h1, h2, h3, h4, h5, h6, h7, h8, h9, h10, h11⟩ := id h
  refine h.sh ⟨h5.1.cg (fun i a c => K _ (by omega)), fun j hj => (h5.2.1 j hj).cg (fun i a c => K _ (by omega)), fun j hj => ?_⟩ hs.1 (fun a ha => K a (by omega)) ⟨h11.1, h11.2.1, fun j hj => ?_, h11.2.2.2⟩
  · show pC P1 (S + 76 + 7 * j) (upT L.cs k c j)
    by_cases e : j = k
    · subst e; rw [upT_s]; exact hp
    · rw [upT_n e]; exact (h5.2.2 j hj).cg (fun i a c => K _ (by omega))
  · show (upT L.cs k c j).i ≤ 6 ∧ (upT L.cs k c j).o ≤ 3 ∧ (upT L.cs k c j).ac ≤ 10
    by_cases e : j = k
    · subst e; rw [upT_s]; exact hw
    · rw [upT_n e]; exact h11.2.2.1 j hj
/-! how a reading method ends -/
def rE (w : xWd) (b S : Nat) (T : Nat → Int32) (n : Nat) (P : xH) (s : Nat) : Outcome → xH → Prop := fun oc P' => ∃ P1 q1 t1 L1, oc = .threw P1.2.1 ∧ P' = xEx P1 10 ∧ rP w P1 b S T n q1 t1 L1 ∧ sS T n q1 = s ∧ rF P P1 b S
def rO (w : xWd) (b S : Nat) (T : Nat → Int32) (n : Nat) (P : xH) (r : Except Nat (Option Value × Nat × tSt × liT)) : Outcome → xH → Prop := match r with
  | .ok x => fun oc P' => oc = .returned x.1 ∧ rP w P' b S T n x.2.1 x.2.2.1 x.2.2.2 ∧ rF P P' b S
  | .error s => rE w b S T n P s
theorem rE.no {s : Nat} {v : Option Value} (h : rE w b S T n P s (.returned v) P1) : False := by
  obtain ⟨_, _, _, _, h, _⟩ := h
  cases h
theorem rE.up {P0 : xH} {s : Nat} {oc : Outcome} (h : rE w b S T n P s oc P1) (hF : rF P0 P b S) : rE w b S T n P0 s oc P1 := by
  obtain ⟨P2, q1, t1, L1, h1, h2, h3, h4, h5⟩ := h
  exact ⟨P2, q1, t1, L1, h1, h2, h3, h4, hF.tr h5⟩
theorem rE.mk' {P0 : xH} (h : rP w P b S T n q t L) (hF : rF P0 P b S) : rE w b S T n P0 (sS T n q) (.threw P.2.1) (xEx P 10) := ⟨P, q, t, L, rfl, rfl, h, rfl, hF⟩
theorem rO_ok {M : xM} {As : List Value} {r : Except Nat (Option Value × Nat × tSt × liT)} {x : Option Value × Nat × tSt × liT} (h : xC w d M As P (rO w b S T n P r)) (e : r = .ok x) : xC w d M As P (xRl x.1 (fun P1 => rP w P1 b S T n x.2.1 x.2.2.1 x.2.2.2 ∧ rF P P1 b S)) := by
  subst e; exact h
theorem rO_er {M : xM} {As : List Value} {r : Except Nat (Option Value × Nat × tSt × liT)} {s : Nat} (h : xC w d M As P (rO w b S T n P r)) (e : r = .error s) : xC w d M As P (rE w b S T n P s) := by
  subst e; exact h
/-! words -/
theorem w_step (h : rP w P b S T n q t L) : xC w (d + 1) mX9_step [.ref (b + 163)] P (xRl none (fun P1 => rP w P1 b S T n (sE T n q) t L ∧ rF P P1 b S)) := by
  obtain ⟨h1, h2, h3, h4, h5, h6, h7, _⟩ := id h
  refine xC_imp (c_step h2 h3 h6 (by omega) (sE_le T h7).2) ?_
  rintro oc P' ⟨rfl, rfl⟩
  exact ⟨rfl, h.wd (sE_le T h7).2⟩
theorem w_is {i : Nat} (h : rP w P b S T n q t L) (hi : i < 26) : xC w (d + 4) mX9_is [.ref (b + 163), .ref (w.ad (10 + i))] P (xRet (some (.int (sW T n q i))) P) := by
  obtain ⟨h1, h2, h3, h4, h5, h6, h7, _⟩ := id h
  have := sE_le T h7
  exact c_is h2 h3 (by omega) this.1 (by omega) hi
theorem w_name (h : rP w P b S T n q t L) : xC w (d + 1) mX9_name [.ref (b + 163)] P (xRet (some (.long (sN T n q))) P) := by
  obtain ⟨h1, h2, h3, h4, h5, h6, h7, _⟩ := id h
  have := sE_le T h7
  have h4 := sK_le T h7
  exact c_name h2 h3 (by omega) this.1 (by omega) (by omega)
theorem w_number (h : rP w P b S T n q t L) : xC w d mX9_number [.ref (b + 163)] P (xRet (some (.int (sV T n q))) P) := by
  obtain ⟨h1, h2, h3, h4, h5, h6, h7, _⟩ := id h
  have := sE_le T h7
  exact c_number h2 h3 (by omega) this.1 (by omega)
theorem c_dem1 {v : Int32} (h : ¬ v = 0) : xC w d mX5_demand [.int v] P (xRet none P) := by
  refine xC_of (by decide) (ble rfl) (ls := [some (.int v)]) rfl ?_
  refine sX5_demand_0 (sX5_demand_1 (fun _ => ?_) (fun z => absurd z h))
  refine sX5_demand_12 ⟨rfl, rfl⟩
theorem c_dem0 (hr : P.2.1 + 1 ≤ w.z + 601024 ∧ P.2.2 + 6 ≤ 7293034) : xC w d mX5_demand [.int 0] P (xThr P.2.1 (xEx P 10)) := by
  refine xC_of (by decide) (ble rfl) (ls := [some (.int 0)]) rfl ?_
  refine sX5_demand_0 (sX5_demand_1 (fun z => absurd rfl z) (fun _ => ?_))
  exact sX5_demand_4 (ble rfl) hr.1 hr.2 ⟨rfl, rfl⟩
theorem r_sign {i : Nat} (h : rP w P b S T n q t L) (hi : i < 26) : xC w (d + 5) mX5_takeSign [.ref (b + 162), .ref (w.ad (10 + i))] P (rO w b S T n P (bnd (rSign (tkOf T n) i q) (fun q' => .ok (none, q', t, L)))) := by
  obtain ⟨hR, hW, _, _, _, _, _, _, hr, _⟩ := id h
  refine xC_of (by decide) (ble rfl) (ls := [some (.ref (b + 162)), some (.ref (w.ad (10 + i)))]) rfl ?_
  by_cases hw : sW T n q i = 0
  · rw [show rSign (tkOf T n) i q = .error (sS T n q) from dmd_f (fun z => z hw)]
    refine sX5_takeSign_0 (sX5_takeSign_1 (by assumption) (by rfl) (sX5_takeSign_4 (sX5_takeSign_5 (ble rfl) hW (w_is h hi) ?_)))
    rw [hw]
    refine sX5_takeSign_8_t (ble rfl) (c_dem0 hr) (rE.mk' h rF.rf)
  · rw [show rSign (tkOf T n) i q = .ok (sE T n q) from dmd_t hw]
    refine sX5_takeSign_0 (sX5_takeSign_1 (by assumption) (by rfl) (sX5_takeSign_4 (sX5_takeSign_5 (ble rfl) hW (w_is h hi) (sX5_takeSign_8 (ble rfl) (c_dem1 hw) (sX5_takeSign_11 (sX5_takeSign_12 (by assumption) (by rfl) (sX5_takeSign_15_r (ble rfl) hW (w_step h) (fun P1 h1 => ?_))))))))
    refine sX5_takeSign_18 ⟨rfl, h1⟩
theorem r_num (h : rP w P b S T n q t L) : xC w (d + 2) mX5_takeNumber [.ref (b + 162)] P (rO w b S T n P (bnd (rNum (tkOf T n) q) (fun x => .ok (some (.int x.1), x.2, t, L)))) := by
  obtain ⟨hR, hW, _, _, _, _, h7, _, hr, _⟩ := id h
  have h4 := sK_le T h7
  refine xC_of (by decide) (ble rfl) (ls := [some (.ref (b + 162)), none]) rfl ?_
  refine sX5_takeNumber_0 (sX5_takeNumber_1 (by assumption) (by rfl) (sX5_takeNumber_4 (by assumption) (by rfl) (sX5_takeNumber_7 (sX5_takeNumber_8 (fun z => ?_) (fun z => ?_)))))
  · rw [show rNum (tkOf T n) q = .error (sS T n q) from dmd_f (fun y => z (by show nI (sK T n q) = 2; rw [show sK T n q = 2 from y]; rfl))]
    refine sX5_takeNumber_15 (sX5_takeNumber_16_t (ble rfl) (c_dem0 hr) (rE.mk' h rF.rf))
  · rw [show rNum (tkOf T n) q = .ok (sV T n q, sE T n q) from dmd_t (show sK T n q = 2 from (nI_eq (b := 2) (by omega) (by omega)).mp z)]
    refine sX5_takeNumber_11 (sX5_takeNumber_12 (sX5_takeNumber_16 (ble rfl) (c_dem1 (by decide)) (sX5_takeNumber_19 (sX5_takeNumber_20 (by assumption) (by rfl) (sX5_takeNumber_23 (ble rfl) hW (w_number h) (sX5_takeNumber_26 rfl (sX5_takeNumber_27 (sX5_takeNumber_28 (by assumption) (by rfl) (sX5_takeNumber_31_r (ble rfl) hW (w_step h) (fun P1 h1 => ?_))))))))))
    refine sX5_takeNumber_34 (sX5_takeNumber_35 ⟨rfl, h1⟩)
end RA
