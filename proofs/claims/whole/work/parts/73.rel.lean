section Rel2
/-- what a row search finds -/
theorem fnd_c (f : Nat → Int64) (x : Int64) : ∀ m i, (fnd f x i m = -1 ∧ ∀ k, i ≤ k → k < i + m → ¬ f k = x) ∨ (∃ k, i ≤ k ∧ k < i + m ∧ f k = x ∧ fnd f x i m = nI k ∧ ∀ j, i ≤ j → j < k → ¬ f j = x) := by
  intro m
  induction m with
  | zero => intro i; exact Or.inl ⟨rfl, fun k h1 h2 => by omega⟩
  | succ m ih =>
    intro i
    unfold fnd
    by_cases h : f i = x
    · right
      rw [if_pos h]
      exact ⟨i, Nat.le_refl _, by omega, h, rfl, fun j h1 h2 => by omega⟩
    · rw [if_neg h]
      rcases ih (i + 1) with ⟨h1, h2⟩ | ⟨k, h1, h2, h3, h4, h5⟩
      · refine Or.inl ⟨h1, fun k a b => ?_⟩
        rcases Nat.eq_or_lt_of_le a with c | c
        · subst c; exact h
        · exact h2 k (by omega) (by omega)
      · refine Or.inr ⟨k, by omega, by omega, h3, h4, fun j a b => ?_⟩
        rcases Nat.eq_or_lt_of_le a with c | c
        · subst c; exact h
        · exact h5 j (by omega) b
def lmat (f : Nat → Int64) (x : Int64) : Nat → Nat → Int32 → Int32
  | 0, _, a => a
  | m + 1, i, a => lmat f x m (i + 1) (if f i = x then nI i else a)
theorem lmat_c (f : Nat → Int64) (x : Int64) : ∀ m i a, (lmat f x m i a = a ∧ ∀ k, i ≤ k → k < i + m → ¬ f k = x) ∨ (∃ k, i ≤ k ∧ k < i + m ∧ f k = x ∧ lmat f x m i a = nI k) := by
  intro m
  induction m with
  | zero => intro i a; exact Or.inl ⟨rfl, fun k h1 h2 => by omega⟩
  | succ m ih =>
    intro i a
    show (lmat f x m (i + 1) (if f i = x then nI i else a) = a ∧ _) ∨ ∃ k, _ ∧ _ ∧ _ ∧ lmat f x m (i + 1) (if f i = x then nI i else a) = nI k
    by_cases h : f i = x
    · rw [if_pos h]
      right
      rcases ih (i + 1) (nI i) with ⟨h1, _⟩ | ⟨k, h1, h2, h3, h4⟩
      · exact ⟨i, Nat.le_refl _, by omega, h, h1⟩
      · exact ⟨k, by omega, by omega, h3, h4⟩
    · rw [if_neg h]
      rcases ih (i + 1) a with ⟨h1, h2⟩ | ⟨k, h1, h2, h3, h4⟩
      · refine Or.inl ⟨h1, fun k a b => ?_⟩
        rcases Nat.eq_or_lt_of_le a with c | c
        · subst c; exact h
        · exact h2 k (by omega) (by omega)
      · exact Or.inr ⟨k, by omega, by omega, h3, h4⟩
/-- no value stands twice -/
def uq (f : Nat → Int64) (m : Nat) : Prop := ∀ i j, i < m → j < m → f i = f j → i = j
def nz (f : Nat → Int64) (m : Nat) : Prop := ∀ i, i < m → ¬ f i = 0
theorem lmat_fnd {f : Nat → Int64} {m : Nat} (x : Int64) (h : uq f m) : lmat f x m 0 (-1) = fnd f x 0 m := by
  rcases fnd_c f x m 0 with ⟨a, b⟩ | ⟨k, a1, a2, a3, a4, a5⟩
  · rcases lmat_c f x m 0 (-1) with ⟨c, _⟩ | ⟨k, c1, c2, c3, c4⟩
    · rw [a, c]
    · exact absurd c3 (b k c1 c2)
  · rcases lmat_c f x m 0 (-1) with ⟨c, c2⟩ | ⟨k', c1, c2, c3, c4⟩
    · exact absurd a3 (c2 k a1 a2)
    · rw [a4, c4, h k' k (by omega) (by omega) (c3.trans a3.symm)]
theorem lmat_cg {f g : Nat → Int64} (x : Int64) : ∀ m i a, (∀ k, i ≤ k → k < i + m → f k = g k) → lmat f x m i a = lmat g x m i a := by
  intro m
  induction m with
  | zero => intro i a _; rfl
  | succ m ih =>
    intro i a h
    show lmat f x m (i + 1) (if f i = x then nI i else a) = lmat g x m (i + 1) (if g i = x then nI i else a)
    rw [h i (Nat.le_refl _) (by omega)]
    exact ih _ _ (fun k h1 h2 => h k (by omega) (by omega))
theorem nI_m1 {k : Nat} (h : k < 2 ^ 31) : ¬ nI k = -1 := by
  intro h9
  have := nI_pos' h
  rw [h9] at this
  exact absurd this (by decide)
/-- the values of a cell that stand in the model at place c -/
def celR (F : mF) (c : Nat) (x : ceT) : Prop := F.l 10 c = x.nm ∧ F.a 11 c = x.pl ∧ F.a 13 c = nI x.i ∧ F.a 14 c = nI x.o ∧ F.a 18 c = nI x.ac ∧ (∀ k, k < x.i → F.l 12 (9 * c + k) = x.pins k) ∧ (∀ k, k < x.o → F.l 12 (9 * c + 6 + k) = x.pins (x.i + k)) ∧ (∀ k, k < 3 → F.a 15 (3 * c + k) = x.am k) ∧ (∀ k, k < 3 → F.a 16 (4 * c + k) = x.tl k) ∧ F.a 16 (4 * c + 3) = x.pt ∧ (∀ k, k < x.o → F.l 17 (3 * c + k) = x.tr k) ∧ (∀ k, k < 5 * x.ac → F.a 19 (50 * c + k) = x.arcs k) ∧ (x.pt = 0 → ∀ s, s < 64 → F.a 20 (64 * c + s) = 0) ∧ (¬ x.pt = 0 → ∀ s, s < 2 ^ x.i → F.a 20 (64 * c + s) = x.pw s)
/-- what holds of a cell that is read -/
def wC (tc : Nat) (x : ceT) : Prop := x.i ≤ 6 ∧ x.o ≤ 3 ∧ x.ac ≤ 10 ∧ nz x.pins (x.i + x.o) ∧ uq x.pins (x.i + x.o) ∧ (x.pt = 0 ∨ x.pt = 1) ∧ (∀ k, k < 3 → x.tl k = 0 ∨ x.tl k = 1) ∧ (∀ k, k < x.ac → (∃ a, a < x.i ∧ x.arcs (k * 5) = nI a) ∧ (∃ a, a < x.o ∧ x.arcs (k * 5 + 1) = nI a) ∧ (∃ a, a < tc ∧ x.arcs (k * 5 + 3) = nI a) ∧ (∃ a, a < tc ∧ x.arcs (k * 5 + 4) = nI a)) ∧ (∀ k, k < x.o → wthn (x.tr k) (nI (2 ^ x.i)) = x.tr k)
theorem celR.kT {F F' : mF} {c : Nat} {x : ceT} (h : celR F c x) (k : keepT F F') : celR F' c x := by
  unfold celR
  rw [k.2.1, k.2.2]
  exact h
def csz (r : Nat) : Nat := match r with
  | 12 => 9
  | 13 => 1
  | 14 => 1
  | 15 => 3
  | 16 => 4
  | 17 => 3
  | 18 => 1
  | 19 => 50
  | _ => 64
/-- nothing is different but the values of the cell c -/
def cK (F F' : mF) (c : Nat) : Prop := (∀ r, 2 ≤ r → r ≤ 11 → F'.a r = F.a r ∧ F'.l r = F.l r) ∧ (∀ r i, 12 ≤ r → r ≤ 20 → (i < c * csz r ∨ (c + 1) * csz r ≤ i) → F'.a r i = F.a r i ∧ F'.l r i = F.l r i) ∧ F'.s 0 = F.s 0 ∧ F'.s 3 = F.s 3 ∧ F'.s 29 = F.s 29 ∧ F'.s 30 = F.s 30
theorem cK.rf {F : mF} {c : Nat} : cK F F c := ⟨fun _ _ _ => ⟨rfl, rfl⟩, fun _ _ _ _ _ => ⟨rfl, rfl⟩, rfl, rfl, rfl, rfl⟩
theorem cK.tr {F F1 F2 : mF} {c : Nat} (h : cK F F1 c) (h2 : cK F1 F2 c) : cK F F2 c := ⟨fun r a b => ⟨(h2.1 r a b).1.trans (h.1 r a b).1, (h2.1 r a b).2.trans (h.1 r a b).2⟩, fun r i a b e => ⟨(h2.2.1 r i a b e).1.trans (h.2.1 r i a b e).1, (h2.2.1 r i a b e).2.trans (h.2.1 r i a b e).2⟩, h2.2.2.1.trans h.2.2.1, h2.2.2.2.1.trans h.2.2.2.1, h2.2.2.2.2.1.trans h.2.2.2.2.1, h2.2.2.2.2.2.trans h.2.2.2.2.2⟩
theorem keepT.cK {F F' : mF} (c : Nat) (k : keepT F F') : cK F F' c := ⟨fun r _ _ => by rw [k.2.1, k.2.2]; exact ⟨rfl, rfl⟩, fun r i _ _ _ => by rw [k.2.1, k.2.2]; exact ⟨rfl, rfl⟩, k.1 0 (by omega) (by omega) (by omega) (by omega) (by omega), k.1 3 (by omega) (by omega) (by omega) (by omega) (by omega), k.1 29 (by omega) (by omega) (by omega) (by omega) (by omega), k.1 30 (by omega) (by omega) (by omega) (by omega) (by omega)⟩
theorem cK.uA {F : mF} {c r i : Nat} {v : Int32} (hr : 12 ≤ r) (h1 : c * csz r ≤ i) (h2 : i < (c + 1) * csz r) : cK F (F.uA r (upd (F.a r) i v)) c := by
  refine ⟨fun k _ hk => ⟨uA_n (by omega), rfl⟩, fun k j _ _ hj => ⟨?_, rfl⟩, rfl, rfl, rfl, rfl⟩
  by_cases hk : k = r
  · subst hk
    rw [show (F.uA k (upd (F.a k) i v)).a k = upd (F.a k) i v by show (if k = k then _ else _) = _; rw [if_pos rfl]]
    exact pk_un (by omega)
  · rw [uA_n hk]
theorem cK.uL {F : mF} {c r i : Nat} {v : Int64} (hr : 12 ≤ r) (h1 : c * csz r ≤ i) (h2 : i < (c + 1) * csz r) : cK F (F.uL r (vp_updL (F.l r) i v)) c := by
  refine ⟨fun k _ hk => ⟨rfl, uL_n (by omega)⟩, fun k j _ _ hj => ⟨rfl, ?_⟩, rfl, rfl, rfl, rfl⟩
  by_cases hk : k = r
  · subst hk
    rw [show (F.uL k (vp_updL (F.l k) i v)).l k = vp_updL (F.l k) i v by show (if k = k then _ else _) = _; rw [if_pos rfl]]
    exact pk_uLn (by omega)
  · rw [uL_n hk]
/-- another cell keeps its values -/
theorem celR.cK {F F' : mF} {c c' : Nat} {x : ceT} (h : celR F c' x) (k : cK F F' c) (hne : c' ≠ c) (hb : x.i ≤ 6 ∧ x.o ≤ 3 ∧ x.ac ≤ 10) : celR F' c' x := by
  obtain ⟨h1, h2, h3, h4, h5, h6, h7, h8, h9, h10, h11, h12, h13, h14⟩ := h
  have p2 : 2 ^ x.i ≤ 64 := Nat.pow_le_pow_right (n := 2) (by omega) hb.1
  have ka : ∀ r i, 12 ≤ r → r ≤ 20 → (i < c * csz r ∨ (c + 1) * csz r ≤ i) → F'.a r i = F.a r i := fun r i a b e => (k.2.1 r i a b e).1
  have kl : ∀ r i, 12 ≤ r → r ≤ 20 → (i < c * csz r ∨ (c + 1) * csz r ≤ i) → F'.l r i = F.l r i := fun r i a b e => (k.2.1 r i a b e).2
  refine ⟨?_, ?_, ?_, ?_, ?_, fun j hj => ?_, fun j hj => ?_, fun j hj => ?_, fun j hj => ?_, ?_, fun j hj => ?_, fun j hj => ?_, fun hp j hj => ?_, fun hp j hj => ?_⟩
  · rw [(k.1 10 (by omega) (by omega)).2]; exact h1
  · rw [(k.1 11 (by omega) (by omega)).1]; exact h2
  · rw [ka 13 _ (by omega) (by omega) (by show _ < c * 1 ∨ (c + 1) * 1 ≤ _; omega)]; exact h3
  · rw [ka 14 _ (by omega) (by omega) (by show _ < c * 1 ∨ (c + 1) * 1 ≤ _; omega)]; exact h4
  · rw [ka 18 _ (by omega) (by omega) (by show _ < c * 1 ∨ (c + 1) * 1 ≤ _; omega)]; exact h5
  · rw [kl 12 _ (by omega) (by omega) (by show _ < c * 9 ∨ (c + 1) * 9 ≤ _; omega)]; exact h6 j hj
  · rw [kl 12 _ (by omega) (by omega) (by show _ < c * 9 ∨ (c + 1) * 9 ≤ _; omega)]; exact h7 j hj
  · rw [ka 15 _ (by omega) (by omega) (by show _ < c * 3 ∨ (c + 1) * 3 ≤ _; omega)]; exact h8 j hj
  · rw [ka 16 _ (by omega) (by omega) (by show _ < c * 4 ∨ (c + 1) * 4 ≤ _; omega)]; exact h9 j hj
  · rw [ka 16 _ (by omega) (by omega) (by show _ < c * 4 ∨ (c + 1) * 4 ≤ _; omega)]; exact h10
  · rw [kl 17 _ (by omega) (by omega) (by show _ < c * 3 ∨ (c + 1) * 3 ≤ _; omega)]; exact h11 j hj
  · rw [ka 19 _ (by omega) (by omega) (by show _ < c * 50 ∨ (c + 1) * 50 ≤ _; omega)]; exact h12 j hj
  · rw [ka 20 _ (by omega) (by omega) (by show _ < c * 64 ∨ (c + 1) * 64 ≤ _; omega)]; exact h13 hp j hj
  · rw [ka 20 _ (by omega) (by omega) (by show _ < c * 64 ∨ (c + 1) * 64 ≤ _; omega)]; exact h14 hp j hj
/-- the names of tables in bank u -/
def tabN (F : mF) (u tc : Nat) (tn : Nat → Int64) : Prop := F.a 2 u = nI tc ∧ tc ≤ 12 ∧ nz tn tc ∧ uq tn tc ∧ ∀ k, k < tc → F.l 3 (12 * u + k) = tn k
theorem tabN.cK {F F' : mF} {u tc c : Nat} {tn : Nat → Int64} (h : tabN F u tc tn) (k : cK F F' c) : tabN F' u tc tn := by
  unfold tabN
  rw [(k.1 2 (by omega) (by omega)).1, (k.1 3 (by omega) (by omega)).2]
  exact h
/-- bounds that hold also behind a fault -/
def shC (F : mF) (u k : Nat) : Prop := u < 2 ∧ k < 12 ∧ F.s 29 = nI u ∧ F.s 30 = nI (12 * u + k) ∧ (∃ i, i ≤ 6 ∧ F.a 13 (12 * u + k) = nI i) ∧ (∃ i, i ≤ 3 ∧ F.a 14 (12 * u + k) = nI i) ∧ ∃ i, i ≤ 10 ∧ F.a 18 (12 * u + k) = nI i
theorem shC.kT {F F' : mF} {u k : Nat} (h : shC F u k) (kt : keepT F F') : shC F' u k := by
  unfold shC
  rw [kt.2.1, kt.1 29 (by omega) (by omega) (by omega) (by omega) (by omega), kt.1 30 (by omega) (by omega) (by omega) (by omega) (by omega)]
  exact h
/-- THE MODEL READS A CELL: it stands at k of bank u, and where it has not failed its values are those that were read -/
def mC (F : mF) (T : Nat → Int32) (n u k tc : Nat) (tn : Nat → Int64) (st : Except Nat (ceT × Nat)) : Prop := mT F T n st ∧ shC F u k ∧ tabN F u tc tn ∧ ∀ x, st = .ok x → celR F (12 * u + k) x.1 ∧ wC tc x.1
theorem mT.re {α β : Type} {F : mF} {T : Nat → Int32} {n : Nat} {st : Except Nat (α × Nat)} {st2 : Except Nat (β × Nat)} (h : mT F T n st) (he : bnd st (fun x => .ok x.2) = bnd st2 (fun x => .ok x.2)) : mT F T n st2 := by
  obtain ⟨h1, h2, h3, h4⟩ := h
  refine ⟨h1, h2, h3, ?_⟩
  match st, st2, he, h4 with
  | .ok x, .ok y, he, h4 => have : x.2 = y.2 := Except.ok.inj he
                            show F.s 28 = 1 ∧ y.2 ≤ n ∧ mTk F T n y.2
                            rw [← this]; exact h4
  | .error p, .error p', he, h4 => have : p = p' := Except.error.inj he
                                   subst this; exact h4
  | .ok x, .error p, he, _ => cases he
  | .error p, .ok x, he, _ => cases he
end Rel2
