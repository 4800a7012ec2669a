section M15
variable {F F' F1 F2 : mF} {T : Nat → Int32} {n u k q c : Nat}
theorem uA_s {r : Nat} {f : Nat → Int32} : (F.uA r f).a r = f := by show (if r = r then f else F.2.2.1 r) = _; rw [if_pos rfl]
theorem uL_s {r : Nat} {f : Nat → Int64} : (F.uL r f).l r = f := by show (if r = r then f else F.2.2.2 r) = _; rw [if_pos rfl]
theorem uA_uA {r : Nat} {f g : Nat → Int32} : (F.uA r f).uA r g = F.uA r g := by
  refine Prod.ext rfl (Prod.ext rfl (Prod.ext (funext fun k => ?_) rfl))
  show (if k = r then g else if k = r then f else F.2.2.1 k) = if k = r then g else F.2.2.1 k
  split <;> rfl
theorem uA_id {r : Nat} : F.uA r (F.a r) = F := by
  refine Prod.ext rfl (Prod.ext rfl (Prod.ext (funext fun k => ?_) rfl))
  show (if k = r then F.2.2.1 r else F.2.2.1 k) = F.2.2.1 k
  split
  · subst_vars; rfl
  · rfl
/-! frames: a cell with its name and place; a table; a bank -/
def csw (r : Nat) : Nat := if r ≤ 11 then 1 else csz r
def tsz (r : Nat) : Nat := if r ≤ 5 then 1 else if r ≤ 7 then 4 else 16
def bsz (r : Nat) : Nat := if r = 2 then 1 else if r = 9 then 1 else if r ≤ 8 then 12 * tsz r else 12 * csw r
def cW (F F' : mF) (c : Nat) : Prop := (∀ r, 2 ≤ r → r ≤ 9 → F'.a r = F.a r ∧ F'.l r = F.l r) ∧ (∀ r i, 10 ≤ r → r ≤ 20 → (i < c * csw r ∨ (c + 1) * csw r ≤ i) → F'.a r i = F.a r i ∧ F'.l r i = F.l r i) ∧ F'.s 0 = F.s 0 ∧ F'.s 3 = F.s 3 ∧ F'.s 29 = F.s 29
def tW (F F' : mF) (t : Nat) : Prop := (∀ r i, 3 ≤ r → r ≤ 8 → (i < t * tsz r ∨ (t + 1) * tsz r ≤ i) → F'.a r i = F.a r i ∧ F'.l r i = F.l r i) ∧ (∀ r, (r = 2 ∨ 9 ≤ r) → r ≤ 20 → F'.a r = F.a r ∧ F'.l r = F.l r) ∧ F'.s 0 = F.s 0 ∧ F'.s 3 = F.s 3 ∧ F'.s 29 = F.s 29
def bK (F F' : mF) (u : Nat) : Prop := (∀ r i, 2 ≤ r → r ≤ 20 → (i < u * bsz r ∨ (u + 1) * bsz r ≤ i) → F'.a r i = F.a r i ∧ F'.l r i = F.l r i) ∧ F'.s 0 = F.s 0 ∧ F'.s 3 = F.s 3 ∧ F'.s 29 = F.s 29
theorem cW.rf : cW F F c := ⟨fun _ _ _ => ⟨rfl, rfl⟩, fun _ _ _ _ _ => ⟨rfl, rfl⟩, rfl, rfl, rfl⟩
theorem cW.tr (h : cW F F1 c) (h2 : cW F1 F2 c) : cW F F2 c := ⟨fun r a b => ⟨(h2.1 r a b).1.trans (h.1 r a b).1, (h2.1 r a b).2.trans (h.1 r a b).2⟩, fun r i a b e => ⟨(h2.2.1 r i a b e).1.trans (h.2.1 r i a b e).1, (h2.2.1 r i a b e).2.trans (h.2.1 r i a b e).2⟩, h2.2.2.1.trans h.2.2.1, h2.2.2.2.1.trans h.2.2.2.1, h2.2.2.2.2.trans h.2.2.2.2⟩
theorem tW.rf : tW F F c := ⟨fun _ _ _ _ _ => ⟨rfl, rfl⟩, fun _ _ _ => ⟨rfl, rfl⟩, rfl, rfl, rfl⟩
theorem tW.tr (h : tW F F1 c) (h2 : tW F1 F2 c) : tW F F2 c := ⟨fun r i a b e => ⟨(h2.1 r i a b e).1.trans (h.1 r i a b e).1, (h2.1 r i a b e).2.trans (h.1 r i a b e).2⟩, fun r a b => ⟨(h2.2.1 r a b).1.trans (h.2.1 r a b).1, (h2.2.1 r a b).2.trans (h.2.1 r a b).2⟩, h2.2.2.1.trans h.2.2.1, h2.2.2.2.1.trans h.2.2.2.1, h2.2.2.2.2.trans h.2.2.2.2⟩
theorem bK.rf : bK F F u := ⟨fun _ _ _ _ _ => ⟨rfl, rfl⟩, rfl, rfl, rfl⟩
theorem bK.tr (h : bK F F1 u) (h2 : bK F1 F2 u) : bK F F2 u := ⟨fun r i a b e => ⟨(h2.1 r i a b e).1.trans (h.1 r i a b e).1, (h2.1 r i a b e).2.trans (h.1 r i a b e).2⟩, h2.2.1.trans h.2.1, h2.2.2.1.trans h.2.2.1, h2.2.2.2.trans h.2.2.2⟩
theorem csw_c {r : Nat} (h : 12 ≤ r) : csw r = csz r := if_neg (by omega)
theorem csw_1 {r : Nat} (h : r ≤ 11) : csw r = 1 := if_pos h
theorem bsz_c {r : Nat} (h : 10 ≤ r) : bsz r = 12 * csw r := by unfold bsz; rw [if_neg (by omega), if_neg (by omega), if_neg (by omega)]
theorem bsz_t {r : Nat} (h : 3 ≤ r) (h8 : r ≤ 8) : bsz r = 12 * tsz r := by unfold bsz; rw [if_neg (by omega), if_neg (by omega), if_pos h8]
theorem cK.cW (h : cK F F' c) : cW F F' c := by
  refine ⟨fun r a b => h.1 r a (by omega), fun r i a b e => ?_, h.2.2.1, h.2.2.2.1, h.2.2.2.2.1⟩
  by_cases h12 : r ≤ 11
  · have := h.1 r (by omega) h12
    rw [this.1, this.2]
    exact ⟨rfl, rfl⟩
  · rw [csw_c (by omega)] at e
    exact h.2.1 r i (by omega) b e
theorem keepT.cW (k : keepT F F') : cW F F' c := (k.cK c).cW
theorem keepT.tW (k : keepT F F') : tW F F' c := ⟨fun r i _ _ _ => by rw [k.2.1, k.2.2]; exact ⟨rfl, rfl⟩, fun r _ _ => by rw [k.2.1, k.2.2]; exact ⟨rfl, rfl⟩, k.1 0 (by omega) (by omega) (by omega) (by omega) (by omega), k.1 3 (by omega) (by omega) (by omega) (by omega) (by omega), k.1 29 (by omega) (by omega) (by omega) (by omega) (by omega)⟩
theorem keepT.bK (k : keepT F F') : bK F F' u := ⟨fun r i _ _ _ => by rw [k.2.1, k.2.2]; exact ⟨rfl, rfl⟩, k.1 0 (by omega) (by omega) (by omega) (by omega) (by omega), k.1 3 (by omega) (by omega) (by omega) (by omega) (by omega), k.1 29 (by omega) (by omega) (by omega) (by omega) (by omega)⟩
theorem inb (hk : k < 12) {s i : Nat} (h : i < u * (12 * s) ∨ (u + 1) * (12 * s) ≤ i) : i < (12 * u + k) * s ∨ (12 * u + k + 1) * s ≤ i := by
  have h1 : u * (12 * s) ≤ (12 * u + k) * s := by rw [← Nat.mul_assoc]; exact Nat.mul_le_mul_right s (by omega)
  have h2 : (12 * u + k + 1) * s ≤ (u + 1) * (12 * s) := by rw [← Nat.mul_assoc]; exact Nat.mul_le_mul_right s (by omega)
  rcases h with h | h
  · exact Or.inl (Nat.lt_of_lt_of_le h h1)
  · exact Or.inr (Nat.le_trans h2 h)
theorem cW.bK (h : cW F F' (12 * u + k)) (hk : k < 12) : bK F F' u := by
  refine ⟨fun r i a b e => ?_, h.2.2⟩
  by_cases h9 : r ≤ 9
  · have := h.1 r a h9
    rw [this.1, this.2]
    exact ⟨rfl, rfl⟩
  · rw [bsz_c (by omega)] at e
    exact h.2.1 r i (by omega) b (inb hk e)
theorem tW.bK (h : tW F F' (12 * u + k)) (hk : k < 12) : bK F F' u := by
  refine ⟨fun r i a b e => ?_, h.2.2⟩
  by_cases h9 : r = 2 ∨ 9 ≤ r
  · have := h.2.1 r h9 b
    rw [this.1, this.2]
    exact ⟨rfl, rfl⟩
  · rw [bsz_t (by omega) (by omega)] at e
    exact h.1 r i (by omega) (by omega) (inb hk e)
theorem cW.uAf {r : Nat} {f : Nat → Int32} (hr : 10 ≤ r) (hf : ∀ i, (i < c * csw r ∨ (c + 1) * csw r ≤ i) → f i = F.a r i) : cW F (F.uA r f) c := by
  refine ⟨fun k _ hk => ⟨uA_n (by omega), rfl⟩, fun k j _ _ hj => ⟨?_, rfl⟩, rfl, rfl, rfl⟩
  by_cases hk : k = r
  · subst hk
    rw [uA_s]
    exact hf j hj
  · rw [uA_n hk]
theorem cW.uA {r i : Nat} {v : Int32} (hr : 10 ≤ r) (h1 : c * csw r ≤ i) (h2 : i < (c + 1) * csw r) : cW F (F.uA r (upd (F.a r) i v)) c := cW.uAf hr (fun j hj => pk_un (by omega))
theorem cW.uL {r i : Nat} {v : Int64} (hr : 10 ≤ r) (h1 : c * csw r ≤ i) (h2 : i < (c + 1) * csw r) : cW F (F.uL r (vp_updL (F.l r) i v)) c := by
  refine ⟨fun k _ hk => ⟨rfl, uL_n (by omega)⟩, fun k j _ _ hj => ⟨rfl, ?_⟩, rfl, rfl, rfl⟩
  by_cases hk : k = r
  · subst hk
    rw [uL_s]
    exact pk_uLn (by omega)
  · rw [uL_n hk]
theorem tW.uA {r i : Nat} {v : Int32} (hr : 3 ≤ r ∧ r ≤ 8) (h1 : c * tsz r ≤ i) (h2 : i < (c + 1) * tsz r) : tW F (F.uA r (upd (F.a r) i v)) c := by
  refine ⟨fun k j _ _ hj => ⟨?_, rfl⟩, fun k hk _ => ⟨uA_n (by omega), rfl⟩, rfl, rfl, rfl⟩
  by_cases hk : k = r
  · subst hk
    rw [uA_s]
    exact pk_un (by omega)
  · rw [uA_n hk]
theorem tW.uL {r i : Nat} {v : Int64} (hr : 3 ≤ r ∧ r ≤ 8) (h1 : c * tsz r ≤ i) (h2 : i < (c + 1) * tsz r) : tW F (F.uL r (vp_updL (F.l r) i v)) c := by
  refine ⟨fun k j _ _ hj => ⟨rfl, ?_⟩, fun k hk _ => ⟨rfl, uL_n (by omega)⟩, rfl, rfl, rfl⟩
  by_cases hk : k = r
  · subst hk
    rw [uL_s]
    exact pk_uLn (by omega)
  · rw [uL_n hk]
theorem bK.uA {r i : Nat} {v : Int32} (h1 : u * bsz r ≤ i) (h2 : i < (u + 1) * bsz r) : bK F (F.uA r (upd (F.a r) i v)) u := by
  refine ⟨fun k j _ _ hj => ⟨?_, rfl⟩, rfl, rfl, rfl⟩
  by_cases hk : k = r
  · subst hk
    rw [uA_s]
    exact pk_un (by omega)
  · rw [uA_n hk]
theorem celR.cg {x : ceT} (h : celR F c x) (hb : x.i ≤ 6 ∧ x.o ≤ 3 ∧ x.ac ≤ 10) (k : ∀ r i, 10 ≤ r → r ≤ 20 → c * csw r ≤ i → i < (c + 1) * csw r → F'.a r i = F.a r i ∧ F'.l r i = F.l r i) : celR F' c x := by
  obtain ⟨h1, h2, h3, h4, h5, h6, h7, h8, h9, h10, h11, h12, h13, h14⟩ := h
  have p2 : 2 ^ x.i ≤ 64 := Nat.pow_le_pow_right (n := 2) (by omega) hb.1
  have ka : ∀ r i, 10 ≤ r → r ≤ 20 → c * csw r ≤ i → i < (c + 1) * csw r → F'.a r i = F.a r i := fun r i a b e f => (k r i a b e f).1
  have kl : ∀ r i, 10 ≤ r → r ≤ 20 → c * csw r ≤ i → i < (c + 1) * csw r → F'.l r i = F.l r i := fun r i a b e f => (k r i a b e f).2
  refine ⟨?_, ?_, ?_, ?_, ?_, fun j hj => ?_, fun j hj => ?_, fun j hj => ?_, fun j hj => ?_, ?_, fun j hj => ?_, fun j hj => ?_, fun hp j hj => ?_, fun hp j hj => ?_⟩
  · rw [kl 10 _ (by omega) (by omega) (by show c * 1 ≤ _; omega) (by show _ < (c + 1) * 1; omega)]; exact h1
  · rw [ka 11 _ (by omega) (by omega) (by show c * 1 ≤ _; omega) (by show _ < (c + 1) * 1; omega)]; exact h2
  · rw [ka 13 _ (by omega) (by omega) (by show c * 1 ≤ _; omega) (by show _ < (c + 1) * 1; omega)]; exact h3
  · rw [ka 14 _ (by omega) (by omega) (by show c * 1 ≤ _; omega) (by show _ < (c + 1) * 1; omega)]; exact h4
  · rw [ka 18 _ (by omega) (by omega) (by show c * 1 ≤ _; omega) (by show _ < (c + 1) * 1; omega)]; exact h5
  · rw [kl 12 _ (by omega) (by omega) (by show c * 9 ≤ _; omega) (by show _ < (c + 1) * 9; omega)]; exact h6 j hj
  · rw [kl 12 _ (by omega) (by omega) (by show c * 9 ≤ _; omega) (by show _ < (c + 1) * 9; omega)]; exact h7 j hj
  · rw [ka 15 _ (by omega) (by omega) (by show c * 3 ≤ _; omega) (by show _ < (c + 1) * 3; omega)]; exact h8 j hj
  · rw [ka 16 _ (by omega) (by omega) (by show c * 4 ≤ _; omega) (by show _ < (c + 1) * 4; omega)]; exact h9 j hj
  · rw [ka 16 _ (by omega) (by omega) (by show c * 4 ≤ _; omega) (by show _ < (c + 1) * 4; omega)]; exact h10
  · rw [kl 17 _ (by omega) (by omega) (by show c * 3 ≤ _; omega) (by show _ < (c + 1) * 3; omega)]; exact h11 j hj
  · rw [ka 19 _ (by omega) (by omega) (by show c * 50 ≤ _; omega) (by show _ < (c + 1) * 50; omega)]; exact h12 j hj
  · rw [ka 20 _ (by omega) (by omega) (by show c * 64 ≤ _; omega) (by show _ < (c + 1) * 64; omega)]; exact h13 hp j hj
  · rw [ka 20 _ (by omega) (by omega) (by show c * 64 ≤ _; omega) (by show _ < (c + 1) * 64; omega)]; exact h14 hp j hj
theorem celR.cW {x : ceT} {c' : Nat} (h : celR F c' x) (k : cW F F' c) (hne : c' ≠ c) (hb : x.i ≤ 6 ∧ x.o ≤ 3 ∧ x.ac ≤ 10) : celR F' c' x := by
  refine h.cg hb (fun r i a b e f => k.2.1 r i a b ?_)
  rcases Nat.lt_or_gt_of_ne hne with z | z
  · exact Or.inl (Nat.lt_of_lt_of_le f (Nat.mul_le_mul_right _ z))
  · exact Or.inr (Nat.le_trans (Nat.mul_le_mul_right _ z) e)
/-- the values of a table that stand in the model at place t -/
def tabR (F : mF) (t : Nat) (x : taT) : Prop := F.a 4 t = nI x.2.1 ∧ F.a 5 t = nI x.2.2.2.1 ∧ (∀ j, j < x.2.1 → F.a 6 (4 * t + j) = x.1 j) ∧ (∀ j, j < x.2.2.2.1 → F.a 7 (4 * t + j) = x.2.2.1 j) ∧ ∀ j, j < x.2.1 * x.2.2.2.1 → F.a 8 (16 * t + j) = x.2.2.2.2 j
def nb (x : Int32) : Prop := ∃ r : Nat, r ≤ 999999 ∧ x = nI r
def wT (x : taT) : Prop := 1 ≤ x.2.1 ∧ x.2.1 ≤ 4 ∧ 1 ≤ x.2.2.2.1 ∧ x.2.2.2.1 ≤ 4 ∧ (∀ j, j + 1 < x.2.1 → x.1 j < x.1 (j + 1)) ∧ (∀ j, j + 1 < x.2.2.2.1 → x.2.2.1 j < x.2.2.1 (j + 1)) ∧ (∀ j, j < x.2.1 → nb (x.1 j)) ∧ (∀ j, j < x.2.2.2.1 → nb (x.2.2.1 j)) ∧ ∀ j, j < x.2.1 * x.2.2.2.1 → nb (x.2.2.2.2 j)
theorem p44 {a b : Nat} (h1 : a ≤ 4) (h2 : b ≤ 4) : a * b ≤ 16 := Nat.mul_le_mul h1 h2
theorem tabR.cg {t : Nat} {x : taT} (h : tabR F t x) (hw : wT x) (k : ∀ r i, 3 ≤ r → r ≤ 8 → t * tsz r ≤ i → i < (t + 1) * tsz r → F'.a r i = F.a r i ∧ F'.l r i = F.l r i) : tabR F' t x := by
  obtain ⟨h1, h2, h3, h4, h5⟩ := h
  have p := p44 hw.2.1 hw.2.2.2.1
  have b1 := hw.2.1
  have b2 := hw.2.2.2.1
  refine ⟨?_, ?_, fun j hj => ?_, fun j hj => ?_, fun j hj => ?_⟩
  · rw [(k 4 _ (by omega) (by omega) (by show t * 1 ≤ _; omega) (by show _ < (t + 1) * 1; omega)).1]; exact h1
  · rw [(k 5 _ (by omega) (by omega) (by show t * 1 ≤ _; omega) (by show _ < (t + 1) * 1; omega)).1]; exact h2
  · rw [(k 6 _ (by omega) (by omega) (by show t * 4 ≤ _; omega) (by show _ < (t + 1) * 4; omega)).1]; exact h3 j hj
  · rw [(k 7 _ (by omega) (by omega) (by show t * 4 ≤ _; omega) (by show _ < (t + 1) * 4; omega)).1]; exact h4 j hj
  · rw [(k 8 _ (by omega) (by omega) (by show t * 16 ≤ _; omega) (by show _ < (t + 1) * 16; omega)).1]; exact h5 j hj
theorem tabR.tW {x : taT} {t t' : Nat} (h : tabR F t' x) (k : tW F F' t) (hne : t' ≠ t) (hw : wT x) : tabR F' t' x := by
  refine h.cg hw (fun r i a b e f => k.1 r i a b ?_)
  rcases Nat.lt_or_gt_of_ne hne with z | z
  · exact Or.inl (Nat.lt_of_lt_of_le f (Nat.mul_le_mul_right _ z))
  · exact Or.inr (Nat.le_trans (Nat.mul_le_mul_right _ z) e)
/-- a library that stands in bank u -/
def wL (L : liT) : Prop := L.tc ≤ 12 ∧ L.cc ≤ 12 ∧ nz L.tn L.tc ∧ uq L.tn L.tc ∧ (∀ t, t < L.tc → wT (L.ts t)) ∧ ∀ k, k < L.cc → wC L.tc (L.cs k) ∧ 0 < (L.cs k).o
def libR (F : mF) (u : Nat) (L : liT) : Prop := tabN F u L.tc L.tn ∧ F.a 9 u = nI L.cc ∧ (∀ t, t < L.tc → tabR F (12 * u + t) (L.ts t)) ∧ ∀ k, k < L.cc → celR F (12 * u + k) (L.cs k)
theorem offb {u v k s i : Nat} (hk : k < 12) (hne : v ≠ u) (h1 : (12 * v + k) * s ≤ i) (h2 : i < (12 * v + k + 1) * s) : i < u * (12 * s) ∨ (u + 1) * (12 * s) ≤ i := by
  rw [← Nat.mul_assoc, ← Nat.mul_assoc]
  rcases Nat.lt_or_gt_of_ne hne with z | z
  · exact Or.inl (Nat.lt_of_lt_of_le h2 (Nat.mul_le_mul_right _ (by omega)))
  · exact Or.inr (Nat.le_trans (Nat.mul_le_mul_right _ (by omega)) h1)
theorem libR.bR {v : Nat} {L : liT} (h : libR F v L) (k : ∀ r i, 2 ≤ r → r ≤ 20 → (i < u * bsz r ∨ (u + 1) * bsz r ≤ i) → F'.a r i = F.a r i ∧ F'.l r i = F.l r i) (hne : v ≠ u) (hw : wL L) : libR F' v L := by
  obtain ⟨⟨a1, a2, a3, a4, a5⟩, b, c, e⟩ := h
  obtain ⟨w1, w2, _, _, w5, w6⟩ := hw
  refine ⟨⟨?_, a2, a3, a4, fun j hj => ?_⟩, ?_, fun t ht => ?_, fun j hj => ?_⟩
  · rw [(k 2 v (by omega) (by omega) (by show v < u * 1 ∨ (u + 1) * 1 ≤ v; omega)).1]; exact a1
  · rw [(k 3 (12 * v + j) (by omega) (by omega) (by show _ < u * 12 ∨ (u + 1) * 12 ≤ _; omega)).2]; exact a5 j hj
  · rw [(k 9 v (by omega) (by omega) (by show v < u * 1 ∨ (u + 1) * 1 ≤ v; omega)).1]; exact b
  · refine (c t ht).cg (w5 t ht) (fun r i h3 h8 g1 g2 => k r i (by omega) (by omega) ?_)
    rw [bsz_t h3 h8]
    exact offb (by omega) hne g1 g2
  · have := (w6 j hj).1
    refine (e j hj).cg ⟨this.1, this.2.1, this.2.2.1⟩ (fun r i h3 h8 g1 g2 => k r i (by omega) (by omega) ?_)
    rw [bsz_c h3]
    exact offb (by omega) hne g1 g2
theorem libR.bK {v : Nat} {L : liT} (h : libR F v L) (k : bK F F' u) (hne : v ≠ u) (hw : wL L) : libR F' v L := h.bR k.1 hne hw
theorem libR.kT {L : liT} (h : libR F u L) (k : keepT F F') : libR F' u L := by
  unfold libR tabN tabR celR
  rw [k.2.1, k.2.2]
  exact h
/-- the model reads a library -/
def mLo (F : mF) (T : Nat → Int32) (n u : Nat) (L : liT) (q : Nat) : Prop := al F T n q ∧ u < 2 ∧ F.s 29 = nI u ∧ libR F u L ∧ wL L
def mLR (F : mF) (T : Nat → Int32) (n u : Nat) (r : Except Nat (liT × Nat)) : Prop := match r with
  | .ok x => mLo F T n u x.1 x.2
  | .error p => de F T n p
def qL (F : mF) (T : Nat → Int32) (n u : Nat) (r : Except Nat (liT × Nat)) : Option Value → mF → Prop := fun v F' => v = none ∧ mLR F' T n u r ∧ bK F F' u
theorem qL.mono {r : Except Nat (liT × Nat)} {v : Option Value} (hk : bK F F1 u) (h : qL F1 T n u r v F') : qL F T n u r v F' := ⟨h.1, h.2.1, hk.tr h.2.2⟩
theorem k29 (k : keepT F F') : F'.s 29 = F.s 29 := k.1 29 (by omega) (by omega) (by omega) (by omega) (by omega)
theorem k30 (k : keepT F F') : F'.s 30 = F.s 30 := k.1 30 (by omega) (by omega) (by omega) (by omega) (by omega)
theorem mLo.kT {q' : Nat} {L : liT} (h : mLo F T n u L q) (ha : al F' T n q') (kt : keepT F F') : mLo F' T n u L q' := ⟨ha, h.2.1, (k29 kt).trans h.2.2.1, h.2.2.2.1.kT kt, h.2.2.2.2⟩
def tkK' (F F1 : mF) : Prop := F1.a 1 = F.a 1 ∧ F1.nm = F.nm ∧ ∀ j, j ≠ 30 → F1.s j = F.s j
theorem mTk.tk {F F1 : mF} {T : Nat → Int32} {n q : Nat} (h : mTk F T n q) (k : tkK' F F1) : mTk F1 T n q := by
  unfold mTk
  rw [k.2.1, k.2.2 23 (by omega), k.2.2 24 (by omega), k.2.2 25 (by omega), k.2.2 27 (by omega)]
  exact h
theorem al.tk (h : al F T n q) (k : tkK' F F1) : al F1 T n q := ⟨k.1.trans h.1, (k.2.2 1 (by omega)).trans h.2.1, h.2.2.1, (k.2.2 28 (by omega)).trans h.2.2.2.1, h.2.2.2.2.1, h.2.2.2.2.2.tk k⟩
theorem de.tk {p : Nat} (h : de F T n p) (k : tkK' F F1) : de F1 T n p := by
  obtain ⟨h1, h2, h3, h4, q, h5, h6, h7⟩ := h
  exact ⟨k.1.trans h1, (k.2.2 1 (by omega)).trans h2, h3, (k.2.2 28 (by omega)).trans h4, q, h5, h6.tk k, h7⟩
end M15
