section M3
variable {w : xWd} {d o : Nat} {F : mF} {T : Nat → Int32} {n : Nat}
theorem K_S {q : Nat} : (tkOf T n).S q = sS T n q := rfl
theorem K_E {q : Nat} : (tkOf T n).E q = sE T n q := rfl
theorem K_K {q : Nat} : (tkOf T n).K q = sK T n q := rfl
theorem K_N {q : Nat} : (tkOf T n).N q = sN T n q := rfl
theorem K_V {q : Nat} : (tkOf T n).V q = sV T n q := rfl
theorem K_W {q i : Nat} : (tkOf T n).W q i = sW T n q i := rfl
theorem bnd_ok {α β : Type} {r : Except Nat α} {f : α → Except Nat β} {y : β} (h : bnd r f = .ok y) : ∃ x, r = .ok x ∧ f x = .ok y := by
  match r, h with
  | .ok x, h => exact ⟨x, rfl, h⟩
  | .error p, h => cases h
theorem dmd_ok {α : Type} {b : Prop} [Decidable b] {s : Nat} {r : Except Nat α} {y : α} (h : dmd b s r = .ok y) : b ∧ r = .ok y := by
  unfold dmd at h
  split at h
  · exact ⟨by assumption, h⟩
  · cases h
theorem dmd_t {α : Type} {b : Prop} [Decidable b] {s : Nat} {r : Except Nat α} (h : b) : dmd b s r = r := if_pos h
theorem dmd_f {α : Type} {b : Prop} [Decidable b] {s : Nat} {r : Except Nat α} (h : ¬ b) : dmd b s r = .error s := if_neg h
theorem ixm (a b c : Nat) : nI a * nI b + nI c = nI (a * b + c) := by rw [pk_mul, nI_add]
theorem m_tableOf (x : Int64) {u tc : Nat} (hu : u < 2) (h12 : tc ≤ 12) (h2 : F.a 2 u = nI tc) : yC w d mX11_tableOf [.ref o, .long x, .int (nI u)] o F (yR (some (.int (lmat (fun k => F.l 3 (12 * u + k)) x tc 0 (-1)))) F) := by
  refine yC_of (by decide) (ble rfl) (ls := [some (.ref o), some (.long x), none, some (.int (nI u)), none, none]) rfl ?_
  have L : ∀ m k a, k + m = tc → Y w mX11_tableOf d (yR (some (.int (lmat (fun k => F.l 3 (12 * u + k)) x m k a))) F) o 6 [some (.ref o), some (.long x), none, some (.int (nI u)), some (.int a), some (.int (nI k))] [] F := by
    intro m
    induction m with
    | zero =>
      intro k a hk
      refine yX11_tableOf_6 (yX11_tableOf_8 (yX11_tableOf_9 (yX11_tableOf_12 (yX11_tableOf_13 (ble rfl) rfl (i := u) rfl hu ?_))))
      rw [h2]
      refine yX11_tableOf_14 (fun _ => ?_) (fun h9 => absurd (nI_le (by omega) (by omega)) h9)
      refine yX11_tableOf_49 (yX11_tableOf_51 ⟨rfl, rfl⟩)
    | succ m ih =>
      intro k a hk
      refine yX11_tableOf_6 (yX11_tableOf_8 (yX11_tableOf_9 (yX11_tableOf_12 (yX11_tableOf_13 (ble rfl) rfl (i := u) rfl hu ?_))))
      rw [h2]
      refine yX11_tableOf_14 (fun h9 => absurd h9 (nI_ge (by omega) (by omega))) (fun _ => ?_)
      have G : ∀ b : Int32, b = (if F.l 3 (12 * u + k) = x then nI k else a) → Y w mX11_tableOf d (yR (some (.int (lmat (fun k => F.l 3 (12 * u + k)) x (m + 1) k a))) F) o 41 [some (.ref o), some (.long x), none, some (.int (nI u)), some (.int a), some (.int (nI k))] [.int b] F := by
        intro b hb
        refine yX11_tableOf_41 rfl (yX11_tableOf_43 rfl (yX11_tableOf_46 ?_))
        rw [nI_1, hb]
        exact ih (k + 1) _ (by omega)
      refine yX11_tableOf_17 (yX11_tableOf_18 (yX11_tableOf_21 (yX11_tableOf_23 (yX11_tableOf_24 (yX11_tableOf_25 (yX11_tableOf_27 (yX11_tableOf_28 (ble rfl) rfl (i := 12 * u + k) (by first | rfl | (simp only [← nI_add, ← pk_mul]; rfl) | (simp only [*, ← nI_add, ← pk_mul]; rfl)) (by omega) (yX11_tableOf_29 (yX11_tableOf_30 (yX11_tableOf_31 (fun h9 => ?_) (fun h9 => ?_)))))))))))
      · rw [lg_cmp_eq] at h9
        refine yX11_tableOf_39 ?_
        exact G a (by rw [if_neg h9])
      · rw [lg_cmp_eq] at h9
        refine yX11_tableOf_34 (yX11_tableOf_36 ?_)
        exact G _ (by rw [if_pos h9])
  have L0 := L tc 0 (-1) (by omega)
  rw [nI_0] at L0
  refine yX11_tableOf_0 (yX11_tableOf_1 rfl (yX11_tableOf_3 (yX11_tableOf_4 rfl ?_)))
  exact L0
theorem m_pinOf (x : Int64) {c fr many : Nat} (hc : c < 24) (hb : fr + many ≤ 9) (h30 : F.s 30 = nI c) : yC w d mX11_pinOf [.ref o, .long x, .int (nI fr), .int (nI many)] o F (yR (some (.int (lmat (fun k => F.l 12 (9 * c + fr + k)) x many 0 (-1)))) F) := by
  refine yC_of (by decide) (ble rfl) (ls := [some (.ref o), some (.long x), none, some (.int (nI fr)), some (.int (nI many)), none, none]) rfl ?_
  have L : ∀ m k a, k + m = many → Y w mX11_pinOf d (yR (some (.int (lmat (fun k => F.l 12 (9 * c + fr + k)) x m k a))) F) o 6 [some (.ref o), some (.long x), none, some (.int (nI fr)), some (.int (nI many)), some (.int a), some (.int (nI k))] [] F := by
    intro m
    induction m with
    | zero =>
      intro k a hk
      refine yX11_pinOf_6 (yX11_pinOf_8 (yX11_pinOf_10 (fun _ => ?_) (fun h9 => absurd (nI_le (by omega) (by omega)) h9)))
      refine yX11_pinOf_50 (yX11_pinOf_52 ⟨rfl, rfl⟩)
    | succ m ih =>
      intro k a hk
      refine yX11_pinOf_6 (yX11_pinOf_8 (yX11_pinOf_10 (fun h9 => absurd h9 (nI_ge (by omega) (by omega))) (fun _ => ?_)))
      have G : ∀ b : Int32, b = (if F.l 12 (9 * c + fr + k) = x then nI k else a) → Y w mX11_pinOf d (yR (some (.int (lmat (fun k => F.l 12 (9 * c + fr + k)) x (m + 1) k a))) F) o 42 [some (.ref o), some (.long x), none, some (.int (nI fr)), some (.int (nI many)), some (.int a), some (.int (nI k))] [.int b] F := by
        intro b hb
        refine yX11_pinOf_42 rfl (yX11_pinOf_44 rfl (yX11_pinOf_47 ?_))
        rw [nI_1, hb]
        exact ih (k + 1) _ (by omega)
      refine yX11_pinOf_13 (yX11_pinOf_14 (yX11_pinOf_17 (yX11_pinOf_19 (yX11_pinOf_20 (yX11_pinOf_23 (yX11_pinOf_24 (yX11_pinOf_25 (yX11_pinOf_26 (yX11_pinOf_28 (yX11_pinOf_29 (ble rfl) rfl (i := 9 * c + fr + k) (by rw [h30, ← nI_add, ← nI_add, ← pk_mul]; rfl) (by omega) (yX11_pinOf_30 (yX11_pinOf_31 (yX11_pinOf_32 (fun h9 => ?_) (fun h9 => ?_))))))))))))))
      · rw [lg_cmp_eq] at h9
        refine yX11_pinOf_40 ?_
        exact G a (by rw [if_neg h9])
      · rw [lg_cmp_eq] at h9
        refine yX11_pinOf_35 (yX11_pinOf_37 ?_)
        exact G _ (by rw [if_pos h9])
  have L0 := L many 0 (-1) (by omega)
  rw [nI_0] at L0
  refine yX11_pinOf_0 (yX11_pinOf_1 rfl (yX11_pinOf_3 (yX11_pinOf_4 rfl ?_)))
  exact L0
/-- whether the name is a pin's -/
def isP (F : mF) (c i o : Nat) : Int32 := if lmat (fun k => F.l 12 (9 * c + 0 + k)) F.nm i 0 (-1) = -1 ∧ lmat (fun k => F.l 12 (9 * c + 6 + k)) F.nm o 0 (-1) = -1 then 0 else 1
theorem m_isPin {c i o' : Nat} (hc : c < 24) (h30 : F.s 30 = nI c) (hi : i ≤ 6) (ho : o' ≤ 3) (e1 : F.a 13 c = nI i) (e2 : F.a 14 c = nI o') : yC w (d + 1) mX11_isPin [.ref o] o F (yR (some (.int (isP F c i o'))) F) := by
  refine yC_of (by decide) (ble rfl) (ls := [some (.ref o)]) rfl ?_
  refine yX11_isPin_0 (yX11_isPin_1 (yX11_isPin_2 (yX11_isPin_5 (yX11_isPin_6 (yX11_isPin_7 (yX11_isPin_10 (yX11_isPin_11 (yX11_isPin_14 (ble rfl) rfl (i := c) h30 hc ?_))))))))
  rw [e1]
  refine yX11_isPin_15 (ble rfl) (m_pinOf F.nm (fr := 0) hc (by omega) h30) (yX11_isPin_18 (yX11_isPin_19 (fun h9 => ?_) (fun h9 => ?_)))
  · refine yX11_isPin_45 (yX11_isPin_46 (yX11_isPin_50 (Or.inr rfl) ⟨?_, rfl⟩))
    unfold isP
    rw [if_neg (fun z => h9 z.1)]
  · refine yX11_isPin_22 (yX11_isPin_23 (yX11_isPin_24 (yX11_isPin_27 (yX11_isPin_29 (yX11_isPin_30 (yX11_isPin_33 (yX11_isPin_34 (yX11_isPin_37 (ble rfl) rfl (i := c) h30 hc ?_))))))))
    rw [e2]
    refine yX11_isPin_38 (ble rfl) (m_pinOf F.nm (fr := 6) hc (by omega) h30) (yX11_isPin_41 (yX11_isPin_42 (fun h8 => ?_) (fun h8 => ?_)))
    · refine yX11_isPin_49 (yX11_isPin_50 (Or.inl rfl) ⟨?_, rfl⟩)
      unfold isP
      rw [if_pos ⟨h9, h8⟩]
    · refine yX11_isPin_45 (yX11_isPin_46 (yX11_isPin_50 (Or.inr rfl) ⟨?_, rfl⟩))
      unfold isP
      rw [if_neg (fun z => h8 z.2)]
theorem isP_iff {c : Nat} {x : ceT} (hr : celR F c x) (hi : x.i ≤ 6) (ho : x.o ≤ 3) : isP F c x.i x.o = 0 ↔ fnd x.pins F.nm 0 (x.i + x.o) = -1 := by
  have r6 : ∀ k, k < x.i → F.l 12 (9 * c + 0 + k) = x.pins k := fun k hk => by rw [Nat.add_zero]; exact hr.2.2.2.2.2.1 k hk
  have r7 := hr.2.2.2.2.2.2.1
  unfold isP
  rcases fnd_c x.pins F.nm (x.i + x.o) 0 with ⟨a, b⟩ | ⟨k, a1, a2, a3, a4, a5⟩
  · rw [a]
    rw [if_pos]
    · simp
    · refine ⟨?_, ?_⟩
      · rcases lmat_c (fun k => F.l 12 (9 * c + 0 + k)) F.nm x.i 0 (-1) with ⟨c1, _⟩ | ⟨k, c1, c2, c3, c4⟩
        · exact c1
        · exact absurd ((r6 k (by omega)).symm.trans c3) (b k (by omega) (by omega))
      · rcases lmat_c (fun k => F.l 12 (9 * c + 6 + k)) F.nm x.o 0 (-1) with ⟨c1, _⟩ | ⟨k, c1, c2, c3, c4⟩
        · exact c1
        · exact absurd ((r7 k (by omega)).symm.trans c3) (b (x.i + k) (by omega) (by omega))
  · have n1 : ¬ fnd x.pins F.nm 0 (x.i + x.o) = -1 := by rw [a4]; exact nI_m1 (by omega)
    rw [if_neg]
    · constructor
      · intro h9; exact absurd h9 (by decide)
      · intro h9; exact absurd h9 n1
    · rintro ⟨z1, z2⟩
      rcases Nat.lt_or_ge k x.i with hk | hk
      · rcases lmat_c (fun k => F.l 12 (9 * c + 0 + k)) F.nm x.i 0 (-1) with ⟨c1, c2⟩ | ⟨k', c1, c2, c3, c4⟩
        · exact c2 k (by omega) (by omega) ((r6 k hk).trans a3)
        · rw [c4] at z1; exact nI_m1 (by omega) z1
      · rcases lmat_c (fun k => F.l 12 (9 * c + 6 + k)) F.nm x.o 0 (-1) with ⟨c1, c2⟩ | ⟨k', c1, c2, c3, c4⟩
        · refine c2 (k - x.i) (by omega) (by omega) ((r7 (k - x.i) (by omega)).trans ?_)
          rw [show x.i + (k - x.i) = k by omega]; exact a3
        · rw [c4] at z2; exact nI_m1 (by omega) z2
theorem sN_0 {q : Nat} (hq : q ≤ n) : ¬ sN T n q = 0 ↔ sK T n q = 1 := by
  unfold sN
  split
  · rename_i h; exact ⟨fun _ => h, fun _ => nm_ne0 T hq h⟩
  · rename_i h; exact ⟨fun z => absurd rfl z, fun z => absurd z h⟩
theorem ul_s {f : Nat → Int64} {k : Nat} {x : Int64} : uL f k x k = x := pk_uLs
theorem ul_n {f : Nat → Int64} {k j : Nat} {x : Int64} (h : j ≠ k) : uL f k x j = f j := pk_uLn h
theorem fnd_no {f : Nat → Int64} {x : Int64} {m : Nat} (hm : m < 2 ^ 31) (h : fnd f x 0 m = -1) : ∀ k, k < m → ¬ f k = x := by
  rcases fnd_c f x m 0 with ⟨_, b⟩ | ⟨k, a1, a2, a3, a4, a5⟩
  · exact fun k hk => b k (by omega) (by omega)
  · rw [a4] at h; exact absurd h (nI_m1 (by omega))
theorem nz_add {f : Nat → Int64} {x : Int64} {m : Nat} (h : nz f m) (hx : ¬ x = 0) : nz (uL f m x) (m + 1) := by
  intro k hk
  by_cases e : k = m
  · subst e; rw [ul_s]; exact hx
  · rw [ul_n e]; exact h k (by omega)
theorem uq_add {f : Nat → Int64} {x : Int64} {m : Nat} (h : uq f m) (hx : ∀ k, k < m → ¬ f k = x) : uq (uL f m x) (m + 1) := by
  intro k j hk hj
  by_cases e : k = m
  · by_cases e' : j = m
    · intro _; omega
    · subst e; rw [ul_s, ul_n e']; intro z; exact absurd z.symm (hx j (by omega))
  · by_cases e' : j = m
    · subst e'; rw [ul_s, ul_n e]; intro z; exact absurd z (hx k (by omega))
    · rw [ul_n e, ul_n e']; exact h k j (by omega) (by omega)
theorem wC_inp {tc : Nat} {K : tkT} {c c' : ceT} {q q' : Nat} (h : rInp K c q = .ok (c', q')) (hw : wC tc c) : wC tc c' := by
  obtain ⟨h1, h⟩ := dmd_ok h
  obtain ⟨h2, h⟩ := dmd_ok h
  obtain ⟨x, h3, h⟩ := bnd_ok h
  obtain ⟨h4, h3⟩ := dmd_ok h3
  cases h3
  cases h
  obtain ⟨w1, w2, w3, w4, w5, w6, w7, w8, w9⟩ := hw
  have ho : c.o = 0 := h1.1
  refine ⟨h2, w2, w3, ?_, ?_, w6, w7, fun k hk => ?_, fun k hk => ?_⟩
  · show nz (uL c.pins (c.i + c.o) (K.N (K.E q))) (c.i + 1 + c.o)
    rw [show c.i + 1 + c.o = c.i + c.o + 1 by omega]
    exact nz_add w4 h4.1
  · show uq (uL c.pins (c.i + c.o) (K.N (K.E q))) (c.i + 1 + c.o)
    rw [show c.i + 1 + c.o = c.i + c.o + 1 by omega]
    exact uq_add w5 (fnd_no (by omega) h4.2)
  · obtain ⟨⟨a, a1, a2⟩, ⟨b, b1, b2⟩, r⟩ := w8 k hk
    rw [ho] at b1; omega
  · have hk : k < c.o := hk
    omega
end M3
