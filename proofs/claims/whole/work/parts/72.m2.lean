section M2
variable {w : xWd} {d o : Nat} {F : mF} {α : Type} {T : Nat → Int32} {n : Nat}
/-- the word that begins at q stands in the fields -/
def mTk (F : mF) (T : Nat → Int32) (n q : Nat) : Prop := F.s 23 = nI (sS T n q) ∧ F.s 24 = nI (sE T n q) ∧ F.s 25 = nI (sK T n q) ∧ (sK T n q = 1 → F.nm = nmW T (sS T n q) (sE T n q)) ∧ (sK T n q = 2 → F.s 27 = sV T n q)
/-- the model stands where the reading stands, or has failed there -/
def mT (F : mF) (T : Nat → Int32) (n : Nat) (st : Except Nat (α × Nat)) : Prop := F.a 1 = T ∧ F.s 1 = nI n ∧ n ≤ 1400 ∧ match st with
  | .ok x => F.s 28 = 1 ∧ x.2 ≤ n ∧ mTk F T n x.2
  | .error p => F.s 28 = 0 ∧ ∃ q, q ≤ n ∧ mTk F T n q ∧ sS T n q = p
def keepT (F F' : mF) : Prop := (∀ j, j ≠ 23 → j ≠ 24 → j ≠ 25 → j ≠ 27 → j ≠ 28 → F'.s j = F.s j) ∧ F'.a = F.a ∧ F'.l = F.l
theorem keepT.rf : keepT F F := ⟨fun _ _ _ _ _ _ => rfl, rfl, rfl⟩
theorem keepT.tr {F F1 F2 : mF} (h : keepT F F1) (h2 : keepT F1 F2) : keepT F F2 := ⟨fun j a b c d' e => (h2.1 j a b c d' e).trans (h.1 j a b c d' e), h2.2.1.trans h.2.1, h2.2.2.trans h.2.2⟩
variable {st : Except Nat (α × Nat)}
theorem mT.tok (h : mT F T n st) : ∃ q, q ≤ n ∧ mTk F T n q ∧ (∀ x, st = .ok x → x.2 = q) := by
  obtain ⟨h1, h2, h3, h4⟩ := h
  match st, h4 with
  | .ok x, h4 => exact ⟨x.2, h4.2.1, h4.2.2, fun y hy => by cases hy; rfl⟩
  | .error p, h4 =>
    obtain ⟨_, q, a, b, c⟩ := h4
    exact ⟨q, a, b, fun y hy => by cases hy⟩
theorem m_go (h : mT F T n st) : yC w (d + 2) mX11_go [.ref o] o F (fun v F' => v = none ∧ mT F' T n (bnd st (fun x => .ok (x.1, sE T n x.2))) ∧ keepT F F') := by
  refine yC_of (by decide) (ble rfl) (ls := [some (.ref o)]) rfl ?_
  obtain ⟨h1, h2, h3, h4⟩ := h
  match st, h4 with
  | .error p, h4 =>
    refine yX11_go_0 (yX11_go_1 (yX11_go_4 (fun _ => ?_) (fun h9 => absurd h4.1 h9)))
    refine yX11_go_19 ⟨rfl, ⟨h1, h2, h3, h4⟩, keepT.rf⟩
  | .ok x, h4 =>
    obtain ⟨a1, a2, a3⟩ := h4
    obtain ⟨e1, e2⟩ := sE_le T a2
    refine yX11_go_0 (yX11_go_1 (yX11_go_4 (fun h9 => absurd (a1.symm.trans h9) (by decide)) (fun _ => ?_)))
    have hat : (F.uS 23 (F.s 24)).s 23 = nI (sE T n x.2) := a3.2.1
    refine yX11_go_7 (yX11_go_8 (yX11_go_9 (yX11_go_12 (yX11_go_15 (yX11_go_16 (ble rfl) (m_look (F := F.uS 23 (F.s 24)) (T := T) (n := n) h1 h2 h3 hat e2) (yX11_go_19 ⟨rfl, ⟨h1, h2, h3, a1, e2, rfl, rfl, rfl, fun hk => mNm_1 T e2 hk, fun hk => mNu_2 T e2 hk⟩, ⟨fun j b1 b2 b3 b4 b5 => ?_, rfl, rfl⟩⟩))))))
    show (if j = 23 then _ else if j = 24 then _ else if j = 27 then _ else if j = 25 then _ else (if j = 23 then _ else F.1 j)) = F.1 j
    rw [if_neg b1, if_neg b2, if_neg b4, if_neg b3, if_neg b1]
theorem m_needT {v : Int32} (h : mT F T n st) (hv : v = 0 ∨ v = 1) (c : α × Nat → Prop) [hc : ∀ x, Decidable (c x)] (hx : ∀ x, st = .ok x → (v = 1 ↔ c x)) : yC w d mX11_need [.ref o, .int v] o F (fun v' F' => v' = none ∧ mT F' T n (bnd st (fun x => dmd (c x) (sS T n x.2) (.ok x))) ∧ keepT F F') := by
  refine yC_imp (m_need hv) ?_
  rintro v' F' ⟨rfl, rfl⟩
  obtain ⟨h1, h2, h3, h4⟩ := h
  have k : keepT F (F.uS 28 (if F.s 28 = 0 ∨ v = 0 then 0 else 1)) := ⟨fun j _ _ _ _ b5 => if_neg b5, rfl, rfl⟩
  match st, h4 with
  | .error p, h4 =>
    refine ⟨rfl, ⟨h1, h2, h3, ?_⟩, k⟩
    rw [if_pos (Or.inl h4.1)]
    exact ⟨rfl, h4.2⟩
  | .ok x, h4 =>
    have hx := hx x rfl
    refine ⟨rfl, ⟨h1, h2, h3, ?_⟩, k⟩
    have n0 : ¬ F.s 28 = 0 := fun h9 => absurd (h4.1.symm.trans h9) (by decide)
    show match dmd (c x) (sS T n x.2) (.ok x) with
      | .ok x => _
      | .error p => _
    unfold dmd
    by_cases hcx : c x
    · rw [if_pos hcx]
      have v1 := hx.mpr hcx
      refine ⟨?_, h4.2⟩
      show (if F.s 28 = 0 ∨ v = 0 then (0 : Int32) else 1) = 1
      rw [if_neg]
      rintro (h9 | h9)
      · exact n0 h9
      · rw [v1] at h9; exact absurd h9 (by decide)
    · rw [if_neg hcx]
      have v0 : v = 0 := hv.resolve_right (fun h9 => hcx (hx.mp h9))
      refine ⟨?_, x.2, h4.2.1, h4.2.2, rfl⟩
      show (if F.s 28 = 0 ∨ v = 0 then (0 : Int32) else 1) = 0
      rw [if_pos (Or.inr v0)]
/-- whether the word is the sign c -/
def sgn (T : Nat → Int32) (n q : Nat) (c : Int32) : Int32 := if sK T n q = 3 ∧ T (sS T n q) = c then 1 else 0
theorem sgn_01 (T : Nat → Int32) (n q : Nat) (c : Int32) : sgn T n q c = 0 ∨ sgn T n q c = 1 := by unfold sgn; split; exact Or.inr rfl; exact Or.inl rfl
theorem sK_le (T : Nat → Int32) {n q : Nat} (hq : q ≤ n) : sK T n q ≤ 4 := by
  rcases kcase T hq with h | h | h | h | h <;> omega
theorem m_isSign {q : Nat} (c : Int32) (hT : F.a 1 = T) (h14 : n ≤ 1400) (hq : q ≤ n) (ht : mTk F T n q) : yC w d mX11_isSign [.ref o, .int c] o F (yR (some (.int (sgn T n q c))) F) := by
  refine yC_of (by decide) (ble rfl) (ls := [some (.ref o), some (.int c)]) rfl ?_
  have h4 := sK_le T hq
  refine yX11_isSign_0 (yX11_isSign_1 ?_)
  rw [ht.2.2.1]
  refine yX11_isSign_4 (yX11_isSign_5 (fun h9 => ?_) (fun h9 => ?_))
  · refine yX11_isSign_25 (yX11_isSign_26 (Or.inl rfl) ⟨?_, rfl⟩)
    unfold sgn
    rw [if_neg]
    rintro ⟨a, _⟩
    rw [a] at h9
    exact h9 rfl
  · rw [show (3 : Int32) = nI 3 from rfl, nI_eq (by omega) (by omega)] at h9
    have hlt : sS T n q < n := by rcases kcase T hq with h | h | h | h | h <;> omega
    refine yX11_isSign_8 (yX11_isSign_9 (yX11_isSign_12 (yX11_isSign_13 (yX11_isSign_16 (ble rfl) rfl (i := sS T n q) ht.1 (by omega) ?_))))
    rw [hT]
    refine yX11_isSign_17 (yX11_isSign_18 (fun h8 => ?_) (fun h8 => ?_))
    · refine yX11_isSign_25 (yX11_isSign_26 (Or.inl rfl) ⟨?_, rfl⟩)
      unfold sgn
      rw [if_neg (fun z => h8 z.2)]
    · refine yX11_isSign_21 (yX11_isSign_22 (yX11_isSign_26 (Or.inr rfl) ⟨?_, rfl⟩))
      unfold sgn
      rw [if_pos ⟨h9, h8⟩]
def sgOK (i : Nat) : Prop := xSl.getD i 0 = 1 ∧ bDg (chr i 0) = 0 ∧ bLt (chr i 0) = 0
theorem sgn_iff {q i : Nat} (hq : q ≤ n) (hi : sgOK i) : sgn T n q (chr i 0) = 1 ↔ ¬ sW T n q i = 0 := by
  rw [sign_iff T hq hi.1 hi.2.1 hi.2.2]
  unfold sgn
  split
  · simp_all
  · rename_i h
    constructor
    · intro h9; exact absurd h9 (by decide)
    · intro h9; exact absurd h9 h
theorem m_sign {i : Nat} (hi : sgOK i) (h : mT F T n st) : yC w (d + 3) mX11_sign [.ref o, .int (chr i 0)] o F (fun v F' => v = none ∧ mT F' T n (bnd st (fun x => bnd (rSign (tkOf T n) i x.2) (fun q => .ok (x.1, q)))) ∧ keepT F F') := by
  refine yC_of (by decide) (ble rfl) (ls := [some (.ref o), some (.int (chr i 0))]) rfl ?_
  obtain ⟨q, hq, ht, hx⟩ := h.tok
  refine yX11_sign_0 (yX11_sign_1 (yX11_sign_2 (yX11_sign_3 (ble rfl) (m_isSign (chr i 0) h.1 h.2.2.1 hq ht) (yX11_sign_6_g (ble rfl) (m_needT h (sgn_01 _ _ _ _) (fun x => ¬ sW T n x.2 i = 0) (fun x e => by rw [hx x e]; exact sgn_iff hq hi)) (fun v F1 hF => ?_)))))
  obtain ⟨rfl, h1, k1⟩ := hF
  refine yX11_sign_9 (yX11_sign_10_g (ble rfl) (m_go h1) (fun v F2 hF => ?_))
  obtain ⟨rfl, h2, k2⟩ := hF
  refine yX11_sign_13 ⟨rfl, ?_, k1.tr k2⟩
  have e : bnd st (fun x => bnd (rSign (tkOf T n) i x.2) (fun q => .ok (x.1, q))) = bnd (bnd st (fun x => dmd (¬ sW T n x.2 i = 0) (sS T n x.2) (.ok x))) (fun x => .ok (x.1, sE T n x.2)) := by
    match st with
    | .error p => rfl
    | .ok x =>
      show bnd (dmd (¬ sW T n x.2 i = 0) (sS T n x.2) (.ok (sE T n x.2))) _ = bnd (dmd (¬ sW T n x.2 i = 0) (sS T n x.2) (.ok x)) _
      unfold dmd
      split <;> rfl
  rw [e]
  exact h2
theorem m_word (a b c e f : Int32) : yC w d mX11_word [.int a, .int b, .int c, .int e, .int f] o F (yR (some (.long ((((a.toInt64 <<< ((56 : Int32).toInt64 &&& 63) ||| b.toInt64 <<< ((48 : Int32).toInt64 &&& 63)) ||| c.toInt64 <<< ((40 : Int32).toInt64 &&& 63)) ||| e.toInt64 <<< ((32 : Int32).toInt64 &&& 63)) ||| f.toInt64 <<< ((24 : Int32).toInt64 &&& 63)))) F) := by
  refine yC_of (by decide) (ble rfl) (ls := [some (.int a), some (.int b), some (.int c), some (.int e), some (.int f)]) rfl ?_
  refine yX11_word_0 (yX11_word_1 (yX11_word_2 (yX11_word_4 (yX11_word_5 (yX11_word_6 (yX11_word_7 (yX11_word_9 (yX11_word_10 (yX11_word_11 (yX11_word_12 (yX11_word_13 (yX11_word_15 (yX11_word_16 (yX11_word_17 (yX11_word_18 (yX11_word_19 (yX11_word_21 (yX11_word_22 (yX11_word_23 (yX11_word_25 (yX11_word_26 (yX11_word_28 (yX11_word_29 (yX11_word_30 ⟨rfl, rfl⟩))))))))))))))))))))))))
theorem word_all : ∀ i ∈ [0, 4, 7, 8, 18, 19, 20, 21, 22, 23, 24, 25], (((((chr i 0).toInt64 <<< ((56 : Int32).toInt64 &&& 63) ||| (chr i 1).toInt64 <<< ((48 : Int32).toInt64 &&& 63)) ||| (chr i 2).toInt64 <<< ((40 : Int32).toInt64 &&& 63)) ||| (chr i 3).toInt64 <<< ((32 : Int32).toInt64 &&& 63)) ||| (chr i 4).toInt64 <<< ((24 : Int32).toInt64 &&& 63)) = lN (Wn i) := by decide +kernel
theorem m_is {q : Nat} (i : Nat) (hi : i ∈ [0, 4, 7, 8, 18, 19, 20, 21, 22, 23, 24, 25]) (hq : q ≤ n) (ht : mTk F T n q) : yC w (d + 1) mX11_is [.ref o, .int (chr i 0), .int (chr i 1), .int (chr i 2), .int (chr i 3), .int (chr i 4)] o F (yR (some (.int (sW T n q i))) F) := by
  refine yC_of (by decide) (ble rfl) (ls := [some (.ref o), some (.int (chr i 0)), some (.int (chr i 1)), some (.int (chr i 2)), some (.int (chr i 3)), some (.int (chr i 4))]) rfl ?_
  have h4 := sK_le T hq
  have hw := word_iff T hq (wOK_all i hi)
  have h01 := sW_01 T n q i
  have hz : ¬ (sK T n q = 1 ∧ nmW T (sS T n q) (sE T n q) = lN (Wn i)) → sW T n q i = 0 := fun z => h01.resolve_right (fun h9 => z (hw.mp (by rw [h9]; decide)))
  refine yX11_is_0 (yX11_is_1 ?_)
  rw [ht.2.2.1]
  refine yX11_is_4 (yX11_is_5 (fun h9 => ?_) (fun h9 => ?_))
  · rw [hz (fun z => h9 (by rw [z.1]; rfl))]
    refine yX11_is_30 (yX11_is_31 (Or.inl rfl) ⟨rfl, rfl⟩)
  · rw [show (1 : Int32) = nI 1 from rfl, nI_eq (by omega) (by omega)] at h9
    refine yX11_is_8 (yX11_is_9 (yX11_is_12 (yX11_is_13 (yX11_is_14 (yX11_is_15 (yX11_is_17 (yX11_is_19 (ble rfl) (m_word _ _ _ _ _) ?_)))))))
    rw [word_all i hi, ht.2.2.2.1 h9]
    refine yX11_is_22 (yX11_is_23 (fun h8 => ?_) (fun h8 => ?_))
    · rw [lg_cmp_eq] at h8
      rw [hz (fun z => h8 z.2)]
      refine yX11_is_30 (yX11_is_31 (Or.inl rfl) ⟨rfl, rfl⟩)
    · rw [lg_cmp_eq] at h8
      rw [h01.resolve_left (hw.mpr ⟨h9, h8⟩)]
      refine yX11_is_26 (yX11_is_27 (yX11_is_31 (Or.inr rfl) ⟨rfl, rfl⟩))
theorem m_numberNow (h : mT F T n st) : yC w (d + 3) mX11_numberNow [.ref o] o F (fun v F' => ∃ r, v = some (.int r) ∧ mT F' T n (bnd st (fun x => bnd (rNum (tkOf T n) x.2) (fun y => .ok (x.1, y.2)))) ∧ (∀ x, st = .ok x → sK T n x.2 = 2 → r = sV T n x.2) ∧ keepT F F') := by
  refine yC_of (by decide) (ble rfl) (ls := [some (.ref o), none]) rfl ?_
  obtain ⟨q, hq, ht, hx⟩ := h.tok
  have h4 := sK_le T hq
  have G : ∀ v : Int32, (v = 0 ∨ v = 1) → (v = 1 ↔ sK T n q = 2) → Y w mX11_numberNow (d + 3) (fun v F' => ∃ r, v = some (.int r) ∧ mT F' T n (bnd st (fun x => bnd (rNum (tkOf T n) x.2) (fun y => .ok (x.1, y.2)))) ∧ (∀ x, st = .ok x → sK T n x.2 = 2 → r = sV T n x.2) ∧ keepT F F') o 14 [some (.ref o), none] [.int v, .ref o] F := by
    intro v hv hv2
    refine yX11_numberNow_14_g (ble rfl) (m_needT h hv (fun x => sK T n x.2 = 2) (fun x e => by rw [hx x e]; exact hv2)) (fun v F1 hF => ?_)
    obtain ⟨rfl, h1, k1⟩ := hF
    refine yX11_numberNow_17 (yX11_numberNow_18 (yX11_numberNow_21 rfl (yX11_numberNow_22 (yX11_numberNow_23_g (ble rfl) (m_go h1) (fun v F2 hF => ?_)))))
    obtain ⟨rfl, h2, k2⟩ := hF
    refine yX11_numberNow_26 (yX11_numberNow_27 ⟨_, rfl, ?_, ?_, k1.tr k2⟩)
    · have e : bnd st (fun x => bnd (rNum (tkOf T n) x.2) (fun y => .ok (x.1, y.2))) = bnd (bnd st (fun x => dmd (sK T n x.2 = 2) (sS T n x.2) (.ok x))) (fun x => .ok (x.1, sE T n x.2)) := by
        match st with
        | .error p => rfl
        | .ok x =>
          show bnd (dmd (sK T n x.2 = 2) (sS T n x.2) (.ok (sV T n x.2, sE T n x.2))) _ = bnd (dmd (sK T n x.2 = 2) (sS T n x.2) (.ok x)) _
          unfold dmd
          split <;> rfl
      rw [e]
      exact h2
    · intro x e hk
      obtain ⟨_, _, _, h14⟩ := h1
      subst e
      have e2 : bnd (.ok x) (fun x : α × Nat => dmd (sK T n x.2 = 2) (sS T n x.2) (.ok x)) = .ok x := if_pos hk
      rw [e2] at h14
      exact h14.2.2.2.2.2.2 hk
  refine yX11_numberNow_0 (yX11_numberNow_1 (yX11_numberNow_2 ?_))
  rw [ht.2.2.1]
  refine yX11_numberNow_5 (yX11_numberNow_6 (fun h9 => ?_) (fun h9 => ?_))
  · refine yX11_numberNow_13 ?_
    refine G 0 (Or.inl rfl) ⟨fun z => absurd z (by decide), fun z => ?_⟩
    rw [z] at h9
    exact absurd rfl h9
  · refine yX11_numberNow_9 (yX11_numberNow_10 ?_)
    rw [show (2 : Int32) = nI 2 from rfl, nI_eq (by omega) (by omega)] at h9
    exact G 1 (Or.inr rfl) ⟨fun _ => h9, fun _ => rfl⟩
end M2
