section Q4
variable {w : xWd} {d o : Nat} {F : mF} {T : Nat → Int32} {n b : Nat} {L : liT}
/-! the model looks for an order -/
theorem or_n : ∀ a c : Fin 64, nI a.val ||| nI c.val = nI (a.val ||| c.val) := by decide +kernel
theorem bit_n : ∀ s : Fin 64, ∀ j : Fin 6, (nI s.val >>> (nI j.val &&& 31)) &&& 1 = if s.val.testBit j.val then 1 else 0 := by decide +kernel
theorem sh0 : ∀ j : Fin 6, (0 : Int32) <<< (nI j.val &&& 31) = 0 := by decide +kernel
/-- some of the states 2 ^ (v j), joined -/
def oR (g : Nat → Bool) (v : Nat → Nat) : Nat → Nat
  | 0 => 0
  | k + 1 => oR g v k ||| (if g k then 2 ^ v k else 0)
theorem oR_b {g : Nat → Bool} {v : Nat → Nat} {m : Nat} : ∀ k, ((oR g v k).testBit m = true ↔ ∃ j, j < k ∧ g j = true ∧ v j = m) := by
  intro k
  induction k with
  | zero => exact ⟨fun h => by simp [oR] at h, fun ⟨j, h, _⟩ => by omega⟩
  | succ k ih =>
    show (oR g v k ||| (if g k then 2 ^ v k else 0)).testBit m = true ↔ _
    rw [Nat.testBit_or, Bool.or_eq_true, ih]
    constructor
    · rintro (⟨j, a, c, e⟩ | h)
      · exact ⟨j, by omega, c, e⟩
      · cases hg : g k
        · rw [hg] at h; simp at h
        · rw [hg] at h
          have h : (2 ^ v k).testBit m = true := h
          rw [Nat.testBit_two_pow] at h
          exact ⟨k, by omega, hg, by simpa using h⟩
    · rintro ⟨j, a, c, e⟩
      by_cases z : j = k
      · subst z
        right
        rw [c]
        show (2 ^ v j).testBit m = true
        rw [Nat.testBit_two_pow]
        simpa using e
      · exact Or.inl ⟨j, by omega, c, e⟩
theorem oR_lt {g : Nat → Bool} {v : Nat → Nat} {n : Nat} : ∀ k, (∀ j, j < k → v j < n) → oR g v k < 2 ^ n := by
  intro k
  induction k with
  | zero => intro _; exact Nat.two_pow_pos n
  | succ k ih =>
    intro h
    refine Nat.or_lt_two_pow (ih (fun j hj => h j (by omega))) ?_
    split
    · exact Nat.pow_lt_pow_right (by omega) (h k (by omega))
    · exact Nat.two_pow_pos n
theorem pw64 {j : Nat} (h : j < 6) : 2 ^ j < 64 := by have := p64 h; omega
/-- the way stands in the row -/
def wy (F : mF) (v : Nat → Nat) (n : Nat) : Prop := ∀ j, j < n → F.a 23 j = nI (v j) ∧ v j < n
theorem m_isOrder {v : Nat → Nat} (hn : n ≤ 6) (h : wy F v n) : yC w d mX11_isOrder [.ref o, .int (nI n)] o F (fun r F' => F' = F ∧ ∃ z : Int32, r = some (.int z) ∧ (z = 0 ∨ z = 1) ∧ (z = 1 ↔ onto v n)) := by
  refine yC_of (by decide) (ble rfl) (ls := [some (.ref o), some (.int (nI n)), none, none]) rfl ?_
  have h6 : ∀ j, j < n → v j < 6 := fun j hj => by have := (h j hj).2; omega
  have Lp : ∀ m k, k + m = n → Y w mX11_isOrder d (fun r F' => F' = F ∧ ∃ z : Int32, r = some (.int z) ∧ (z = 0 ∨ z = 1) ∧ (z = 1 ↔ onto v n)) o 4 [some (.ref o), some (.int (nI n)), some (.int (nI (oR (fun _ => true) v k))), some (.int (nI k))] [] F := by
    intro m
    induction m with
    | zero =>
      intro k hk
      obtain rfl : k = n := by omega
      refine yX11_isOrder_4 (yX11_isOrder_5 (yX11_isOrder_6 (fun _ => ?_) (fun h9 => absurd (Int32.le_refl _) h9)))
      refine yX11_isOrder_26 (yX11_isOrder_27 (yX11_isOrder_28 (yX11_isOrder_29 ?_)))
      rw [sh1 ⟨k, by omega⟩]
      refine yX11_isOrder_30 (yX11_isOrder_31 ?_)
      have p0 := Nat.two_pow_pos k
      rw [show nI (2 ^ k) - 1 = nI (2 ^ k - 1) from pk_sub (b := 1) p0]
      have hlt := oR_lt (g := fun _ => true) (n := k) k (fun j hj => (h j hj).2)
      have p6 : 2 ^ k ≤ 64 := Nat.pow_le_pow_right (n := 2) (by omega) hn
      have key : oR (fun _ => true) v k = 2 ^ k - 1 ↔ onto v k := by
        constructor
        · intro e m hm
          have : (oR (fun _ => true) v k).testBit m = true := by rw [e, Nat.testBit_two_pow_sub_one]; simpa using hm
          obtain ⟨j, a, _, c⟩ := (oR_b k).mp this
          exact ⟨j, a, c⟩
        · intro ho
          refine bits_eq hlt (by omega) (fun m hm => ?_)
          obtain ⟨j, a, c⟩ := ho m hm
          rw [(oR_b k).mpr ⟨j, a, rfl, c⟩, Nat.testBit_two_pow_sub_one]
          simpa using hm
      refine yX11_isOrder_32 (fun h9 => ?_) (fun h9 => ?_)
      · refine yX11_isOrder_39 (yX11_isOrder_40 (Or.inl rfl) ⟨rfl, 0, rfl, Or.inl rfl, ⟨fun z => absurd z (by decide), fun z => absurd (by rw [key.mpr z]) h9⟩⟩)
      · refine yX11_isOrder_35 (yX11_isOrder_36 (yX11_isOrder_40 (Or.inr rfl) ⟨rfl, 1, rfl, Or.inr rfl, ⟨fun _ => key.mp ((nI_eq (by omega) (by omega)).mp h9), fun _ => rfl⟩⟩))
    | succ m ih =>
      intro k hk
      refine yX11_isOrder_4 (yX11_isOrder_5 (yX11_isOrder_6 (fun h9 => absurd h9 (nI_ge (by omega) (by omega))) (fun _ => ?_)))
      refine yX11_isOrder_9 (yX11_isOrder_10 (yX11_isOrder_11 (yX11_isOrder_12 (yX11_isOrder_15 (yX11_isOrder_16 (ble rfl) rfl (i := k) rfl (by omega) ?_)))))
      rw [(h k (by omega)).1]
      refine yX11_isOrder_17 ?_
      have hk6 := h6 k (by omega)
      rw [sh5 ⟨v k, hk6⟩]
      refine yX11_isOrder_18 ?_
      have hlt := oR_lt (g := fun _ => true) (v := v) (n := 6) k (fun j hj => h6 j (by omega))
      rw [or_n ⟨oR (fun _ => true) v k, hlt⟩ ⟨2 ^ v k, pw64 hk6⟩]
      refine yX11_isOrder_19 rfl (yX11_isOrder_20 rfl (yX11_isOrder_23 ?_))
      rw [nI_1]
      exact ih (k + 1) (by omega)
  refine yX11_isOrder_0 (yX11_isOrder_1 rfl (yX11_isOrder_2 (yX11_isOrder_3 rfl ?_)))
  exact Lp n 0 (by omega)
theorem rel_tt {v : Nat → Nat} {s t : Nat} (h1 : ∀ j, j < n → v j < n) (h2 : inj v n) (hs : s < 2 ^ n) : rel v n s t ↔ t = oR (fun j => s.testBit j) v n := by
  have key : rel v n s (oR (fun j => s.testBit j) v n) := by
    refine ⟨hs, oR_lt n h1, fun j hj => ?_⟩
    have B := oR_b (g := fun j => s.testBit j) (v := v) (m := v j) n
    cases e : s.testBit j
    · cases e2 : (oR (fun j => s.testBit j) v n).testBit (v j)
      · rfl
      · obtain ⟨j', a, c, e'⟩ := B.mp e2
        rw [h2 j' j a hj e'] at c
        exact absurd (e.symm.trans c) (by decide)
    · exact B.mpr ⟨j, hj, e, rfl⟩
  constructor
  · intro h
    refine bits_eq h.2.1 key.2.1 (fun m hm => ?_)
    obtain ⟨j, hj, rfl⟩ := (inj_onto h1).mp h2 m hm
    rw [h.2.2 j hj, key.2.2 j hj]
  · intro h; rw [h]; exact key
theorem bb_ne : ∀ a c : Bool, lg_cmp (bb a) (bb c) = 0 ↔ a = c := by decide
theorem m_fits {v : Nat → Nat} {ca cb : Nat} {x y : Int64} (hn : n ≤ 6) (ha : ca < 24) (hb : cb < 24) (e13 : F.a 13 ca = nI n) (ex : F.l 17 (3 * ca) = x) (ey : F.l 17 (3 * cb) = y) (h : wy F v n) (hi : inj v n) : yC w d mX11_fits [.ref o, .int (nI ca), .int (nI cb)] o F (fun r F' => F' = F ∧ ∃ z : Int32, r = some (.int z) ∧ (z = 0 ∨ z = 1) ∧ (z = 1 ↔ GD n x y v)) := by
  have p6 : 2 ^ n ≤ 64 := Nat.pow_le_pow_right (n := 2) (by omega) hn
  have h1 : ∀ j, j < n → v j < n := fun j hj => (h j hj).2
  have h6 : ∀ j, j < n → v j < 6 := fun j hj => by have := h1 j hj; omega
  refine yC_of (by decide) (ble rfl) (ls := [some (.ref o), some (.int (nI ca)), some (.int (nI cb)), none, none, none, none, none]) rfl ?_
  have Z : ∀ (z : Int32) (s : Nat) (t2 t3 : Option Value), (z = 0 ∨ z = 1) → (z = 1 ↔ GD n x y v) → Y w mX11_fits d (fun r F' => F' = F ∧ ∃ z : Int32, r = some (.int z) ∧ (z = 0 ∨ z = 1) ∧ (z = 1 ↔ GD n x y v)) o 107 [some (.ref o), some (.int (nI ca)), some (.int (nI cb)), some (.int (nI n)), some (.int z), some (.int (nI s)), t2, t3] [] F := by
    intro z s t2 t3 hz hg
    refine yX11_fits_107 (yX11_fits_109 (by assumption) ⟨rfl, z, rfl, hz, hg⟩)
  have In : ∀ (s : Nat), s < 2 ^ n → ∀ m k (t3 : Option Value), k + m = n → (Y w mX11_fits d (fun r F' => F' = F ∧ ∃ z : Int32, r = some (.int z) ∧ (z = 0 ∨ z = 1) ∧ (z = 1 ↔ GD n x y v)) o 64 [some (.ref o), some (.int (nI ca)), some (.int (nI cb)), some (.int (nI n)), some (.int 1), some (.int (nI s)), some (.int (nI (oR (fun j => s.testBit j) v n))), some (.int (nI n))] [] F) → Y w mX11_fits d (fun r F' => F' = F ∧ ∃ z : Int32, r = some (.int z) ∧ (z = 0 ∨ z = 1) ∧ (z = 1 ↔ GD n x y v)) o 32 [some (.ref o), some (.int (nI ca)), some (.int (nI cb)), some (.int (nI n)), some (.int 1), some (.int (nI s)), some (.int (nI (oR (fun j => s.testBit j) v k))), some (.int (nI k))] [] F := by
    intro s hs m
    induction m with
    | zero =>
      intro k t3 hk K
      obtain rfl : k = n := by omega
      refine yX11_fits_32 (yX11_fits_34 (yX11_fits_35 (fun _ => ?_) (fun h9 => absurd (Int32.le_refl _) h9)))
      exact K
    | succ m ih =>
      intro k t3 hk K
      have hk6 := h6 k (by omega)
      have hlt := oR_lt (g := fun j => s.testBit j) (v := v) (n := 6) k (fun j hj => h6 j (by omega))
      refine yX11_fits_32 (yX11_fits_34 (yX11_fits_35 (fun h9 => absurd h9 (nI_ge (by omega) (by omega))) (fun _ => ?_)))
      refine yX11_fits_38 (yX11_fits_40 (yX11_fits_42 (yX11_fits_44 (yX11_fits_45 (yX11_fits_46 ?_)))))
      rw [bit_n ⟨s, by omega⟩ ⟨k, by omega⟩]
      refine yX11_fits_47 (yX11_fits_48 (yX11_fits_51 (yX11_fits_53 (ble rfl) rfl (i := k) rfl (by omega) ?_)))
      rw [(h k (by omega)).1]
      refine yX11_fits_54 ?_
      rw [show (if s.testBit k = true then (1 : Int32) else 0) <<< (nI (v k) &&& 31) = nI (if s.testBit k then 2 ^ v k else 0) by
        cases s.testBit k
        · exact sh0 ⟨v k, hk6⟩
        · exact sh5 ⟨v k, hk6⟩]
      refine yX11_fits_55 ?_
      rw [or_n ⟨oR (fun j => s.testBit j) v k, hlt⟩ ⟨if s.testBit k then 2 ^ v k else 0, by have := pw64 hk6; split <;> omega⟩]
      refine yX11_fits_56 rfl (yX11_fits_58 rfl (yX11_fits_61 ?_))
      rw [nI_1]
      exact ih (k + 1) t3 (by omega) K
  have Lp : ∀ m s (t2 t3 : Option Value), s + m = 2 ^ n → (∀ s', s' < s → bt x s' = bt y (oR (fun j => s'.testBit j) v n)) → Y w mX11_fits d (fun r F' => F' = F ∧ ∃ z : Int32, r = some (.int z) ∧ (z = 0 ∨ z = 1) ∧ (z = 1 ↔ GD n x y v)) o 13 [some (.ref o), some (.int (nI ca)), some (.int (nI cb)), some (.int (nI n)), some (.int 1), some (.int (nI s)), t2, t3] [] F := by
    intro m
    induction m with
    | zero =>
      intro s t2 t3 hs hg
      obtain rfl : s = 2 ^ n := by omega
      refine yX11_fits_13 (yX11_fits_15 (yX11_fits_16 (yX11_fits_17 ?_)))
      rw [sh1 ⟨n, by omega⟩]
      refine yX11_fits_18 (fun _ => ?_) (fun h9 => absurd (Int32.le_refl _) h9)
      exact Z 1 (2 ^ n) t2 t3 (Or.inr rfl) ⟨fun _ => ⟨h1, hi, fun s t hr => by rw [(rel_tt h1 hi hr.1).mp hr]; exact hg s hr.1⟩, fun _ => rfl⟩
    | succ m ih =>
      intro s t2 t3 hs hg
      have hlt := oR_lt (g := fun j => s.testBit j) (v := v) (n := 6) n h6
      refine yX11_fits_13 (yX11_fits_15 (yX11_fits_16 (yX11_fits_17 ?_)))
      rw [sh1 ⟨n, by omega⟩]
      refine yX11_fits_18 (fun h9 => absurd h9 (nI_ge (by show s < 2 ^ n; omega) (by show 2 ^ n < _; omega))) (fun _ => ?_)
      refine yX11_fits_21 (yX11_fits_23 (fun h9 => absurd h9 (by decide)) (fun _ => ?_))
      refine yX11_fits_26 (yX11_fits_27 rfl (yX11_fits_29 (yX11_fits_30 rfl ?_)))
      refine In s (by omega) n 0 t3 (by omega) ?_
      refine yX11_fits_64 (yX11_fits_65 (yX11_fits_68 (yX11_fits_69 (yX11_fits_70 (yX11_fits_71 (ble rfl) rfl (i := 3 * ca) (pk_mul 3 _) (by omega) ?_)))))
      rw [ex]
      refine yX11_fits_72 (yX11_fits_74 (yX11_fits_75 (yX11_fits_76 ?_)))
      rw [bt_sh x (show s < 64 by omega)]
      refine yX11_fits_77 (yX11_fits_78 (yX11_fits_81 (yX11_fits_82 (yX11_fits_83 (yX11_fits_84 (ble rfl) rfl (i := 3 * cb) (pk_mul 3 _) (by omega) ?_)))))
      rw [ey]
      refine yX11_fits_85 (yX11_fits_87 (yX11_fits_88 (yX11_fits_89 ?_)))
      rw [bt_sh y hlt]
      refine yX11_fits_90 ?_
      show Y w mX11_fits d _ o 91 _ [.int (lg_cmp (bb (bt x s)) (bb (bt y (oR (fun j => s.testBit j) v n))))] F
      refine yX11_fits_91 (fun h9 => ?_) (fun h9 => ?_)
      · rw [bb_ne] at h9
        refine yX11_fits_98 (yX11_fits_99 rfl (yX11_fits_101 rfl (yX11_fits_104 ?_)))
        rw [nI_1]
        refine yX11_fits_13 (yX11_fits_15 (yX11_fits_16 (yX11_fits_17 ?_)))
        rw [sh1 ⟨n, by omega⟩]
        have ng : (0 : Int32) = 1 ↔ GD n x y v := ⟨fun z => absurd z (by decide), fun z => absurd (z.2.2 s _ ((rel_tt h1 hi (by omega)).mpr rfl)) h9⟩
        refine yX11_fits_18 (fun _ => ?_) (fun _ => ?_)
        · exact Z 0 (s + 1) _ _ (Or.inl rfl) ng
        · refine yX11_fits_21 (yX11_fits_23 (fun _ => ?_) (fun h8 => absurd rfl h8))
          exact Z 0 (s + 1) _ _ (Or.inl rfl) ng
      · rw [bb_ne] at h9
        refine yX11_fits_94 (yX11_fits_95 (yX11_fits_99 rfl (yX11_fits_101 rfl (yX11_fits_104 ?_))))
        rw [nI_1]
        refine ih (s + 1) _ _ (by omega) (fun s' hs' => ?_)
        rcases Nat.lt_or_eq_of_le (Nat.lt_succ_iff.mp hs') with z | z
        · exact hg s' z
        · subst z; exact h9
  refine yX11_fits_0 (yX11_fits_1 (yX11_fits_4 (yX11_fits_5 (ble rfl) rfl (i := ca) rfl ha ?_)))
  rw [e13]
  refine yX11_fits_6 rfl (yX11_fits_7 (yX11_fits_8 rfl (yX11_fits_10 (yX11_fits_11 rfl ?_))))
  exact Lp (2 ^ n) 0 none none (by omega) (fun s' hs' => by omega)
end Q4
