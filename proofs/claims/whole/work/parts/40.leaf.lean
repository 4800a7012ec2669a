section Leaf
variable {w : xWd} {d : Nat} {P : xH}
theorem ble {a b : Nat} (h : Nat.ble a b = true) : a ≤ b := Nat.le_of_ble_eq_true h
def pb (b : Prop) [Decidable b] : Int32 := if b then 1 else 0
theorem pb_01 (b : Prop) [Decidable b] : pb b = 0 ∨ pb b = 1 := by unfold pb; by_cases h : b <;> simp [h]
theorem pb_t {b : Prop} [Decidable b] (h : b) : pb b = 1 := if_pos h
theorem pb_f {b : Prop} [Decidable b] (h : ¬ b) : pb b = 0 := if_neg h
def isDg (c : Int32) : Prop := 48 ≤ c ∧ c ≤ 57
def isLt (c : Int32) : Prop := (97 ≤ c ∧ c ≤ 122) ∨ (65 ≤ c ∧ c ≤ 90) ∨ c = 95
noncomputable def isDgD (c : Int32) : Decidable (isDg c) := Classical.propDecidable _
def bDg (c : Int32) : Int32 := if 48 ≤ c ∧ c ≤ 57 then 1 else 0
def bLt (c : Int32) : Int32 := if (97 ≤ c ∧ c ≤ 122) ∨ (65 ≤ c ∧ c ≤ 90) ∨ c = 95 then 1 else 0
theorem nlt {x y : Int32} : ¬ x < y ↔ y ≤ x := Int32.not_lt
theorem nle {x y : Int32} : ¬ x ≤ y ↔ y < x := Int32.not_le
theorem c_isDigit (c : Int32) : xC w d mX9_isDigit [.int c] P (xRet (some (.int (bDg c))) P) := by
  refine xC_of (by decide) (Nat.le_of_ble_eq_true rfl) (ls := [some (.int c)]) rfl ?_
  refine sX9_isDigit_0 (sX9_isDigit_1 (sX9_isDigit_3 (fun h3 => ?_) (fun h3 => ?_)))
  · refine sX9_isDigit_16 (sX9_isDigit_17 (by first | exact Or.inl rfl | exact Or.inr rfl) ?_)
    refine ⟨?_, rfl⟩; unfold bDg; grind
  · refine sX9_isDigit_6 (sX9_isDigit_7 (sX9_isDigit_9 (fun h9 => ?_) (fun h9 => ?_)))
    · refine sX9_isDigit_16 (sX9_isDigit_17 (by first | exact Or.inl rfl | exact Or.inr rfl) ?_)
      refine ⟨?_, rfl⟩; unfold bDg; grind
    · refine sX9_isDigit_12 (sX9_isDigit_13 (sX9_isDigit_17 (by first | exact Or.inl rfl | exact Or.inr rfl) ?_))
      refine ⟨?_, rfl⟩; unfold bDg; grind
theorem c_isLetter (c : Int32) : xC w d mX9_isLetter [.int c] P (xRet (some (.int (bLt c))) P) := by
  refine xC_of (by decide) (Nat.le_of_ble_eq_true rfl) (ls := [some (.int c)]) rfl ?_
  refine sX9_isLetter_0 (sX9_isLetter_1 (sX9_isLetter_3 (fun h3 => ?_) (fun h3 => ?_)))
  · refine sX9_isLetter_12 (sX9_isLetter_13 (sX9_isLetter_15 (fun h15 => ?_) (fun h15 => ?_)))
    · refine sX9_isLetter_24 (sX9_isLetter_25 (sX9_isLetter_27 (fun h27 => ?_) (fun h27 => ?_)))
      · refine sX9_isLetter_34 (sX9_isLetter_35 (by first | exact Or.inl rfl | exact Or.inr rfl) ?_)
        refine ⟨?_, rfl⟩; unfold bLt; grind
      · refine sX9_isLetter_30 (sX9_isLetter_31 (sX9_isLetter_35 (by first | exact Or.inl rfl | exact Or.inr rfl) ?_))
        refine ⟨?_, rfl⟩; unfold bLt; grind
    · refine sX9_isLetter_18 (sX9_isLetter_19 (sX9_isLetter_21 (fun h21 => ?_) (fun h21 => ?_)))
      · refine sX9_isLetter_30 (sX9_isLetter_31 (sX9_isLetter_35 (by first | exact Or.inl rfl | exact Or.inr rfl) ?_))
        refine ⟨?_, rfl⟩; unfold bLt; grind
      · refine sX9_isLetter_24 (sX9_isLetter_25 (sX9_isLetter_27 (fun h27 => ?_) (fun h27 => ?_)))
        · refine sX9_isLetter_34 (sX9_isLetter_35 (by first | exact Or.inl rfl | exact Or.inr rfl) ?_)
          refine ⟨?_, rfl⟩; unfold bLt; grind
        · refine sX9_isLetter_30 (sX9_isLetter_31 (sX9_isLetter_35 (by first | exact Or.inl rfl | exact Or.inr rfl) ?_))
          refine ⟨?_, rfl⟩; unfold bLt; grind
  · refine sX9_isLetter_6 (sX9_isLetter_7 (sX9_isLetter_9 (fun h9 => ?_) (fun h9 => ?_)))
    · refine sX9_isLetter_30 (sX9_isLetter_31 (sX9_isLetter_35 (by first | exact Or.inl rfl | exact Or.inr rfl) ?_))
      refine ⟨?_, rfl⟩; unfold bLt; grind
    · refine sX9_isLetter_12 (sX9_isLetter_13 (sX9_isLetter_15 (fun h15 => ?_) (fun h15 => ?_)))
      · refine sX9_isLetter_24 (sX9_isLetter_25 (sX9_isLetter_27 (fun h27 => ?_) (fun h27 => ?_)))
        · refine sX9_isLetter_34 (sX9_isLetter_35 (by first | exact Or.inl rfl | exact Or.inr rfl) ?_)
          refine ⟨?_, rfl⟩; unfold bLt; grind
        · refine sX9_isLetter_30 (sX9_isLetter_31 (sX9_isLetter_35 (by first | exact Or.inl rfl | exact Or.inr rfl) ?_))
          refine ⟨?_, rfl⟩; unfold bLt; grind
      · refine sX9_isLetter_18 (sX9_isLetter_19 (sX9_isLetter_21 (fun h21 => ?_) (fun h21 => ?_)))
        · refine sX9_isLetter_30 (sX9_isLetter_31 (sX9_isLetter_35 (by first | exact Or.inl rfl | exact Or.inr rfl) ?_))
          refine ⟨?_, rfl⟩; unfold bLt; grind
        · refine sX9_isLetter_24 (sX9_isLetter_25 (sX9_isLetter_27 (fun h27 => ?_) (fun h27 => ?_)))
          · refine sX9_isLetter_34 (sX9_isLetter_35 (by first | exact Or.inl rfl | exact Or.inr rfl) ?_)
            refine ⟨?_, rfl⟩; unfold bLt; grind
          · refine sX9_isLetter_30 (sX9_isLetter_31 (sX9_isLetter_35 (by first | exact Or.inl rfl | exact Or.inr rfl) ?_))
            refine ⟨?_, rfl⟩; unfold bLt; grind
end Leaf
section Find
variable {w : xWd} {d : Nat} {P : xH}
/-- the first place of x in a row from i on, n places -/
def fnd (f : Nat → Int64) (x : Int64) : Nat → Nat → Int32
  | _, 0 => -1
  | i, n + 1 => if f i = x then nI i else fnd f x (i + 1) n
theorem c_find (f : Nat → Int64) (x : Int64) {a n sz : Nat} (hP : P.1 a = some (xJ n f)) (hsz : sz ≤ n) (hn : n < 2 ^ 31) : xC w d mX4_find [.long x, .ref a, .int (nI sz)] P (xRet (some (.int (fnd f x 0 sz))) P) := by
  refine xC_of (by decide) (Nat.le_of_ble_eq_true rfl) (ls := [some (.long x), none, some (.ref a), some (.int (nI sz)), none]) rfl ?_
  have L : ∀ m i, i + m = sz → X w mX4_find d (xRet (some (.int (fnd f x i m))) P) 3 [some (.long x), none, some (.ref a), some (.int (nI sz)), some (.int (nI i))] [] P := by
    intro m
    induction m with
    | zero =>
      intro i hi
      refine sX4_find_3 (sX4_find_5 (sX4_find_6 (fun h => ?_) (fun h => absurd (nI_le (by omega) (by omega)) h)))
      refine sX4_find_27 (sX4_find_28 ⟨rfl, rfl⟩)
    | succ m ih =>
      intro i hi
      refine sX4_find_3 (sX4_find_5 (sX4_find_6 (fun h => absurd h (nI_ge (by omega) (by omega))) (fun h => ?_)))
      refine sX4_find_9 (sX4_find_10 (sX4_find_12 hP (vp_in_nI (by omega) hn) ?_))
      rw [nI_clamp (by omega)]
      refine sX4_find_13 (sX4_find_14 (sX4_find_15 (fun h => ?_) (fun h => ?_)))
      · have hne : ¬ f i = x := fun e => h (by rw [lg_cmp_eq]; exact e)
        refine sX4_find_21 rfl (sX4_find_24 ?_)
        rw [nI_1, show fnd f x i (m + 1) = fnd f x (i + 1) m by simp [fnd, hne]]
        exact ih (i + 1) (by omega)
      · have he : f i = x := by rw [lg_cmp_eq] at h; exact h
        refine sX4_find_18 (sX4_find_20 ⟨by simp [fnd, he], rfl⟩)
  have L0 := L sz 0 (by omega)
  rw [nI_0] at L0
  refine sX4_find_0 (sX4_find_1 rfl ?_)
  exact L0
end Find
