section Leaf
variable {w : xWd} {d : Nat} {P : xH}
def pb (b : Prop) [Decidable b] : Int32 := if b then 1 else 0
theorem pb_01 (b : Prop) [Decidable b] : pb b = 0 ∨ pb b = 1 := by unfold pb; by_cases h : b <;> simp [h]
theorem pb_t {b : Prop} [Decidable b] (h : b) : pb b = 1 := if_pos h
theorem pb_f {b : Prop} [Decidable b] (h : ¬ b) : pb b = 0 := if_neg h
def isDg (c : Int32) : Prop := 48 ≤ c ∧ c ≤ 57
def isLt (c : Int32) : Prop := (97 ≤ c ∧ c ≤ 122) ∨ (65 ≤ c ∧ c ≤ 90) ∨ c = 95
noncomputable def isDgD (c : Int32) : Decidable (isDg c) := Classical.propDecidable _
def bDg (c : Int32) : Int32 := if 48 ≤ c ∧ c ≤ 57 then 1 else 0
def bLt (c : Int32) : Int32 := if (97 ≤ c ∧ c ≤ 122) ∨ (65 ≤ c ∧ c ≤ 90) ∨ c = 95 then 1 else 0
theorem nlt {x y : Int32} : ¬ x < y ↔ y ≤ x := Int32.not_lt
theorem nle {x y : Int32} : ¬ x ≤ y ↔ y < x := Int32.not_le
theorem c_isDigit (c : Int32) : xC w d mX9_isDigit [.int c] P (xRet (some (.int (bDg c))) P) := by
  refine xC_of (by decide) (by decide) (ls := [some (.int c)]) rfl ?_
  refine sX9_isDigit_0 (sX9_isDigit_1 (sX9_isDigit_3 (fun h3 => ?_) (fun h3 => ?_)))
  · refine sX9_isDigit_16 (sX9_isDigit_17 (by first | exact Or.inl rfl | exact Or.inr rfl) ?_)
    refine ⟨?_, rfl⟩; unfold bDg; simp_all [nlt, nle]; try omega
  · refine sX9_isDigit_6 (sX9_isDigit_7 (sX9_isDigit_9 (fun h9 => ?_) (fun h9 => ?_)))
    · refine sX9_isDigit_16 (sX9_isDigit_17 (by first | exact Or.inl rfl | exact Or.inr rfl) ?_)
      refine ⟨?_, rfl⟩; unfold bDg; simp_all [nlt, nle]; try omega
    · refine sX9_isDigit_12 (sX9_isDigit_13 (sX9_isDigit_17 (by first | exact Or.inl rfl | exact Or.inr rfl) ?_))
      refine ⟨?_, rfl⟩; unfold bDg; simp_all [nlt, nle]; try omega
theorem c_isLetter (c : Int32) : xC w d mX9_isLetter [.int c] P (xRet (some (.int (bLt c))) P) := by
  refine xC_of (by decide) (by decide) (ls := [some (.int c)]) rfl ?_
  refine sX9_isLetter_0 (sX9_isLetter_1 (sX9_isLetter_3 (fun h3 => ?_) (fun h3 => ?_)))
  · refine sX9_isLetter_12 (sX9_isLetter_13 (sX9_isLetter_15 (fun h15 => ?_) (fun h15 => ?_)))
    · refine sX9_isLetter_24 (sX9_isLetter_25 (sX9_isLetter_27 (fun h27 => ?_) (fun h27 => ?_)))
      · refine sX9_isLetter_34 (sX9_isLetter_35 (by first | exact Or.inl rfl | exact Or.inr rfl) ?_)
        refine ⟨?_, rfl⟩; unfold bLt; simp_all [nlt, nle]
      · refine sX9_isLetter_30 (sX9_isLetter_31 (sX9_isLetter_35 (by first | exact Or.inl rfl | exact Or.inr rfl) ?_))
        refine ⟨?_, rfl⟩; unfold bLt; simp_all [nlt, nle]
    · refine sX9_isLetter_18 (sX9_isLetter_19 (sX9_isLetter_21 (fun h21 => ?_) (fun h21 => ?_)))
      · refine sX9_isLetter_30 (sX9_isLetter_31 (sX9_isLetter_35 (by first | exact Or.inl rfl | exact Or.inr rfl) ?_))
        refine ⟨?_, rfl⟩; unfold bLt; simp_all [nlt, nle]
      · refine sX9_isLetter_24 (sX9_isLetter_25 (sX9_isLetter_27 (fun h27 => ?_) (fun h27 => ?_)))
        · refine sX9_isLetter_34 (sX9_isLetter_35 (by first | exact Or.inl rfl | exact Or.inr rfl) ?_)
          refine ⟨?_, rfl⟩; unfold bLt; simp_all [nlt, nle]
        · refine sX9_isLetter_30 (sX9_isLetter_31 (sX9_isLetter_35 (by first | exact Or.inl rfl | exact Or.inr rfl) ?_))
          refine ⟨?_, rfl⟩; unfold bLt; simp_all [nlt, nle]
  · refine sX9_isLetter_6 (sX9_isLetter_7 (sX9_isLetter_9 (fun h9 => ?_) (fun h9 => ?_)))
    · refine sX9_isLetter_30 (sX9_isLetter_31 (sX9_isLetter_35 (by first | exact Or.inl rfl | exact Or.inr rfl) ?_))
      refine ⟨?_, rfl⟩; unfold bLt; simp_all [nlt, nle]
    · refine sX9_isLetter_12 (sX9_isLetter_13 (sX9_isLetter_15 (fun h15 => ?_) (fun h15 => ?_)))
      · refine sX9_isLetter_24 (sX9_isLetter_25 (sX9_isLetter_27 (fun h27 => ?_) (fun h27 => ?_)))
        · refine sX9_isLetter_34 (sX9_isLetter_35 (by first | exact Or.inl rfl | exact Or.inr rfl) ?_)
          refine ⟨?_, rfl⟩; unfold bLt; simp_all [nlt, nle]
        · refine sX9_isLetter_30 (sX9_isLetter_31 (sX9_isLetter_35 (by first | exact Or.inl rfl | exact Or.inr rfl) ?_))
          refine ⟨?_, rfl⟩; unfold bLt; simp_all [nlt, nle]
      · refine sX9_isLetter_18 (sX9_isLetter_19 (sX9_isLetter_21 (fun h21 => ?_) (fun h21 => ?_)))
        · refine sX9_isLetter_30 (sX9_isLetter_31 (sX9_isLetter_35 (by first | exact Or.inl rfl | exact Or.inr rfl) ?_))
          refine ⟨?_, rfl⟩; unfold bLt; simp_all [nlt, nle]
        · refine sX9_isLetter_24 (sX9_isLetter_25 (sX9_isLetter_27 (fun h27 => ?_) (fun h27 => ?_)))
          · refine sX9_isLetter_34 (sX9_isLetter_35 (by first | exact Or.inl rfl | exact Or.inr rfl) ?_)
            refine ⟨?_, rfl⟩; unfold bLt; simp_all [nlt, nle]
          · refine sX9_isLetter_30 (sX9_isLetter_31 (sX9_isLetter_35 (by first | exact Or.inl rfl | exact Or.inr rfl) ?_))
            refine ⟨?_, rfl⟩; unfold bLt; simp_all [nlt, nle]
end Leaf
