section RR
variable {L : liT} {f f' : Nat → Int32}
theorem insG_cg {c s0 : Nat} : ∀ s f f', s ≤ s0 → (∀ j, j < s0 + 1 → j ≠ s → f j = f' j) → ∀ j, j < s0 + 1 → insG L c s f j = insG L c s f' j := by
  intro s
  induction s with
  | zero =>
    intro f f' _ h j hj
    show upd f 0 (nI c) j = upd f' 0 (nI c) j
    by_cases e : j = 0
    · subst e; rw [pk_us, pk_us]
    · rw [pk_un e, pk_un e]; exact h j hj e
  | succ s ih =>
    intro f f' hs h j hj
    unfold insG
    rw [h s (by omega) (by omega)]
    split
    · by_cases e : j = s + 1
      · subst e; rw [pk_us, pk_us]
      · rw [pk_un e, pk_un e]; exact h j hj e
    · refine ih _ _ (by omega) (fun i hi hne => ?_) j hj
      by_cases e : i = s + 1
      · subst e; rw [pk_us, pk_us]
      · rw [pk_un e, pk_un e]; exact h i hi e
theorem gaG_cg {k : Nat} : ∀ m c f f' s, (∀ j, j < s → f j = f' j) → (gaG L k m c f s).2 = (gaG L k m c f' s).2 ∧ ∀ j, j < (gaG L k m c f s).2 → (gaG L k m c f s).1 j = (gaG L k m c f' s).1 j := by
  intro m
  induction m with
  | zero => intro c f f' s h; exact ⟨rfl, h⟩
  | succ m ih =>
    intro c f f' s h
    unfold gaG
    split
    · exact ih _ _ _ _ h
    · exact ih _ _ _ _ (insG_cg s f f' (Nat.le_refl _) (fun j hj hne => h j (by omega)))
theorem bsG_cg {ld : Int32} : ∀ m i x, (∀ j, j < i + m → f j = f' j) → bsG L f ld m i x = bsG L f' ld m i x := by
  intro m
  induction m with
  | zero => intro i x _; rfl
  | succ m ih =>
    intro i x h
    unfold bsG
    rw [h i (by omega)]
    exact ih _ _ (fun j hj => h j (by omega))
theorem family_cg (hw : wL L) {k i : Int32} : aFamily L k i f' = aFamily L k i f := by
  unfold aFamily
  by_cases hk : ix k L.cc
  · rw [if_pos hk, if_pos hk]
    by_cases hi : 0 ≤ i
    · rw [if_pos hi, if_pos hi]
      obtain ⟨a, c⟩ := gaG_cg (L := L) (k := k.toNatClampNeg) L.cc 0 f' f 0 (fun j hj => by omega)
      have hok := gaG_ok (L := L) (k := k.toNatClampNeg) hw.2.1 L.cc 0 f' 0 (by omega) ⟨Nat.le_refl _, fun j hj => by omega⟩
      have h12 := hw.2.1
      have hs := hok.1
      rw [← a]
      by_cases z : i < nI (gaG L k.toNatClampNeg L.cc 0 f' 0).2
      · rw [if_pos z, if_pos z]
        obtain ⟨u, hu, rfl⟩ := ix_of (k := i) (n := (gaG L k.toNatClampNeg L.cc 0 f' 0).2) (by omega) ⟨by grind, z⟩
        rw [nI_clamp (by omega), c u hu]
      · rw [if_neg z, if_neg z]
    · rw [if_neg hi, if_neg hi]
  · rw [if_neg hk, if_neg hk]
theorem best_cg (hw : wL L) {k ld : Int32} : aBest L k ld f' = aBest L k ld f := by
  unfold aBest
  by_cases hk : ix k L.cc
  · rw [if_pos hk, if_pos hk]
    by_cases hi : ld < 0
    · rw [if_pos hi, if_pos hi]
    · rw [if_neg hi, if_neg hi]
      obtain ⟨a, c⟩ := gaG_cg (L := L) (k := k.toNatClampNeg) L.cc 0 f' f 0 (fun j hj => by omega)
      rw [← a, bsG_cg _ _ _ (fun j hj => c j (by omega))]
  · rw [if_neg hk, if_neg hk]
end RR
section RS
variable {w : xWd} {d : Nat} {P P1 : xH} {Q : Outcome → xH → Prop} {ls : List (Option Value)} {st : List Value}
theorem sL_law_36_s {i : Int32} (hi : vp_in i w.2.2.2.2.2.1) (k : X w mL_law d Q 37 ls (.int (w.2.2.2.2.2.2 i.toNatClampNeg) :: st) P) : X w mL_law d Q 36 ls (.int i :: .ref (w.ad 0) :: st) P := X_sld (M := mL_law) dL_law_36 hi k
theorem sL_law_122_s {i : Int32} (hi : vp_in i w.2.2.2.2.2.1) (k : X w mL_law d Q 123 ls (.int (w.2.2.2.2.2.2 i.toNatClampNeg) :: st) P) : X w mL_law d Q 122 ls (.int i :: .ref (w.ad 0) :: st) P := X_sld (M := mL_law) dL_law_122 hi k
theorem sL_law_132_s {i : Int32} (hi : vp_in i w.2.2.2.2.2.1) (k : X w mL_law d Q 133 ls (.int (w.2.2.2.2.2.2 i.toNatClampNeg) :: st) P) : X w mL_law d Q 132 ls (.int i :: .ref (w.ad 0) :: st) P := X_sld (M := mL_law) dL_law_132 hi k
theorem sL_law_147_s {i : Int32} (hi : vp_in i w.2.2.2.2.2.1) (k : X w mL_law d Q 148 ls (.int (w.2.2.2.2.2.2 i.toNatClampNeg) :: st) P) : X w mL_law d Q 147 ls (.int i :: .ref (w.ad 0) :: st) P := X_sld (M := mL_law) dL_law_147 hi k
theorem sL_law_157_s {i : Int32} (hi : vp_in i w.2.2.2.2.2.1) (k : X w mL_law d Q 158 ls (.int (w.2.2.2.2.2.2 i.toNatClampNeg) :: st) P) : X w mL_law d Q 157 ls (.int i :: .ref (w.ad 0) :: st) P := X_sld (M := mL_law) dL_law_157 hi k
theorem sL_law_185_s {i : Int32} (hi : vp_in i w.2.2.2.2.2.1) (k : X w mL_law d Q 186 ls (.int (w.2.2.2.2.2.2 i.toNatClampNeg) :: st) P) : X w mL_law d Q 185 ls (.int i :: .ref (w.ad 0) :: st) P := X_sld (M := mL_law) dL_law_185 hi k
theorem sL_law_191_s {i : Int32} (hi : vp_in i w.2.2.2.2.2.1) (k : X w mL_law d Q 192 ls (.int (w.2.2.2.2.2.2 i.toNatClampNeg) :: st) P) : X w mL_law d Q 191 ls (.int i :: .ref (w.ad 0) :: st) P := X_sld (M := mL_law) dL_law_191 hi k
theorem sL_law_204_s {i : Int32} (hi : vp_in i w.2.2.2.2.2.1) (k : X w mL_law d Q 205 ls (.int (w.2.2.2.2.2.2 i.toNatClampNeg) :: st) P) : X w mL_law d Q 204 ls (.int i :: .ref (w.ad 0) :: st) P := X_sld (M := mL_law) dL_law_204 hi k
theorem sL_law_210_s {i : Int32} (hi : vp_in i w.2.2.2.2.2.1) (k : X w mL_law d Q 211 ls (.int (w.2.2.2.2.2.2 i.toNatClampNeg) :: st) P) : X w mL_law d Q 210 ls (.int i :: .ref (w.ad 0) :: st) P := X_sld (M := mL_law) dL_law_210 hi k
theorem sL_law_253_s {i : Int32} (hi : vp_in i w.2.2.2.2.2.1) (k : X w mL_law d Q 254 ls (.int (w.2.2.2.2.2.2 i.toNatClampNeg) :: st) P) : X w mL_law d Q 253 ls (.int i :: .ref (w.ad 0) :: st) P := X_sld (M := mL_law) dL_law_253 hi k
theorem sL_law_259_s {i : Int32} (hi : vp_in i w.2.2.2.2.2.1) (k : X w mL_law d Q 260 ls (.int (w.2.2.2.2.2.2 i.toNatClampNeg) :: st) P) : X w mL_law d Q 259 ls (.int i :: .ref (w.ad 0) :: st) P := X_sld (M := mL_law) dL_law_259 hi k
theorem sL_law_272_s {i : Int32} (hi : vp_in i w.2.2.2.2.2.1) (k : X w mL_law d Q 273 ls (.int (w.2.2.2.2.2.2 i.toNatClampNeg) :: st) P) : X w mL_law d Q 272 ls (.int i :: .ref (w.ad 0) :: st) P := X_sld (M := mL_law) dL_law_272 hi k
theorem sL_law_278_s {i : Int32} (hi : vp_in i w.2.2.2.2.2.1) (k : X w mL_law d Q 279 ls (.int (w.2.2.2.2.2.2 i.toNatClampNeg) :: st) P) : X w mL_law d Q 278 ls (.int i :: .ref (w.ad 0) :: st) P := X_sld (M := mL_law) dL_law_278 hi k
theorem sL_law_320_s {i : Int32} (hi : vp_in i w.2.2.2.2.2.1) (k : X w mL_law d Q 321 ls (.int (w.2.2.2.2.2.2 i.toNatClampNeg) :: st) P) : X w mL_law d Q 320 ls (.int i :: .ref (w.ad 0) :: st) P := X_sld (M := mL_law) dL_law_320 hi k
theorem sL_law_326_s {i : Int32} (hi : vp_in i w.2.2.2.2.2.1) (k : X w mL_law d Q 327 ls (.int (w.2.2.2.2.2.2 i.toNatClampNeg) :: st) P) : X w mL_law d Q 326 ls (.int i :: .ref (w.ad 0) :: st) P := X_sld (M := mL_law) dL_law_326 hi k
theorem sL_law_332_s {i : Int32} (hi : vp_in i w.2.2.2.2.2.1) (k : X w mL_law d Q 333 ls (.int (w.2.2.2.2.2.2 i.toNatClampNeg) :: st) P) : X w mL_law d Q 332 ls (.int i :: .ref (w.ad 0) :: st) P := X_sld (M := mL_law) dL_law_332 hi k
theorem sL_law_345_s {i : Int32} (hi : vp_in i w.2.2.2.2.2.1) (k : X w mL_law d Q 346 ls (.int (w.2.2.2.2.2.2 i.toNatClampNeg) :: st) P) : X w mL_law d Q 345 ls (.int i :: .ref (w.ad 0) :: st) P := X_sld (M := mL_law) dL_law_345 hi k
theorem sL_law_351_s {i : Int32} (hi : vp_in i w.2.2.2.2.2.1) (k : X w mL_law d Q 352 ls (.int (w.2.2.2.2.2.2 i.toNatClampNeg) :: st) P) : X w mL_law d Q 351 ls (.int i :: .ref (w.ad 0) :: st) P := X_sld (M := mL_law) dL_law_351 hi k
theorem sL_law_357_s {i : Int32} (hi : vp_in i w.2.2.2.2.2.1) (k : X w mL_law d Q 358 ls (.int (w.2.2.2.2.2.2 i.toNatClampNeg) :: st) P) : X w mL_law d Q 357 ls (.int i :: .ref (w.ad 0) :: st) P := X_sld (M := mL_law) dL_law_357 hi k
theorem sL_law_400_s {i : Int32} (hi : vp_in i w.2.2.2.2.2.1) (k : X w mL_law d Q 401 ls (.int (w.2.2.2.2.2.2 i.toNatClampNeg) :: st) P) : X w mL_law d Q 400 ls (.int i :: .ref (w.ad 0) :: st) P := X_sld (M := mL_law) dL_law_400 hi k
theorem sL_law_406_s {i : Int32} (hi : vp_in i w.2.2.2.2.2.1) (k : X w mL_law d Q 407 ls (.int (w.2.2.2.2.2.2 i.toNatClampNeg) :: st) P) : X w mL_law d Q 406 ls (.int i :: .ref (w.ad 0) :: st) P := X_sld (M := mL_law) dL_law_406 hi k
theorem sL_law_412_s {i : Int32} (hi : vp_in i w.2.2.2.2.2.1) (k : X w mL_law d Q 413 ls (.int (w.2.2.2.2.2.2 i.toNatClampNeg) :: st) P) : X w mL_law d Q 412 ls (.int i :: .ref (w.ad 0) :: st) P := X_sld (M := mL_law) dL_law_412 hi k
theorem sL_law_425_s {i : Int32} (hi : vp_in i w.2.2.2.2.2.1) (k : X w mL_law d Q 426 ls (.int (w.2.2.2.2.2.2 i.toNatClampNeg) :: st) P) : X w mL_law d Q 425 ls (.int i :: .ref (w.ad 0) :: st) P := X_sld (M := mL_law) dL_law_425 hi k
theorem sL_law_431_s {i : Int32} (hi : vp_in i w.2.2.2.2.2.1) (k : X w mL_law d Q 432 ls (.int (w.2.2.2.2.2.2 i.toNatClampNeg) :: st) P) : X w mL_law d Q 431 ls (.int i :: .ref (w.ad 0) :: st) P := X_sld (M := mL_law) dL_law_431 hi k
theorem sL_law_437_s {i : Int32} (hi : vp_in i w.2.2.2.2.2.1) (k : X w mL_law d Q 438 ls (.int (w.2.2.2.2.2.2 i.toNatClampNeg) :: st) P) : X w mL_law d Q 437 ls (.int i :: .ref (w.ad 0) :: st) P := X_sld (M := mL_law) dL_law_437 hi k
theorem sL_law_480_s {i : Int32} (hi : vp_in i w.2.2.2.2.2.1) (k : X w mL_law d Q 481 ls (.int (w.2.2.2.2.2.2 i.toNatClampNeg) :: st) P) : X w mL_law d Q 480 ls (.int i :: .ref (w.ad 0) :: st) P := X_sld (M := mL_law) dL_law_480 hi k
theorem sL_law_486_s {i : Int32} (hi : vp_in i w.2.2.2.2.2.1) (k : X w mL_law d Q 487 ls (.int (w.2.2.2.2.2.2 i.toNatClampNeg) :: st) P) : X w mL_law d Q 486 ls (.int i :: .ref (w.ad 0) :: st) P := X_sld (M := mL_law) dL_law_486 hi k
theorem sL_law_492_s {i : Int32} (hi : vp_in i w.2.2.2.2.2.1) (k : X w mL_law d Q 493 ls (.int (w.2.2.2.2.2.2 i.toNatClampNeg) :: st) P) : X w mL_law d Q 492 ls (.int i :: .ref (w.ad 0) :: st) P := X_sld (M := mL_law) dL_law_492 hi k
theorem sL_law_498_s {i : Int32} (hi : vp_in i w.2.2.2.2.2.1) (k : X w mL_law d Q 499 ls (.int (w.2.2.2.2.2.2 i.toNatClampNeg) :: st) P) : X w mL_law d Q 498 ls (.int i :: .ref (w.ad 0) :: st) P := X_sld (M := mL_law) dL_law_498 hi k
theorem sL_law_504_s {i : Int32} (hi : vp_in i w.2.2.2.2.2.1) (k : X w mL_law d Q 505 ls (.int (w.2.2.2.2.2.2 i.toNatClampNeg) :: st) P) : X w mL_law d Q 504 ls (.int i :: .ref (w.ad 0) :: st) P := X_sld (M := mL_law) dL_law_504 hi k
theorem sL_law_525_s {i : Int32} (hi : vp_in i w.2.2.2.2.2.1) (k : X w mL_law d Q 526 ls (.int (w.2.2.2.2.2.2 i.toNatClampNeg) :: st) P) : X w mL_law d Q 525 ls (.int i :: .ref (w.ad 0) :: st) P := X_sld (M := mL_law) dL_law_525 hi k
theorem sL_law_531_s {i : Int32} (hi : vp_in i w.2.2.2.2.2.1) (k : X w mL_law d Q 532 ls (.int (w.2.2.2.2.2.2 i.toNatClampNeg) :: st) P) : X w mL_law d Q 531 ls (.int i :: .ref (w.ad 0) :: st) P := X_sld (M := mL_law) dL_law_531 hi k
theorem sL_law_537_s {i : Int32} (hi : vp_in i w.2.2.2.2.2.1) (k : X w mL_law d Q 538 ls (.int (w.2.2.2.2.2.2 i.toNatClampNeg) :: st) P) : X w mL_law d Q 537 ls (.int i :: .ref (w.ad 0) :: st) P := X_sld (M := mL_law) dL_law_537 hi k
theorem sL_law_543_s {i : Int32} (hi : vp_in i w.2.2.2.2.2.1) (k : X w mL_law d Q 544 ls (.int (w.2.2.2.2.2.2 i.toNatClampNeg) :: st) P) : X w mL_law d Q 543 ls (.int i :: .ref (w.ad 0) :: st) P := X_sld (M := mL_law) dL_law_543 hi k
theorem sL_law_549_s {i : Int32} (hi : vp_in i w.2.2.2.2.2.1) (k : X w mL_law d Q 550 ls (.int (w.2.2.2.2.2.2 i.toNatClampNeg) :: st) P) : X w mL_law d Q 549 ls (.int i :: .ref (w.ad 0) :: st) P := X_sld (M := mL_law) dL_law_549 hi k
theorem sL_law_600_s {i : Int32} (hi : vp_in i w.2.2.2.2.2.1) (k : X w mL_law d Q 601 ls (.int (w.2.2.2.2.2.2 i.toNatClampNeg) :: st) P) : X w mL_law d Q 600 ls (.int i :: .ref (w.ad 0) :: st) P := X_sld (M := mL_law) dL_law_600 hi k
theorem sL_law_606_s {i : Int32} (hi : vp_in i w.2.2.2.2.2.1) (k : X w mL_law d Q 607 ls (.int (w.2.2.2.2.2.2 i.toNatClampNeg) :: st) P) : X w mL_law d Q 606 ls (.int i :: .ref (w.ad 0) :: st) P := X_sld (M := mL_law) dL_law_606 hi k
theorem sL_law_619_s {i : Int32} (hi : vp_in i w.2.2.2.2.2.1) (k : X w mL_law d Q 620 ls (.int (w.2.2.2.2.2.2 i.toNatClampNeg) :: st) P) : X w mL_law d Q 619 ls (.int i :: .ref (w.ad 0) :: st) P := X_sld (M := mL_law) dL_law_619 hi k
theorem sL_law_625_s {i : Int32} (hi : vp_in i w.2.2.2.2.2.1) (k : X w mL_law d Q 626 ls (.int (w.2.2.2.2.2.2 i.toNatClampNeg) :: st) P) : X w mL_law d Q 625 ls (.int i :: .ref (w.ad 0) :: st) P := X_sld (M := mL_law) dL_law_625 hi k
theorem sL_law_668_s {i : Int32} (hi : vp_in i w.2.2.2.2.2.1) (k : X w mL_law d Q 669 ls (.int (w.2.2.2.2.2.2 i.toNatClampNeg) :: st) P) : X w mL_law d Q 668 ls (.int i :: .ref (w.ad 0) :: st) P := X_sld (M := mL_law) dL_law_668 hi k
theorem sL_law_674_s {i : Int32} (hi : vp_in i w.2.2.2.2.2.1) (k : X w mL_law d Q 675 ls (.int (w.2.2.2.2.2.2 i.toNatClampNeg) :: st) P) : X w mL_law d Q 674 ls (.int i :: .ref (w.ad 0) :: st) P := X_sld (M := mL_law) dL_law_674 hi k
theorem sL_law_687_s {i : Int32} (hi : vp_in i w.2.2.2.2.2.1) (k : X w mL_law d Q 688 ls (.int (w.2.2.2.2.2.2 i.toNatClampNeg) :: st) P) : X w mL_law d Q 687 ls (.int i :: .ref (w.ad 0) :: st) P := X_sld (M := mL_law) dL_law_687 hi k
theorem sL_law_693_s {i : Int32} (hi : vp_in i w.2.2.2.2.2.1) (k : X w mL_law d Q 694 ls (.int (w.2.2.2.2.2.2 i.toNatClampNeg) :: st) P) : X w mL_law d Q 693 ls (.int i :: .ref (w.ad 0) :: st) P := X_sld (M := mL_law) dL_law_693 hi k
theorem sL_law_743_s {i : Int32} (hi : vp_in i w.2.2.2.2.2.1) (k : X w mL_law d Q 744 ls (.int (w.2.2.2.2.2.2 i.toNatClampNeg) :: st) P) : X w mL_law d Q 743 ls (.int i :: .ref (w.ad 0) :: st) P := X_sld (M := mL_law) dL_law_743 hi k
theorem sL_law_749_s {i : Int32} (hi : vp_in i w.2.2.2.2.2.1) (k : X w mL_law d Q 750 ls (.int (w.2.2.2.2.2.2 i.toNatClampNeg) :: st) P) : X w mL_law d Q 749 ls (.int i :: .ref (w.ad 0) :: st) P := X_sld (M := mL_law) dL_law_749 hi k
theorem sL_law_755_s {i : Int32} (hi : vp_in i w.2.2.2.2.2.1) (k : X w mL_law d Q 756 ls (.int (w.2.2.2.2.2.2 i.toNatClampNeg) :: st) P) : X w mL_law d Q 755 ls (.int i :: .ref (w.ad 0) :: st) P := X_sld (M := mL_law) dL_law_755 hi k
theorem sL_law_768_s {i : Int32} (hi : vp_in i w.2.2.2.2.2.1) (k : X w mL_law d Q 769 ls (.int (w.2.2.2.2.2.2 i.toNatClampNeg) :: st) P) : X w mL_law d Q 768 ls (.int i :: .ref (w.ad 0) :: st) P := X_sld (M := mL_law) dL_law_768 hi k
theorem sL_law_774_s {i : Int32} (hi : vp_in i w.2.2.2.2.2.1) (k : X w mL_law d Q 775 ls (.int (w.2.2.2.2.2.2 i.toNatClampNeg) :: st) P) : X w mL_law d Q 774 ls (.int i :: .ref (w.ad 0) :: st) P := X_sld (M := mL_law) dL_law_774 hi k
theorem sL_law_780_s {i : Int32} (hi : vp_in i w.2.2.2.2.2.1) (k : X w mL_law d Q 781 ls (.int (w.2.2.2.2.2.2 i.toNatClampNeg) :: st) P) : X w mL_law d Q 780 ls (.int i :: .ref (w.ad 0) :: st) P := X_sld (M := mL_law) dL_law_780 hi k
theorem sL_law_823_s {i : Int32} (hi : vp_in i w.2.2.2.2.2.1) (k : X w mL_law d Q 824 ls (.int (w.2.2.2.2.2.2 i.toNatClampNeg) :: st) P) : X w mL_law d Q 823 ls (.int i :: .ref (w.ad 0) :: st) P := X_sld (M := mL_law) dL_law_823 hi k
theorem sL_law_829_s {i : Int32} (hi : vp_in i w.2.2.2.2.2.1) (k : X w mL_law d Q 830 ls (.int (w.2.2.2.2.2.2 i.toNatClampNeg) :: st) P) : X w mL_law d Q 829 ls (.int i :: .ref (w.ad 0) :: st) P := X_sld (M := mL_law) dL_law_829 hi k
theorem sL_law_842_s {i : Int32} (hi : vp_in i w.2.2.2.2.2.1) (k : X w mL_law d Q 843 ls (.int (w.2.2.2.2.2.2 i.toNatClampNeg) :: st) P) : X w mL_law d Q 842 ls (.int i :: .ref (w.ad 0) :: st) P := X_sld (M := mL_law) dL_law_842 hi k
theorem sL_law_848_s {i : Int32} (hi : vp_in i w.2.2.2.2.2.1) (k : X w mL_law d Q 849 ls (.int (w.2.2.2.2.2.2 i.toNatClampNeg) :: st) P) : X w mL_law d Q 848 ls (.int i :: .ref (w.ad 0) :: st) P := X_sld (M := mL_law) dL_law_848 hi k
theorem sL_law_891_s {i : Int32} (hi : vp_in i w.2.2.2.2.2.1) (k : X w mL_law d Q 892 ls (.int (w.2.2.2.2.2.2 i.toNatClampNeg) :: st) P) : X w mL_law d Q 891 ls (.int i :: .ref (w.ad 0) :: st) P := X_sld (M := mL_law) dL_law_891 hi k
theorem sL_law_897_s {i : Int32} (hi : vp_in i w.2.2.2.2.2.1) (k : X w mL_law d Q 898 ls (.int (w.2.2.2.2.2.2 i.toNatClampNeg) :: st) P) : X w mL_law d Q 897 ls (.int i :: .ref (w.ad 0) :: st) P := X_sld (M := mL_law) dL_law_897 hi k
theorem sL_law_910_s {i : Int32} (hi : vp_in i w.2.2.2.2.2.1) (k : X w mL_law d Q 911 ls (.int (w.2.2.2.2.2.2 i.toNatClampNeg) :: st) P) : X w mL_law d Q 910 ls (.int i :: .ref (w.ad 0) :: st) P := X_sld (M := mL_law) dL_law_910 hi k
theorem sL_law_916_s {i : Int32} (hi : vp_in i w.2.2.2.2.2.1) (k : X w mL_law d Q 917 ls (.int (w.2.2.2.2.2.2 i.toNatClampNeg) :: st) P) : X w mL_law d Q 916 ls (.int i :: .ref (w.ad 0) :: st) P := X_sld (M := mL_law) dL_law_916 hi k
theorem sL_law_959_s {i : Int32} (hi : vp_in i w.2.2.2.2.2.1) (k : X w mL_law d Q 960 ls (.int (w.2.2.2.2.2.2 i.toNatClampNeg) :: st) P) : X w mL_law d Q 959 ls (.int i :: .ref (w.ad 0) :: st) P := X_sld (M := mL_law) dL_law_959 hi k
theorem sL_law_965_s {i : Int32} (hi : vp_in i w.2.2.2.2.2.1) (k : X w mL_law d Q 966 ls (.int (w.2.2.2.2.2.2 i.toNatClampNeg) :: st) P) : X w mL_law d Q 965 ls (.int i :: .ref (w.ad 0) :: st) P := X_sld (M := mL_law) dL_law_965 hi k
theorem sL_law_971_s {i : Int32} (hi : vp_in i w.2.2.2.2.2.1) (k : X w mL_law d Q 972 ls (.int (w.2.2.2.2.2.2 i.toNatClampNeg) :: st) P) : X w mL_law d Q 971 ls (.int i :: .ref (w.ad 0) :: st) P := X_sld (M := mL_law) dL_law_971 hi k
theorem sL_law_984_s {i : Int32} (hi : vp_in i w.2.2.2.2.2.1) (k : X w mL_law d Q 985 ls (.int (w.2.2.2.2.2.2 i.toNatClampNeg) :: st) P) : X w mL_law d Q 984 ls (.int i :: .ref (w.ad 0) :: st) P := X_sld (M := mL_law) dL_law_984 hi k
theorem sL_law_990_s {i : Int32} (hi : vp_in i w.2.2.2.2.2.1) (k : X w mL_law d Q 991 ls (.int (w.2.2.2.2.2.2 i.toNatClampNeg) :: st) P) : X w mL_law d Q 990 ls (.int i :: .ref (w.ad 0) :: st) P := X_sld (M := mL_law) dL_law_990 hi k
theorem sL_law_996_s {i : Int32} (hi : vp_in i w.2.2.2.2.2.1) (k : X w mL_law d Q 997 ls (.int (w.2.2.2.2.2.2 i.toNatClampNeg) :: st) P) : X w mL_law d Q 996 ls (.int i :: .ref (w.ad 0) :: st) P := X_sld (M := mL_law) dL_law_996 hi k
theorem sL_law_1039_s {i : Int32} (hi : vp_in i w.2.2.2.2.2.1) (k : X w mL_law d Q 1040 ls (.int (w.2.2.2.2.2.2 i.toNatClampNeg) :: st) P) : X w mL_law d Q 1039 ls (.int i :: .ref (w.ad 0) :: st) P := X_sld (M := mL_law) dL_law_1039 hi k
theorem sL_law_1052_s {i : Int32} (hi : vp_in i w.2.2.2.2.2.1) (k : X w mL_law d Q 1053 ls (.int (w.2.2.2.2.2.2 i.toNatClampNeg) :: st) P) : X w mL_law d Q 1052 ls (.int i :: .ref (w.ad 0) :: st) P := X_sld (M := mL_law) dL_law_1052 hi k
/-- between two calls of a run: the object at b, the model behind it -/
def LI (P : xH) (b i : Nat) : Prop := ∃ S S' Tc Tm n L t L2 F bk g f, cZ P b S S' Tc n L t L2 f ∧ pM P (b + 335) F ∧ mZ F Tm n bk L ∧ tEq Tc Tm n ∧ P.1 (b + 360) = some (xJ 1 g) ∧ b + 361 ≤ P.2.1 ∧ P.2.1 ≤ b + 361 + i ∧ P.2.2 ≤ 20000 + 6 * i
abbrev lls (w : xWd) (b i : Nat) (l5 l6 l7 : Option Value) : List (Option Value) := [some (.ref (w.ad 0)), some (.ref b), some (.ref (b + 335)), some (.ref (b + 360)), some (.int (nI i)), l5, l6, l7]
theorem lI_room {b i : Nat} (hb : b = w.z) (hi : i ≤ 3072) (h1 : P.2.1 ≤ b + 361 + i) (h2 : P.2.2 ≤ 20000 + 6 * i) : P.2.1 + 1 ≤ w.z + 601024 ∧ P.2.2 + 6 ≤ 7293034 := by omega
theorem lF_M {b : Nat} {F : mF} (h : pM P (b + 335) F) (hz : b + 361 ≤ P.2.1) (hF : lF P P1 b (b + 360)) : pM P1 (b + 335) F := fun r hr => (hF.1 _ (by omega) (by omega) (by omega)).trans (h r hr)
theorem cF_M {b : Nat} {F : mF} (h : pM P (b + 335) F) (hz : b + 361 ≤ P.2.1) (hF : cF P P1 b) : pM P1 (b + 335) F := fun r hr => (hF.1 _ (by omega) (by omega)).trans (h r hr)
theorem cZ.md {b S S' n : Nat} {T : Nat → Int32} {L L2 : liT} {t : tSt} {f : Nat → Int32} (h : cZ P b S S' T n L t L2 f) (hs : same P P1 (b + 335) (b + 335 + 25)) : cZ P1 b S S' T n L t L2 f := h.cg (fun a p q => hs.2 a (by omega)) (by rw [hs.1]; exact h.2.2.2.2.2.2.2.2.2.2.2.2.2.2)
theorem eN_0 {α : Type} {r : Except Nat α} (h : eN r = 0) (he : ∀ e, r = .error e → e = 1 ∨ e = 2) : ∃ v, r = .ok v := by
  match r, h, he with
  | .ok v, _, _ => exact ⟨v, rfl⟩
  | .error e, h, he =>
    rcases he e rfl with rfl | rfl
    · exact absurd (show nI 1 = 0 from h) (by decide)
    · exact absurd (show nI 2 = 0 from h) (by decide)
theorem eN_mL {r : Except Nat Int32} : eN (mL r) = eN r := by cases r <;> rfl
theorem lw_unit {b i : Nat} {l5 l6 l7 : Option Value} (hb : b = w.z) (hi : i + 6 ≤ w.2.2.2.2.2.1) (hL : w.2.2.2.2.2.1 ≤ 3072) (hI : LI P b i) (kont : ∀ P' l5 l6 l7, LI P' b (i + 6) → X w mL_law 200 xQ1 1089 (lls w b i l5 l6 l7) [] P') : X w mL_law 200 xQ1 116 (lls w b i l5 l6 l7) [] P := by
  obtain ⟨S, S', Tc, Tm, n, L, t, L2, F, bk, g, f, hc, hm, hz, ht, ho, hp1, hp2, hp3⟩ := hI
  have hO := hc.1
  have hw : wL L := hz.2.2.2.2.2.2
  have hr := lI_room hb (by omega) hp2 hp3
  have vs : ∀ k, k < 6 → vp_in (nI i + nI k) w.2.2.2.2.2.1 := fun k hk => by rw [nI_add]; exact vp_in_nI (by omega) (by omega)
  refine sL_law_116 (sL_law_117 (sL_law_118 (sL_law_120 (sL_law_121 (sL_law_122_s (vs 1 (by omega)) (sL_law_123_g (ble rfl) hO (k_unit hc _) (fun _ P1 q => ?_) (fun q9 P1 q => by cases q.1)))))))
  obtain ⟨q, c1, c2⟩ := q
  cases q
  have hm1 := cF_M hm hp1 c2
  have hmo := hm1 0 (by decide)
  refine sL_law_126 (sL_law_127 (sL_law_128 (sL_law_130 (sL_law_131 (sL_law_132_s (vs 1 (by omega)) (sL_law_133_g (ble rfl) hmo ((q_unit hz _) P1 hm1) (fun _ P2 q => ?_) (fun q9 P2 q => by obtain ⟨_, _, q, _⟩ := q; cases q)))))))
  obtain ⟨v2, F2, q, ⟨rfl, s0, z2, a24⟩, hm2, hs2⟩ := q
  cases q
  have o2 : P2.1 (b + 360) = some (xJ 1 g) := hs2.get (by omega) ((c2.1 _ (by omega) (by omega)).trans ho)
  have c4 := c1.md hs2
  refine sL_law_136 (fun _ => ?_) (fun z => absurd rfl z)
  obtain ⟨e1, e2⟩ := unS_cg (u := w.2.2.2.2.2.2 (nI i + 1).toNatClampNeg) ht
  rw [e1] at c4 e2
  exact kont P2 _ _ _ ⟨S, S', _, _, _, L, t, L2, F2, bk, g, f, c4, hm2, z2, e2, o2, by rw [hs2.1]; have := c2.2.1; omega, by rw [hs2.1]; have := c2.2.2.1; omega, by rw [hs2.1]; have := c2.2.2.2; omega⟩
theorem lw_units {b i : Nat} {l5 l6 l7 : Option Value} (hb : b = w.z) (hi : i + 6 ≤ w.2.2.2.2.2.1) (hL : w.2.2.2.2.2.1 ≤ 3072) (hI : LI P b i) (kont : ∀ P' l5 l6 l7, LI P' b (i + 6) → X w mL_law 200 xQ1 1089 (lls w b i l5 l6 l7) [] P') : X w mL_law 200 xQ1 141 (lls w b i l5 l6 l7) [] P := by
  obtain ⟨S, S', Tc, Tm, n, L, t, L2, F, bk, g, f, hc, hm, hz, ht, ho, hp1, hp2, hp3⟩ := hI
  have hO := hc.1
  have hw : wL L := hz.2.2.2.2.2.2
  have hr := lI_room hb (by omega) hp2 hp3
  have vs : ∀ k, k < 6 → vp_in (nI i + nI k) w.2.2.2.2.2.1 := fun k hk => by rw [nI_add]; exact vp_in_nI (by omega) (by omega)
  refine sL_law_141 (sL_law_142 (sL_law_143 (sL_law_145 (sL_law_146 (sL_law_147_s (vs 1 (by omega)) (sL_law_148_g (ble rfl) hO (k_units hc _) (fun _ P1 q => ?_) (fun q9 P1 q => by cases q.1)))))))
  obtain ⟨q, T1, n1, c1, c2, c3⟩ := q
  cases q
  have hm1 := cF_M hm hp1 c2
  have hmo := hm1 0 (by decide)
  refine sL_law_151 (sL_law_152 (sL_law_153 (sL_law_155 (sL_law_156 (sL_law_157_s (vs 1 (by omega)) (sL_law_158_g (ble rfl) hmo ((q_units hz _) P1 hm1) (fun _ P2 q => ?_) (fun q9 P2 q => by obtain ⟨_, _, q, _⟩ := q; cases q)))))))
  obtain ⟨v2, F2, q, ⟨rfl, s0, z2, a24⟩, hm2, hs2⟩ := q
  cases q
  have o2 : P2.1 (b + 360) = some (xJ 1 g) := hs2.get (by omega) ((c2.1 _ (by omega) (by omega)).trans ho)
  have c4 := c1.md hs2
  have hu := ust_cg (x := w.2.2.2.2.2.2 (nI i + 1).toNatClampNeg) 4 0 n Tc Tm ht
  rcases hu with ⟨u1, u2⟩ | ⟨U, U', k, u1, u2, u3⟩
  · have u1' : ust (w.2.2.2.2.2.2 (nI i + nI 1).toNatClampNeg) 4 0 Tc n = none := u1
    have u2' : ust (w.2.2.2.2.2.2 (nI i + nI 1).toNatClampNeg) 4 0 Tm n = none := u2
    rw [show ust (w.2.2.2.2.2.2 (nI i + 1).toNatClampNeg) 4 0 Tc n = none from u1] at c3 ⊢
    rw [show ust (w.2.2.2.2.2.2 (nI i + 1).toNatClampNeg) 4 0 Tm n = none from u2] at z2 ⊢
    refine sL_law_161 (fun _ => ?_) (fun z => absurd rfl z)
    obtain ⟨rfl, c5⟩ := c3
    exact kont P2 _ _ _ ⟨S, S', T1, Tm, n1, L, t, L2, F2, bk, g, f, c4, hm2, z2, fun j hj => (c5 j hj).trans (ht j hj), o2, by rw [hs2.1]; have := c2.2.1; omega, by rw [hs2.1]; have := c2.2.2.1; omega, by rw [hs2.1]; have := c2.2.2.2; omega⟩
  · rw [show ust (w.2.2.2.2.2.2 (nI i + 1).toNatClampNeg) 4 0 Tc n = some (U, k) from u1] at c3 ⊢
    rw [show ust (w.2.2.2.2.2.2 (nI i + 1).toNatClampNeg) 4 0 Tm n = some (U', k) from u2] at z2 ⊢
    refine sL_law_161 (fun _ => ?_) (fun z => absurd rfl z)
    obtain ⟨rfl, rfl⟩ := c3
    exact kont P2 _ _ _ ⟨S, S', _, _, _, L, t, L2, F2, bk, g, f, c4, hm2, z2, u3, o2, by rw [hs2.1]; have := c2.2.1; omega, by rw [hs2.1]; have := c2.2.2.1; omega, by rw [hs2.1]; have := c2.2.2.2; omega⟩
theorem lw_read {b i : Nat} {l5 l6 l7 : Option Value} (hb : b = w.z) (hi : i + 6 ≤ w.2.2.2.2.2.1) (hL : w.2.2.2.2.2.1 ≤ 3072) (hI : LI P b i) (kont : ∀ P' l5 l6 l7, LI P' b (i + 6) → X w mL_law 200 xQ1 1089 (lls w b i l5 l6 l7) [] P') : X w mL_law 200 xQ1 166 (lls w b i l5 l6 l7) [] P := by
  obtain ⟨S, S', Tc, Tm, n, L, t, L2, F, bk, g, f, hc, hm, hz, ht, ho, hp1, hp2, hp3⟩ := hI
  have hO := hc.1
  have hw : wL L := hz.2.2.2.2.2.2
  have hr := lI_room hb (by omega) hp2 hp3
  have vs : ∀ k, k < 6 → vp_in (nI i + nI k) w.2.2.2.2.2.1 := fun k hk => by rw [nI_add]; exact vp_in_nI (by omega) (by omega)
  refine sL_law_166 (sL_law_167_g (ble rfl) hO (c_read hc hr) (fun _ P1 q => ?_) (fun q9 P1 q => by cases q.1))
  obtain ⟨q, ⟨S1, S2, t3, L3, c1⟩, c2⟩ := q
  cases q
  have hm1 := cF_M hm hp1 c2
  have hmo := hm1 0 (by decide)
  refine sL_law_170 (sL_law_171_g (ble rfl) hmo ((m_read L2 t hz) P1 hm1) (fun _ P2 q => ?_) (fun q9 P2 q => by obtain ⟨_, _, q, _⟩ := q; cases q))
  obtain ⟨v2, F2, q, ⟨rfl, s0, bk', z2⟩, hm2, hs2⟩ := q
  cases q
  have o2 : P2.1 (b + 360) = some (xJ 1 g) := hs2.get (by omega) ((c2.1 _ (by omega) (by omega)).trans ho)
  have c4 := c1.md hs2
  rw [tk_cg ht] at c4 ⊢
  refine sL_law_174 (fun _ => ?_) (fun z => absurd rfl z)
  exact kont P2 _ _ _ ⟨S1, S2, Tc, _, 0, _, t3, L3, F2, bk', g, f, c4, hm2, z2, fun j hj => by omega, o2, by rw [hs2.1]; have := c2.2.1; omega, by rw [hs2.1]; have := c2.2.2.1; omega, by rw [hs2.1]; have := c2.2.2.2; omega⟩
theorem lw_cell {b i : Nat} {l5 l6 l7 : Option Value} (hb : b = w.z) (hi : i + 6 ≤ w.2.2.2.2.2.1) (hL : w.2.2.2.2.2.1 ≤ 3072) (hI : LI P b i) (kont : ∀ P' l5 l6 l7, LI P' b (i + 6) → X w mL_law 200 xQ1 1089 (lls w b i l5 l6 l7) [] P') : X w mL_law 200 xQ1 179 (lls w b i l5 l6 l7) [] P := by
  obtain ⟨S, S', Tc, Tm, n, L, t, L2, F, bk, g, f, hc, hm, hz, ht, ho, hp1, hp2, hp3⟩ := hI
  have hO := hc.1
  have hw : wL L := hz.2.2.2.2.2.2
  have hr := lI_room hb (by omega) hp2 hp3
  have vs : ∀ k, k < 6 → vp_in (nI i + nI k) w.2.2.2.2.2.1 := fun k hk => by rw [nI_add]; exact vp_in_nI (by omega) (by omega)
  have er : ∀ e, aCell L (w.2.2.2.2.2.2 (nI i + 1).toNatClampNeg) (w.2.2.2.2.2.2 (nI i + 2).toNatClampNeg) = .error e → e = 1 ∨ e = 2 := fun e h => Or.inl (er_cell h)
  refine sL_law_179 (sL_law_180 (sL_law_181 (sL_law_183 (sL_law_184 (sL_law_185_s (vs 1 (by omega)) (sL_law_186 (sL_law_187 (sL_law_189 (sL_law_190 (sL_law_191_s (vs 2 (by omega)) (sL_law_192 (sL_law_193_g (ble rfl) (l_cell hr hc hw ho (by omega) (by omega) _ _) (fun _ P1 q => ?_) (fun q9 P1 q => by cases q.1)))))))))))))
  obtain ⟨q, c1, ⟨g', o1, og⟩, F1⟩ := q
  cases q
  have hm1 := lF_M hm hp1 F1
  have hmo := hm1 0 (by decide)
  refine sL_law_196 rfl (sL_law_198 (sL_law_199 (sL_law_200 (sL_law_202 (sL_law_203 (sL_law_204_s (vs 1 (by omega)) (sL_law_205 (sL_law_206 (sL_law_208 (sL_law_209 (sL_law_210_s (vs 2 (by omega)) (sL_law_211_g (ble rfl) hmo ((q_cell hz _ _) P1 hm1) (fun _ P2 q => ?_) (fun q9 P2 q => by obtain ⟨_, _, q, _⟩ := q; cases q)))))))))))))
  obtain ⟨v2, F2, q, ⟨rfl, eF⟩, hm2, hs2⟩ := q
  cases q
  have s0 : F2.s 0 = eN (aCell L (w.2.2.2.2.2.2 (nI i + 1).toNatClampNeg) (w.2.2.2.2.2.2 (nI i + 2).toNatClampNeg)) := by rw [eF]; rfl
  have z2 : mZ F2 Tm n bk L := by rw [eF]; exact hz.u0
  clear eF
  show X w mL_law 200 xQ1 214 _ [.int (vI (aCell L (w.2.2.2.2.2.2 (nI i + 1).toNatClampNeg) (w.2.2.2.2.2.2 (nI i + 2).toNatClampNeg)))] P2
  rw [show eN (mL (aCell L (w.2.2.2.2.2.2 (nI i + 1).toNatClampNeg) (w.2.2.2.2.2.2 (nI i + 2).toNatClampNeg))) = eN (aCell L (w.2.2.2.2.2.2 (nI i + 1).toNatClampNeg) (w.2.2.2.2.2.2 (nI i + 2).toNatClampNeg)) from eN_mL]
  generalize aCell L (w.2.2.2.2.2.2 (nI i + 1).toNatClampNeg) (w.2.2.2.2.2.2 (nI i + 2).toNatClampNeg) = r at er og s0 ⊢
  have hmo2 := hm2 0 (by decide)
  refine sL_law_214 rfl (sL_law_216 (sL_law_217_g (ble rfl) hmo2 (m_thrown P2 hm2) (fun _ P3 q => ?_) (fun q9 P3 q => by obtain ⟨_, _, q, _⟩ := q; cases q)))
  obtain ⟨v3, F3, q, ⟨rfl, rfl⟩, hm3, hs3⟩ := q
  cases q
  show X w mL_law 200 xQ1 220 _ [.int (F3.s 0)] P3
  rw [s0]
  refine sL_law_220 (sL_law_222 (fun _ => ?_) (fun z => absurd rfl z))
  have o3 : P3.1 (b + 360) = some (xJ 1 g') := hs3.get (by omega) (hs2.get (by omega) o1)
  have c3 := (c1.md hs2).md hs3
  have fin : LI P3 b (i + 6) := ⟨S, S', Tc, Tm, n, L, t, L2, F3, bk, g', _, c3, hm3, z2, ht, o3, by rw [hs3.1, hs2.1]; have := F1.2.1; omega, by rw [hs3.1, hs2.1]; have := F1.2.2.1; omega, by rw [hs3.1, hs2.1]; have := F1.2.2.2; omega⟩
  refine sL_law_227 (sL_law_229 (fun _ => ?_) (fun z => ?_))
  · refine sL_law_244 ?_
    exact kont P3 _ _ _ fin
  obtain ⟨v, rfl⟩ := eN_0 z er
  have og := og _ rfl
  refine sL_law_232 (sL_law_233 (sL_law_234 o3 v01 ?_))
  show X w mL_law 200 xQ1 235 _ [.long (g' 0)] P3
  rw [og]
  refine sL_law_235 (sL_law_237 (sL_law_238 (sL_law_239 (fun _ => ?_) (fun z => absurd ((lg_cmp_eq _ _).mpr rfl) z))))
  refine sL_law_244 ?_
  exact kont P3 _ _ _ fin
theorem lw_truth {b i : Nat} {l5 l6 l7 : Option Value} (hb : b = w.z) (hi : i + 6 ≤ w.2.2.2.2.2.1) (hL : w.2.2.2.2.2.1 ≤ 3072) (hI : LI P b i) (kont : ∀ P' l5 l6 l7, LI P' b (i + 6) → X w mL_law 200 xQ1 1089 (lls w b i l5 l6 l7) [] P') : X w mL_law 200 xQ1 247 (lls w b i l5 l6 l7) [] P := by
  obtain ⟨S, S', Tc, Tm, n, L, t, L2, F, bk, g, f, hc, hm, hz, ht, ho, hp1, hp2, hp3⟩ := hI
  have hO := hc.1
  have hw : wL L := hz.2.2.2.2.2.2
  have hr := lI_room hb (by omega) hp2 hp3
  have vs : ∀ k, k < 6 → vp_in (nI i + nI k) w.2.2.2.2.2.1 := fun k hk => by rw [nI_add]; exact vp_in_nI (by omega) (by omega)
  have er : ∀ e, aTruth L (w.2.2.2.2.2.2 (nI i + 1).toNatClampNeg) (w.2.2.2.2.2.2 (nI i + 2).toNatClampNeg) = .error e → e = 1 ∨ e = 2 := fun e h => Or.inl (er_truth h)
  refine sL_law_247 (sL_law_248 (sL_law_249 (sL_law_251 (sL_law_252 (sL_law_253_s (vs 1 (by omega)) (sL_law_254 (sL_law_255 (sL_law_257 (sL_law_258 (sL_law_259_s (vs 2 (by omega)) (sL_law_260 (sL_law_261_g (ble rfl) (l_truth hr hc ho (by omega) (by omega) _ _) (fun _ P1 q => ?_) (fun q9 P1 q => by cases q.1)))))))))))))
  obtain ⟨q, c1, ⟨g', o1, og⟩, F1⟩ := q
  cases q
  have hm1 := lF_M hm hp1 F1
  have hmo := hm1 0 (by decide)
  refine sL_law_264 rfl (sL_law_266 (sL_law_267 (sL_law_268 (sL_law_270 (sL_law_271 (sL_law_272_s (vs 1 (by omega)) (sL_law_273 (sL_law_274 (sL_law_276 (sL_law_277 (sL_law_278_s (vs 2 (by omega)) (sL_law_279_g (ble rfl) hmo ((q_truth hz _ _) P1 hm1) (fun _ P2 q => ?_) (fun q9 P2 q => by obtain ⟨_, _, q, _⟩ := q; cases q)))))))))))))
  obtain ⟨v2, F2, q, ⟨rfl, eF⟩, hm2, hs2⟩ := q
  cases q
  have s0 : F2.s 0 = eN (aTruth L (w.2.2.2.2.2.2 (nI i + 1).toNatClampNeg) (w.2.2.2.2.2.2 (nI i + 2).toNatClampNeg)) := by rw [eF]; rfl
  have z2 : mZ F2 Tm n bk L := by rw [eF]; exact hz.u0
  clear eF
  show X w mL_law 200 xQ1 282 _ [.long (vJ (aTruth L (w.2.2.2.2.2.2 (nI i + 1).toNatClampNeg) (w.2.2.2.2.2.2 (nI i + 2).toNatClampNeg)))] P2
  generalize aTruth L (w.2.2.2.2.2.2 (nI i + 1).toNatClampNeg) (w.2.2.2.2.2.2 (nI i + 2).toNatClampNeg) = r at er og s0 ⊢
  have hmo2 := hm2 0 (by decide)
  refine sL_law_282 rfl (sL_law_284 (sL_law_285_g (ble rfl) hmo2 (m_thrown P2 hm2) (fun _ P3 q => ?_) (fun q9 P3 q => by obtain ⟨_, _, q, _⟩ := q; cases q)))
  obtain ⟨v3, F3, q, ⟨rfl, rfl⟩, hm3, hs3⟩ := q
  cases q
  show X w mL_law 200 xQ1 288 _ [.int (F3.s 0)] P3
  rw [s0]
  refine sL_law_288 (sL_law_290 (fun _ => ?_) (fun z => absurd rfl z))
  have o3 : P3.1 (b + 360) = some (xJ 1 g') := hs3.get (by omega) (hs2.get (by omega) o1)
  have c3 := (c1.md hs2).md hs3
  have fin : LI P3 b (i + 6) := ⟨S, S', Tc, Tm, n, L, t, L2, F3, bk, g', _, c3, hm3, z2, ht, o3, by rw [hs3.1, hs2.1]; have := F1.2.1; omega, by rw [hs3.1, hs2.1]; have := F1.2.2.1; omega, by rw [hs3.1, hs2.1]; have := F1.2.2.2; omega⟩
  refine sL_law_295 (sL_law_297 (fun _ => ?_) (fun z => ?_))
  · refine sL_law_311 ?_
    exact kont P3 _ _ _ fin
  obtain ⟨v, rfl⟩ := eN_0 z er
  have og := og _ rfl
  refine sL_law_300 (sL_law_301 (sL_law_302 o3 v01 ?_))
  show X w mL_law 200 xQ1 303 _ [.long (g' 0)] P3
  rw [og]
  refine sL_law_303 (sL_law_305 (sL_law_306 (fun _ => ?_) (fun z => absurd ((lg_cmp_eq _ _).mpr rfl) z)))
  refine sL_law_311 ?_
  exact kont P3 _ _ _ fin
theorem lw_sense {b i : Nat} {l5 l6 l7 : Option Value} (hb : b = w.z) (hi : i + 6 ≤ w.2.2.2.2.2.1) (hL : w.2.2.2.2.2.1 ≤ 3072) (hI : LI P b i) (kont : ∀ P' l5 l6 l7, LI P' b (i + 6) → X w mL_law 200 xQ1 1089 (lls w b i l5 l6 l7) [] P') : X w mL_law 200 xQ1 314 (lls w b i l5 l6 l7) [] P := by
  obtain ⟨S, S', Tc, Tm, n, L, t, L2, F, bk, g, f, hc, hm, hz, ht, ho, hp1, hp2, hp3⟩ := hI
  have hO := hc.1
  have hw : wL L := hz.2.2.2.2.2.2
  have hr := lI_room hb (by omega) hp2 hp3
  have vs : ∀ k, k < 6 → vp_in (nI i + nI k) w.2.2.2.2.2.1 := fun k hk => by rw [nI_add]; exact vp_in_nI (by omega) (by omega)
  have er : ∀ e, aSense L (w.2.2.2.2.2.2 (nI i + 1).toNatClampNeg) (w.2.2.2.2.2.2 (nI i + 2).toNatClampNeg) (w.2.2.2.2.2.2 (nI i + 3).toNatClampNeg) = .error e → e = 1 ∨ e = 2 := fun e h => Or.inl (er_sense h)
  refine sL_law_314 (sL_law_315 (sL_law_316 (sL_law_318 (sL_law_319 (sL_law_320_s (vs 1 (by omega)) (sL_law_321 (sL_law_322 (sL_law_324 (sL_law_325 (sL_law_326_s (vs 2 (by omega)) (sL_law_327 (sL_law_328 (sL_law_330 (sL_law_331 (sL_law_332_s (vs 3 (by omega)) (sL_law_333 (sL_law_334_g (ble rfl) (l_sense hr hc ho (by omega) (by omega) _ _ _) (fun _ P1 q => ?_) (fun q9 P1 q => by cases q.1))))))))))))))))))
  obtain ⟨q, c1, ⟨g', o1, og⟩, F1⟩ := q
  cases q
  have hm1 := lF_M hm hp1 F1
  have hmo := hm1 0 (by decide)
  refine sL_law_337 rfl (sL_law_339 (sL_law_340 (sL_law_341 (sL_law_343 (sL_law_344 (sL_law_345_s (vs 1 (by omega)) (sL_law_346 (sL_law_347 (sL_law_349 (sL_law_350 (sL_law_351_s (vs 2 (by omega)) (sL_law_352 (sL_law_353 (sL_law_355 (sL_law_356 (sL_law_357_s (vs 3 (by omega)) (sL_law_358_g (ble rfl) hmo ((q_sense hz _ _ _) P1 hm1) (fun _ P2 q => ?_) (fun q9 P2 q => by obtain ⟨_, _, q, _⟩ := q; cases q))))))))))))))))))
  obtain ⟨v2, F2, q, ⟨rfl, eF⟩, hm2, hs2⟩ := q
  cases q
  have s0 : F2.s 0 = eN (aSense L (w.2.2.2.2.2.2 (nI i + 1).toNatClampNeg) (w.2.2.2.2.2.2 (nI i + 2).toNatClampNeg) (w.2.2.2.2.2.2 (nI i + 3).toNatClampNeg)) := by rw [eF]; rfl
  have z2 : mZ F2 Tm n bk L := by rw [eF]; exact hz.u0
  clear eF
  show X w mL_law 200 xQ1 361 _ [.int (vI (aSense L (w.2.2.2.2.2.2 (nI i + 1).toNatClampNeg) (w.2.2.2.2.2.2 (nI i + 2).toNatClampNeg) (w.2.2.2.2.2.2 (nI i + 3).toNatClampNeg)))] P2
  rw [show eN (mL (aSense L (w.2.2.2.2.2.2 (nI i + 1).toNatClampNeg) (w.2.2.2.2.2.2 (nI i + 2).toNatClampNeg) (w.2.2.2.2.2.2 (nI i + 3).toNatClampNeg))) = eN (aSense L (w.2.2.2.2.2.2 (nI i + 1).toNatClampNeg) (w.2.2.2.2.2.2 (nI i + 2).toNatClampNeg) (w.2.2.2.2.2.2 (nI i + 3).toNatClampNeg)) from eN_mL]
  generalize aSense L (w.2.2.2.2.2.2 (nI i + 1).toNatClampNeg) (w.2.2.2.2.2.2 (nI i + 2).toNatClampNeg) (w.2.2.2.2.2.2 (nI i + 3).toNatClampNeg) = r at er og s0 ⊢
  have hmo2 := hm2 0 (by decide)
  refine sL_law_361 rfl (sL_law_363 (sL_law_364_g (ble rfl) hmo2 (m_thrown P2 hm2) (fun _ P3 q => ?_) (fun q9 P3 q => by obtain ⟨_, _, q, _⟩ := q; cases q)))
  obtain ⟨v3, F3, q, ⟨rfl, rfl⟩, hm3, hs3⟩ := q
  cases q
  show X w mL_law 200 xQ1 367 _ [.int (F3.s 0)] P3
  rw [s0]
  refine sL_law_367 (sL_law_369 (fun _ => ?_) (fun z => absurd rfl z))
  have o3 : P3.1 (b + 360) = some (xJ 1 g') := hs3.get (by omega) (hs2.get (by omega) o1)
  have c3 := (c1.md hs2).md hs3
  have fin : LI P3 b (i + 6) := ⟨S, S', Tc, Tm, n, L, t, L2, F3, bk, g', _, c3, hm3, z2, ht, o3, by rw [hs3.1, hs2.1]; have := F1.2.1; omega, by rw [hs3.1, hs2.1]; have := F1.2.2.1; omega, by rw [hs3.1, hs2.1]; have := F1.2.2.2; omega⟩
  refine sL_law_374 (sL_law_376 (fun _ => ?_) (fun z => ?_))
  · refine sL_law_391 ?_
    exact kont P3 _ _ _ fin
  obtain ⟨v, rfl⟩ := eN_0 z er
  have og := og _ rfl
  refine sL_law_379 (sL_law_380 (sL_law_381 o3 v01 ?_))
  show X w mL_law 200 xQ1 382 _ [.long (g' 0)] P3
  rw [og]
  refine sL_law_382 (sL_law_384 (sL_law_385 (sL_law_386 (fun _ => ?_) (fun z => absurd ((lg_cmp_eq _ _).mpr rfl) z))))
  refine sL_law_391 ?_
  exact kont P3 _ _ _ fin
theorem lw_arc {b i : Nat} {l5 l6 l7 : Option Value} (hb : b = w.z) (hi : i + 6 ≤ w.2.2.2.2.2.1) (hL : w.2.2.2.2.2.1 ≤ 3072) (hI : LI P b i) (kont : ∀ P' l5 l6 l7, LI P' b (i + 6) → X w mL_law 200 xQ1 1089 (lls w b i l5 l6 l7) [] P') : X w mL_law 200 xQ1 394 (lls w b i l5 l6 l7) [] P := by
  obtain ⟨S, S', Tc, Tm, n, L, t, L2, F, bk, g, f, hc, hm, hz, ht, ho, hp1, hp2, hp3⟩ := hI
  have hO := hc.1
  have hw : wL L := hz.2.2.2.2.2.2
  have hr := lI_room hb (by omega) hp2 hp3
  have vs : ∀ k, k < 6 → vp_in (nI i + nI k) w.2.2.2.2.2.1 := fun k hk => by rw [nI_add]; exact vp_in_nI (by omega) (by omega)
  have er : ∀ e, aArc L (w.2.2.2.2.2.2 (nI i + 1).toNatClampNeg) (w.2.2.2.2.2.2 (nI i + 2).toNatClampNeg) (w.2.2.2.2.2.2 (nI i + 3).toNatClampNeg) = .error e → e = 1 ∨ e = 2 := fun e h => Or.inl (er_arc h)
  refine sL_law_394 (sL_law_395 (sL_law_396 (sL_law_398 (sL_law_399 (sL_law_400_s (vs 1 (by omega)) (sL_law_401 (sL_law_402 (sL_law_404 (sL_law_405 (sL_law_406_s (vs 2 (by omega)) (sL_law_407 (sL_law_408 (sL_law_410 (sL_law_411 (sL_law_412_s (vs 3 (by omega)) (sL_law_413 (sL_law_414_g (ble rfl) (l_arc hr hc hw ho (by omega) (by omega) _ _ _) (fun _ P1 q => ?_) (fun q9 P1 q => by cases q.1))))))))))))))))))
  obtain ⟨q, c1, ⟨g', o1, og⟩, F1⟩ := q
  cases q
  have hm1 := lF_M hm hp1 F1
  have hmo := hm1 0 (by decide)
  refine sL_law_417 rfl (sL_law_419 (sL_law_420 (sL_law_421 (sL_law_423 (sL_law_424 (sL_law_425_s (vs 1 (by omega)) (sL_law_426 (sL_law_427 (sL_law_429 (sL_law_430 (sL_law_431_s (vs 2 (by omega)) (sL_law_432 (sL_law_433 (sL_law_435 (sL_law_436 (sL_law_437_s (vs 3 (by omega)) (sL_law_438_g (ble rfl) hmo ((q_arc hz _ _ _) P1 hm1) (fun _ P2 q => ?_) (fun q9 P2 q => by obtain ⟨_, _, q, _⟩ := q; cases q))))))))))))))))))
  obtain ⟨v2, F2, q, ⟨rfl, eF⟩, hm2, hs2⟩ := q
  cases q
  have s0 : F2.s 0 = eN (aArc L (w.2.2.2.2.2.2 (nI i + 1).toNatClampNeg) (w.2.2.2.2.2.2 (nI i + 2).toNatClampNeg) (w.2.2.2.2.2.2 (nI i + 3).toNatClampNeg)) := by rw [eF]; rfl
  have z2 : mZ F2 Tm n bk L := by rw [eF]; exact hz.u0
  clear eF
  show X w mL_law 200 xQ1 441 _ [.int (vI (aArc L (w.2.2.2.2.2.2 (nI i + 1).toNatClampNeg) (w.2.2.2.2.2.2 (nI i + 2).toNatClampNeg) (w.2.2.2.2.2.2 (nI i + 3).toNatClampNeg)))] P2
  rw [show eN (mL (aArc L (w.2.2.2.2.2.2 (nI i + 1).toNatClampNeg) (w.2.2.2.2.2.2 (nI i + 2).toNatClampNeg) (w.2.2.2.2.2.2 (nI i + 3).toNatClampNeg))) = eN (aArc L (w.2.2.2.2.2.2 (nI i + 1).toNatClampNeg) (w.2.2.2.2.2.2 (nI i + 2).toNatClampNeg) (w.2.2.2.2.2.2 (nI i + 3).toNatClampNeg)) from eN_mL]
  generalize aArc L (w.2.2.2.2.2.2 (nI i + 1).toNatClampNeg) (w.2.2.2.2.2.2 (nI i + 2).toNatClampNeg) (w.2.2.2.2.2.2 (nI i + 3).toNatClampNeg) = r at er og s0 ⊢
  have hmo2 := hm2 0 (by decide)
  refine sL_law_441 rfl (sL_law_443 (sL_law_444_g (ble rfl) hmo2 (m_thrown P2 hm2) (fun _ P3 q => ?_) (fun q9 P3 q => by obtain ⟨_, _, q, _⟩ := q; cases q)))
  obtain ⟨v3, F3, q, ⟨rfl, rfl⟩, hm3, hs3⟩ := q
  cases q
  show X w mL_law 200 xQ1 447 _ [.int (F3.s 0)] P3
  rw [s0]
  refine sL_law_447 (sL_law_449 (fun _ => ?_) (fun z => absurd rfl z))
  have o3 : P3.1 (b + 360) = some (xJ 1 g') := hs3.get (by omega) (hs2.get (by omega) o1)
  have c3 := (c1.md hs2).md hs3
  have fin : LI P3 b (i + 6) := ⟨S, S', Tc, Tm, n, L, t, L2, F3, bk, g', _, c3, hm3, z2, ht, o3, by rw [hs3.1, hs2.1]; have := F1.2.1; omega, by rw [hs3.1, hs2.1]; have := F1.2.2.1; omega, by rw [hs3.1, hs2.1]; have := F1.2.2.2; omega⟩
  refine sL_law_454 (sL_law_456 (fun _ => ?_) (fun z => ?_))
  · refine sL_law_471 ?_
    exact kont P3 _ _ _ fin
  obtain ⟨v, rfl⟩ := eN_0 z er
  have og := og _ rfl
  refine sL_law_459 (sL_law_460 (sL_law_461 o3 v01 ?_))
  show X w mL_law 200 xQ1 462 _ [.long (g' 0)] P3
  rw [og]
  refine sL_law_462 (sL_law_464 (sL_law_465 (sL_law_466 (fun _ => ?_) (fun z => absurd ((lg_cmp_eq _ _).mpr rfl) z))))
  refine sL_law_471 ?_
  exact kont P3 _ _ _ fin
theorem lw_delay {b i : Nat} {l5 l6 l7 : Option Value} (hb : b = w.z) (hi : i + 6 ≤ w.2.2.2.2.2.1) (hL : w.2.2.2.2.2.1 ≤ 3072) (hI : LI P b i) (kont : ∀ P' l5 l6 l7, LI P' b (i + 6) → X w mL_law 200 xQ1 1089 (lls w b i l5 l6 l7) [] P') : X w mL_law 200 xQ1 474 (lls w b i l5 l6 l7) [] P := by
  obtain ⟨S, S', Tc, Tm, n, L, t, L2, F, bk, g, f, hc, hm, hz, ht, ho, hp1, hp2, hp3⟩ := hI
  have hO := hc.1
  have hw : wL L := hz.2.2.2.2.2.2
  have hr := lI_room hb (by omega) hp2 hp3
  have vs : ∀ k, k < 6 → vp_in (nI i + nI k) w.2.2.2.2.2.1 := fun k hk => by rw [nI_add]; exact vp_in_nI (by omega) (by omega)
  by_cases hv : (w.2.2.2.2.2.2 (nI i + 5).toNatClampNeg) = 0
  · have er : ∀ e, aDelay L (w.2.2.2.2.2.2 (nI i + 1).toNatClampNeg) (w.2.2.2.2.2.2 (nI i + 2).toNatClampNeg) (w.2.2.2.2.2.2 (nI i + 3).toNatClampNeg) (w.2.2.2.2.2.2 (nI i + 4).toNatClampNeg) (0 : Int32) = .error e → e = 1 ∨ e = 2 := fun e h => er_delay h
    refine sL_law_474 (sL_law_475 (sL_law_476 (sL_law_478 (sL_law_479 (sL_law_480_s (vs 1 (by omega)) (sL_law_481 (sL_law_482 (sL_law_484 (sL_law_485 (sL_law_486_s (vs 2 (by omega)) (sL_law_487 (sL_law_488 (sL_law_490 (sL_law_491 (sL_law_492_s (vs 3 (by omega)) (sL_law_493 (sL_law_494 (sL_law_496 (sL_law_497 (sL_law_498_s (vs 4 (by omega)) (sL_law_499 (sL_law_500 (sL_law_502 (sL_law_503 (sL_law_504_s (vs 5 (by omega)) (sL_law_505 (fun _ => ?_) (fun z => absurd hv z)))))))))))))))))))))))))))
    refine sL_law_512 (sL_law_513 (sL_law_514_g (ble rfl) (l_delay hr hc hw ho (by omega) (by omega) _ _ _ _ _) (fun _ P1 q => ?_) (fun q9 P1 q => by cases q.1)))
    obtain ⟨q, c1, ⟨g', o1, og⟩, F1⟩ := q
    cases q
    have hm1 := lF_M hm hp1 F1
    have hmo := hm1 0 (by decide)
    refine sL_law_517 rfl (sL_law_519 (sL_law_520 (sL_law_521 (sL_law_523 (sL_law_524 (sL_law_525_s (vs 1 (by omega)) (sL_law_526 (sL_law_527 (sL_law_529 (sL_law_530 (sL_law_531_s (vs 2 (by omega)) (sL_law_532 (sL_law_533 (sL_law_535 (sL_law_536 (sL_law_537_s (vs 3 (by omega)) (sL_law_538 (sL_law_539 (sL_law_541 (sL_law_542 (sL_law_543_s (vs 4 (by omega)) (sL_law_544 (sL_law_545 (sL_law_547 (sL_law_548 (sL_law_549_s (vs 5 (by omega)) (sL_law_550 (fun _ => ?_) (fun z => absurd hv z))))))))))))))))))))))))))))
    refine sL_law_557 (sL_law_558_g (ble rfl) hmo ((q_delay hz _ _ _ _ _) P1 hm1) (fun _ P2 q => ?_) (fun q9 P2 q => by obtain ⟨_, _, q, _⟩ := q; cases q))
    obtain ⟨v2, F2, q, ⟨rfl, eF⟩, hm2, hs2⟩ := q
    cases q
    have s0 : F2.s 0 = eN (aDelay L (w.2.2.2.2.2.2 (nI i + 1).toNatClampNeg) (w.2.2.2.2.2.2 (nI i + 2).toNatClampNeg) (w.2.2.2.2.2.2 (nI i + 3).toNatClampNeg) (w.2.2.2.2.2.2 (nI i + 4).toNatClampNeg) (0 : Int32)) := by rw [eF]; rfl
    have z2 : mZ F2 Tm n bk L := by rw [eF]; exact hz.u0
    clear eF
    show X w mL_law 200 xQ1 561 _ [.int (vI (aDelay L (w.2.2.2.2.2.2 (nI i + 1).toNatClampNeg) (w.2.2.2.2.2.2 (nI i + 2).toNatClampNeg) (w.2.2.2.2.2.2 (nI i + 3).toNatClampNeg) (w.2.2.2.2.2.2 (nI i + 4).toNatClampNeg) (0 : Int32)))] P2
    rw [show eN (mL (aDelay L (w.2.2.2.2.2.2 (nI i + 1).toNatClampNeg) (w.2.2.2.2.2.2 (nI i + 2).toNatClampNeg) (w.2.2.2.2.2.2 (nI i + 3).toNatClampNeg) (w.2.2.2.2.2.2 (nI i + 4).toNatClampNeg) (0 : Int32))) = eN (aDelay L (w.2.2.2.2.2.2 (nI i + 1).toNatClampNeg) (w.2.2.2.2.2.2 (nI i + 2).toNatClampNeg) (w.2.2.2.2.2.2 (nI i + 3).toNatClampNeg) (w.2.2.2.2.2.2 (nI i + 4).toNatClampNeg) (0 : Int32)) from eN_mL]
    generalize aDelay L (w.2.2.2.2.2.2 (nI i + 1).toNatClampNeg) (w.2.2.2.2.2.2 (nI i + 2).toNatClampNeg) (w.2.2.2.2.2.2 (nI i + 3).toNatClampNeg) (w.2.2.2.2.2.2 (nI i + 4).toNatClampNeg) (0 : Int32) = r at er og s0 ⊢
    have hmo2 := hm2 0 (by decide)
    refine sL_law_561 rfl (sL_law_563 (sL_law_564_g (ble rfl) hmo2 (m_thrown P2 hm2) (fun _ P3 q => ?_) (fun q9 P3 q => by obtain ⟨_, _, q, _⟩ := q; cases q)))
    obtain ⟨v3, F3, q, ⟨rfl, rfl⟩, hm3, hs3⟩ := q
    cases q
    show X w mL_law 200 xQ1 567 _ [.int (F3.s 0)] P3
    rw [s0]
    refine sL_law_567 (sL_law_569 (fun _ => ?_) (fun z => absurd rfl z))
    have o3 : P3.1 (b + 360) = some (xJ 1 g') := hs3.get (by omega) (hs2.get (by omega) o1)
    have c3 := (c1.md hs2).md hs3
    have fin : LI P3 b (i + 6) := ⟨S, S', Tc, Tm, n, L, t, L2, F3, bk, g', _, c3, hm3, z2, ht, o3, by rw [hs3.1, hs2.1]; have := F1.2.1; omega, by rw [hs3.1, hs2.1]; have := F1.2.2.1; omega, by rw [hs3.1, hs2.1]; have := F1.2.2.2; omega⟩
    refine sL_law_574 (sL_law_576 (fun _ => ?_) (fun z => ?_))
    · refine sL_law_591 ?_
      exact kont P3 _ _ _ fin
    obtain ⟨v, rfl⟩ := eN_0 z er
    have og := og _ rfl
    refine sL_law_579 (sL_law_580 (sL_law_581 o3 v01 ?_))
    show X w mL_law 200 xQ1 582 _ [.long (g' 0)] P3
    rw [og]
    refine sL_law_582 (sL_law_584 (sL_law_585 (sL_law_586 (fun _ => ?_) (fun z => absurd ((lg_cmp_eq _ _).mpr rfl) z))))
    refine sL_law_591 ?_
    exact kont P3 _ _ _ fin
  · have er : ∀ e, aDelay L (w.2.2.2.2.2.2 (nI i + 1).toNatClampNeg) (w.2.2.2.2.2.2 (nI i + 2).toNatClampNeg) (w.2.2.2.2.2.2 (nI i + 3).toNatClampNeg) (w.2.2.2.2.2.2 (nI i + 4).toNatClampNeg) (1 : Int32) = .error e → e = 1 ∨ e = 2 := fun e h => er_delay h
    refine sL_law_474 (sL_law_475 (sL_law_476 (sL_law_478 (sL_law_479 (sL_law_480_s (vs 1 (by omega)) (sL_law_481 (sL_law_482 (sL_law_484 (sL_law_485 (sL_law_486_s (vs 2 (by omega)) (sL_law_487 (sL_law_488 (sL_law_490 (sL_law_491 (sL_law_492_s (vs 3 (by omega)) (sL_law_493 (sL_law_494 (sL_law_496 (sL_law_497 (sL_law_498_s (vs 4 (by omega)) (sL_law_499 (sL_law_500 (sL_law_502 (sL_law_503 (sL_law_504_s (vs 5 (by omega)) (sL_law_505 (fun z => absurd z hv) (fun _ => ?_)))))))))))))))))))))))))))
    refine sL_law_508 (sL_law_509 (sL_law_513 (sL_law_514_g (ble rfl) (l_delay hr hc hw ho (by omega) (by omega) _ _ _ _ _) (fun _ P1 q => ?_) (fun q9 P1 q => by cases q.1))))
    obtain ⟨q, c1, ⟨g', o1, og⟩, F1⟩ := q
    cases q
    have hm1 := lF_M hm hp1 F1
    have hmo := hm1 0 (by decide)
    refine sL_law_517 rfl (sL_law_519 (sL_law_520 (sL_law_521 (sL_law_523 (sL_law_524 (sL_law_525_s (vs 1 (by omega)) (sL_law_526 (sL_law_527 (sL_law_529 (sL_law_530 (sL_law_531_s (vs 2 (by omega)) (sL_law_532 (sL_law_533 (sL_law_535 (sL_law_536 (sL_law_537_s (vs 3 (by omega)) (sL_law_538 (sL_law_539 (sL_law_541 (sL_law_542 (sL_law_543_s (vs 4 (by omega)) (sL_law_544 (sL_law_545 (sL_law_547 (sL_law_548 (sL_law_549_s (vs 5 (by omega)) (sL_law_550 (fun z => absurd z hv) (fun _ => ?_))))))))))))))))))))))))))))
    refine sL_law_553 (sL_law_554 (sL_law_558_g (ble rfl) hmo ((q_delay hz _ _ _ _ _) P1 hm1) (fun _ P2 q => ?_) (fun q9 P2 q => by obtain ⟨_, _, q, _⟩ := q; cases q)))
    obtain ⟨v2, F2, q, ⟨rfl, eF⟩, hm2, hs2⟩ := q
    cases q
    have s0 : F2.s 0 = eN (aDelay L (w.2.2.2.2.2.2 (nI i + 1).toNatClampNeg) (w.2.2.2.2.2.2 (nI i + 2).toNatClampNeg) (w.2.2.2.2.2.2 (nI i + 3).toNatClampNeg) (w.2.2.2.2.2.2 (nI i + 4).toNatClampNeg) (1 : Int32)) := by rw [eF]; rfl
    have z2 : mZ F2 Tm n bk L := by rw [eF]; exact hz.u0
    clear eF
    show X w mL_law 200 xQ1 561 _ [.int (vI (aDelay L (w.2.2.2.2.2.2 (nI i + 1).toNatClampNeg) (w.2.2.2.2.2.2 (nI i + 2).toNatClampNeg) (w.2.2.2.2.2.2 (nI i + 3).toNatClampNeg) (w.2.2.2.2.2.2 (nI i + 4).toNatClampNeg) (1 : Int32)))] P2
    rw [show eN (mL (aDelay L (w.2.2.2.2.2.2 (nI i + 1).toNatClampNeg) (w.2.2.2.2.2.2 (nI i + 2).toNatClampNeg) (w.2.2.2.2.2.2 (nI i + 3).toNatClampNeg) (w.2.2.2.2.2.2 (nI i + 4).toNatClampNeg) (1 : Int32))) = eN (aDelay L (w.2.2.2.2.2.2 (nI i + 1).toNatClampNeg) (w.2.2.2.2.2.2 (nI i + 2).toNatClampNeg) (w.2.2.2.2.2.2 (nI i + 3).toNatClampNeg) (w.2.2.2.2.2.2 (nI i + 4).toNatClampNeg) (1 : Int32)) from eN_mL]
    generalize aDelay L (w.2.2.2.2.2.2 (nI i + 1).toNatClampNeg) (w.2.2.2.2.2.2 (nI i + 2).toNatClampNeg) (w.2.2.2.2.2.2 (nI i + 3).toNatClampNeg) (w.2.2.2.2.2.2 (nI i + 4).toNatClampNeg) (1 : Int32) = r at er og s0 ⊢
    have hmo2 := hm2 0 (by decide)
    refine sL_law_561 rfl (sL_law_563 (sL_law_564_g (ble rfl) hmo2 (m_thrown P2 hm2) (fun _ P3 q => ?_) (fun q9 P3 q => by obtain ⟨_, _, q, _⟩ := q; cases q)))
    obtain ⟨v3, F3, q, ⟨rfl, rfl⟩, hm3, hs3⟩ := q
    cases q
    show X w mL_law 200 xQ1 567 _ [.int (F3.s 0)] P3
    rw [s0]
    refine sL_law_567 (sL_law_569 (fun _ => ?_) (fun z => absurd rfl z))
    have o3 : P3.1 (b + 360) = some (xJ 1 g') := hs3.get (by omega) (hs2.get (by omega) o1)
    have c3 := (c1.md hs2).md hs3
    have fin : LI P3 b (i + 6) := ⟨S, S', Tc, Tm, n, L, t, L2, F3, bk, g', _, c3, hm3, z2, ht, o3, by rw [hs3.1, hs2.1]; have := F1.2.1; omega, by rw [hs3.1, hs2.1]; have := F1.2.2.1; omega, by rw [hs3.1, hs2.1]; have := F1.2.2.2; omega⟩
    refine sL_law_574 (sL_law_576 (fun _ => ?_) (fun z => ?_))
    · refine sL_law_591 ?_
      exact kont P3 _ _ _ fin
    obtain ⟨v, rfl⟩ := eN_0 z er
    have og := og _ rfl
    refine sL_law_579 (sL_law_580 (sL_law_581 o3 v01 ?_))
    show X w mL_law 200 xQ1 582 _ [.long (g' 0)] P3
    rw [og]
    refine sL_law_582 (sL_law_584 (sL_law_585 (sL_law_586 (fun _ => ?_) (fun z => absurd ((lg_cmp_eq _ _).mpr rfl) z))))
    refine sL_law_591 ?_
    exact kont P3 _ _ _ fin
theorem lw_power {b i : Nat} {l5 l6 l7 : Option Value} (hb : b = w.z) (hi : i + 6 ≤ w.2.2.2.2.2.1) (hL : w.2.2.2.2.2.1 ≤ 3072) (hI : LI P b i) (kont : ∀ P' l5 l6 l7, LI P' b (i + 6) → X w mL_law 200 xQ1 1089 (lls w b i l5 l6 l7) [] P') : X w mL_law 200 xQ1 594 (lls w b i l5 l6 l7) [] P := by
  obtain ⟨S, S', Tc, Tm, n, L, t, L2, F, bk, g, f, hc, hm, hz, ht, ho, hp1, hp2, hp3⟩ := hI
  have hO := hc.1
  have hw : wL L := hz.2.2.2.2.2.2
  have hr := lI_room hb (by omega) hp2 hp3
  have vs : ∀ k, k < 6 → vp_in (nI i + nI k) w.2.2.2.2.2.1 := fun k hk => by rw [nI_add]; exact vp_in_nI (by omega) (by omega)
  have er : ∀ e, aPower L (w.2.2.2.2.2.2 (nI i + 1).toNatClampNeg) (w.2.2.2.2.2.2 (nI i + 2).toNatClampNeg) = .error e → e = 1 ∨ e = 2 := fun e h => Or.inl (er_power h)
  refine sL_law_594 (sL_law_595 (sL_law_596 (sL_law_598 (sL_law_599 (sL_law_600_s (vs 1 (by omega)) (sL_law_601 (sL_law_602 (sL_law_604 (sL_law_605 (sL_law_606_s (vs 2 (by omega)) (sL_law_607 (sL_law_608_g (ble rfl) (l_power hr hc ho (by omega) (by omega) _ _) (fun _ P1 q => ?_) (fun q9 P1 q => by cases q.1)))))))))))))
  obtain ⟨q, c1, ⟨g', o1, og⟩, F1⟩ := q
  cases q
  have hm1 := lF_M hm hp1 F1
  have hmo := hm1 0 (by decide)
  refine sL_law_611 rfl (sL_law_613 (sL_law_614 (sL_law_615 (sL_law_617 (sL_law_618 (sL_law_619_s (vs 1 (by omega)) (sL_law_620 (sL_law_621 (sL_law_623 (sL_law_624 (sL_law_625_s (vs 2 (by omega)) (sL_law_626_g (ble rfl) hmo ((q_power hz _ _) P1 hm1) (fun _ P2 q => ?_) (fun q9 P2 q => by obtain ⟨_, _, q, _⟩ := q; cases q)))))))))))))
  obtain ⟨v2, F2, q, ⟨rfl, eF⟩, hm2, hs2⟩ := q
  cases q
  have s0 : F2.s 0 = eN (aPower L (w.2.2.2.2.2.2 (nI i + 1).toNatClampNeg) (w.2.2.2.2.2.2 (nI i + 2).toNatClampNeg)) := by rw [eF]; rfl
  have z2 : mZ F2 Tm n bk L := by rw [eF]; exact hz.u0
  clear eF
  show X w mL_law 200 xQ1 629 _ [.int (vI (aPower L (w.2.2.2.2.2.2 (nI i + 1).toNatClampNeg) (w.2.2.2.2.2.2 (nI i + 2).toNatClampNeg)))] P2
  rw [show eN (mL (aPower L (w.2.2.2.2.2.2 (nI i + 1).toNatClampNeg) (w.2.2.2.2.2.2 (nI i + 2).toNatClampNeg))) = eN (aPower L (w.2.2.2.2.2.2 (nI i + 1).toNatClampNeg) (w.2.2.2.2.2.2 (nI i + 2).toNatClampNeg)) from eN_mL]
  generalize aPower L (w.2.2.2.2.2.2 (nI i + 1).toNatClampNeg) (w.2.2.2.2.2.2 (nI i + 2).toNatClampNeg) = r at er og s0 ⊢
  have hmo2 := hm2 0 (by decide)
  refine sL_law_629 rfl (sL_law_631 (sL_law_632_g (ble rfl) hmo2 (m_thrown P2 hm2) (fun _ P3 q => ?_) (fun q9 P3 q => by obtain ⟨_, _, q, _⟩ := q; cases q)))
  obtain ⟨v3, F3, q, ⟨rfl, rfl⟩, hm3, hs3⟩ := q
  cases q
  show X w mL_law 200 xQ1 635 _ [.int (F3.s 0)] P3
  rw [s0]
  refine sL_law_635 (sL_law_637 (fun _ => ?_) (fun z => absurd rfl z))
  have o3 : P3.1 (b + 360) = some (xJ 1 g') := hs3.get (by omega) (hs2.get (by omega) o1)
  have c3 := (c1.md hs2).md hs3
  have fin : LI P3 b (i + 6) := ⟨S, S', Tc, Tm, n, L, t, L2, F3, bk, g', _, c3, hm3, z2, ht, o3, by rw [hs3.1, hs2.1]; have := F1.2.1; omega, by rw [hs3.1, hs2.1]; have := F1.2.2.1; omega, by rw [hs3.1, hs2.1]; have := F1.2.2.2; omega⟩
  refine sL_law_642 (sL_law_644 (fun _ => ?_) (fun z => ?_))
  · refine sL_law_659 ?_
    exact kont P3 _ _ _ fin
  obtain ⟨v, rfl⟩ := eN_0 z er
  have og := og _ rfl
  refine sL_law_647 (sL_law_648 (sL_law_649 o3 v01 ?_))
  show X w mL_law 200 xQ1 650 _ [.long (g' 0)] P3
  rw [og]
  refine sL_law_650 (sL_law_652 (sL_law_653 (sL_law_654 (fun _ => ?_) (fun z => absurd ((lg_cmp_eq _ _).mpr rfl) z))))
  refine sL_law_659 ?_
  exact kont P3 _ _ _ fin
theorem lw_alike {b i : Nat} {l5 l6 l7 : Option Value} (hb : b = w.z) (hi : i + 6 ≤ w.2.2.2.2.2.1) (hL : w.2.2.2.2.2.1 ≤ 3072) (hI : LI P b i) (kont : ∀ P' l5 l6 l7, LI P' b (i + 6) → X w mL_law 200 xQ1 1089 (lls w b i l5 l6 l7) [] P') : X w mL_law 200 xQ1 662 (lls w b i l5 l6 l7) [] P := by
  obtain ⟨S, S', Tc, Tm, n, L, t, L2, F, bk, g, f, hc, hm, hz, ht, ho, hp1, hp2, hp3⟩ := hI
  have hO := hc.1
  have hw : wL L := hz.2.2.2.2.2.2
  have hr := lI_room hb (by omega) hp2 hp3
  have vs : ∀ k, k < 6 → vp_in (nI i + nI k) w.2.2.2.2.2.1 := fun k hk => by rw [nI_add]; exact vp_in_nI (by omega) (by omega)
  have er : ∀ e, aAlike L (w.2.2.2.2.2.2 (nI i + 1).toNatClampNeg) (w.2.2.2.2.2.2 (nI i + 2).toNatClampNeg) = .error e → e = 1 ∨ e = 2 := fun e h => Or.inl (er_alike h)
  refine sL_law_662 (sL_law_663 (sL_law_664 (sL_law_666 (sL_law_667 (sL_law_668_s (vs 1 (by omega)) (sL_law_669 (sL_law_670 (sL_law_672 (sL_law_673 (sL_law_674_s (vs 2 (by omega)) (sL_law_675 (sL_law_676_g (ble rfl) (l_alike hr hc hw ho (by omega) (by omega) _ _) (fun _ P1 q => ?_) (fun q9 P1 q => by cases q.1)))))))))))))
  obtain ⟨q, c1, ⟨g', o1, og⟩, F1⟩ := q
  cases q
  have hm1 := lF_M hm hp1 F1
  have hmo := hm1 0 (by decide)
  refine sL_law_679 rfl (sL_law_681 (sL_law_682 (sL_law_683 (sL_law_685 (sL_law_686 (sL_law_687_s (vs 1 (by omega)) (sL_law_688 (sL_law_689 (sL_law_691 (sL_law_692 (sL_law_693_s (vs 2 (by omega)) (sL_law_694_g (ble rfl) hmo ((q_alike hz _ _) P1 hm1) (fun _ P2 q => ?_) (fun q9 P2 q => by obtain ⟨_, _, q, _⟩ := q; cases q)))))))))))))
  obtain ⟨v2, F2, q, ⟨rfl, vk, _⟩, hm2, hs2⟩ := q
  cases q
  have s0 : F2.s 0 = eN (aAlike L (w.2.2.2.2.2.2 (nI i + 1).toNatClampNeg) (w.2.2.2.2.2.2 (nI i + 2).toNatClampNeg)) := vk.1 0
  have z2 : mZ F2 Tm n bk L := hz.u0.vK vk
  clear vk
  show X w mL_law 200 xQ1 697 _ [.int (vI (aAlike L (w.2.2.2.2.2.2 (nI i + 1).toNatClampNeg) (w.2.2.2.2.2.2 (nI i + 2).toNatClampNeg)))] P2
  rw [show eN (mL (aAlike L (w.2.2.2.2.2.2 (nI i + 1).toNatClampNeg) (w.2.2.2.2.2.2 (nI i + 2).toNatClampNeg))) = eN (aAlike L (w.2.2.2.2.2.2 (nI i + 1).toNatClampNeg) (w.2.2.2.2.2.2 (nI i + 2).toNatClampNeg)) from eN_mL]
  have v01' : ∀ v, aAlike L (w.2.2.2.2.2.2 (nI i + 1).toNatClampNeg) (w.2.2.2.2.2.2 (nI i + 2).toNatClampNeg) = .ok v → v = 0 ∨ v = 1 := by
    intro v h
    unfold aAlike at h
    (repeat' split at h) <;> cases h
    exact mtB_01 _ _
  generalize aAlike L (w.2.2.2.2.2.2 (nI i + 1).toNatClampNeg) (w.2.2.2.2.2.2 (nI i + 2).toNatClampNeg) = r at er og s0 v01' ⊢
  have hmo2 := hm2 0 (by decide)
  refine sL_law_697 rfl (sL_law_699 (sL_law_700_g (ble rfl) hmo2 (m_thrown P2 hm2) (fun _ P3 q => ?_) (fun q9 P3 q => by obtain ⟨_, _, q, _⟩ := q; cases q)))
  obtain ⟨v3, F3, q, ⟨rfl, rfl⟩, hm3, hs3⟩ := q
  cases q
  show X w mL_law 200 xQ1 703 _ [.int (F3.s 0)] P3
  rw [s0]
  refine sL_law_703 (sL_law_705 (fun _ => ?_) (fun z => absurd rfl z))
  have o3 : P3.1 (b + 360) = some (xJ 1 g') := hs3.get (by omega) (hs2.get (by omega) o1)
  have c3 := (c1.md hs2).md hs3
  have fin : LI P3 b (i + 6) := ⟨S, S', Tc, Tm, n, L, t, L2, F3, bk, g', _, c3, hm3, z2, ht, o3, by rw [hs3.1, hs2.1]; have := F1.2.1; omega, by rw [hs3.1, hs2.1]; have := F1.2.2.1; omega, by rw [hs3.1, hs2.1]; have := F1.2.2.2; omega⟩
  refine sL_law_710 (sL_law_712 (fun _ => ?_) (fun z => ?_))
  · refine sL_law_734 ?_
    exact kont P3 _ _ _ fin
  obtain ⟨v, rfl⟩ := eN_0 z er
  have og := og _ rfl
  refine sL_law_715 (sL_law_716 (sL_law_717 o3 v01 ?_))
  show X w mL_law 200 xQ1 718 _ [.long (g' 0)] P3
  rw [og]
  rcases v01' v rfl with rfl | rfl
  · refine sL_law_718 (sL_law_720 (fun _ => ?_) (fun z => absurd rfl z))
    refine sL_law_727 (sL_law_728 (sL_law_729 (fun _ => ?_) (fun z => absurd ((lg_cmp_eq _ _).mpr rfl) z)))
    refine sL_law_734 ?_
    exact kont P3 _ _ _ fin
  · refine sL_law_718 (sL_law_720 (fun z => absurd z (by decide)) (fun _ => ?_))
    refine sL_law_723 (sL_law_724 (sL_law_728 (sL_law_729 (fun _ => ?_) (fun z => absurd ((lg_cmp_eq _ _).mpr rfl) z))))
    refine sL_law_734 ?_
    exact kont P3 _ _ _ fin
theorem lw_order {b i : Nat} {l5 l6 l7 : Option Value} (hb : b = w.z) (hi : i + 6 ≤ w.2.2.2.2.2.1) (hL : w.2.2.2.2.2.1 ≤ 3072) (hI : LI P b i) (kont : ∀ P' l5 l6 l7, LI P' b (i + 6) → X w mL_law 200 xQ1 1089 (lls w b i l5 l6 l7) [] P') : X w mL_law 200 xQ1 737 (lls w b i l5 l6 l7) [] P := by
  obtain ⟨S, S', Tc, Tm, n, L, t, L2, F, bk, g, f, hc, hm, hz, ht, ho, hp1, hp2, hp3⟩ := hI
  have hO := hc.1
  have hw : wL L := hz.2.2.2.2.2.2
  have hr := lI_room hb (by omega) hp2 hp3
  have vs : ∀ k, k < 6 → vp_in (nI i + nI k) w.2.2.2.2.2.1 := fun k hk => by rw [nI_add]; exact vp_in_nI (by omega) (by omega)
  have er : ∀ e, aOrder L (w.2.2.2.2.2.2 (nI i + 1).toNatClampNeg) (w.2.2.2.2.2.2 (nI i + 2).toNatClampNeg) (w.2.2.2.2.2.2 (nI i + 3).toNatClampNeg) = .error e → e = 1 ∨ e = 2 := fun e h => Or.inl (er_order h)
  refine sL_law_737 (sL_law_738 (sL_law_739 (sL_law_741 (sL_law_742 (sL_law_743_s (vs 1 (by omega)) (sL_law_744 (sL_law_745 (sL_law_747 (sL_law_748 (sL_law_749_s (vs 2 (by omega)) (sL_law_750 (sL_law_751 (sL_law_753 (sL_law_754 (sL_law_755_s (vs 3 (by omega)) (sL_law_756 (sL_law_757_g (ble rfl) (l_order hr hc hw ho (by omega) (by omega) _ _ _) (fun _ P1 q => ?_) (fun q9 P1 q => by cases q.1))))))))))))))))))
  obtain ⟨q, c1, ⟨g', o1, og⟩, F1⟩ := q
  cases q
  have hm1 := lF_M hm hp1 F1
  have hmo := hm1 0 (by decide)
  refine sL_law_760 rfl (sL_law_762 (sL_law_763 (sL_law_764 (sL_law_766 (sL_law_767 (sL_law_768_s (vs 1 (by omega)) (sL_law_769 (sL_law_770 (sL_law_772 (sL_law_773 (sL_law_774_s (vs 2 (by omega)) (sL_law_775 (sL_law_776 (sL_law_778 (sL_law_779 (sL_law_780_s (vs 3 (by omega)) (sL_law_781_g (ble rfl) hmo ((q_order hz _ _ _) P1 hm1) (fun _ P2 q => ?_) (fun q9 P2 q => by obtain ⟨_, _, q, _⟩ := q; cases q))))))))))))))))))
  obtain ⟨v2, F2, q, ⟨rfl, vk, _⟩, hm2, hs2⟩ := q
  cases q
  have s0 : F2.s 0 = eN (aOrder L (w.2.2.2.2.2.2 (nI i + 1).toNatClampNeg) (w.2.2.2.2.2.2 (nI i + 2).toNatClampNeg) (w.2.2.2.2.2.2 (nI i + 3).toNatClampNeg)) := vk.1 0
  have z2 : mZ F2 Tm n bk L := hz.u0.vK vk
  clear vk
  show X w mL_law 200 xQ1 784 _ [.int (vI (aOrder L (w.2.2.2.2.2.2 (nI i + 1).toNatClampNeg) (w.2.2.2.2.2.2 (nI i + 2).toNatClampNeg) (w.2.2.2.2.2.2 (nI i + 3).toNatClampNeg)))] P2
  rw [show eN (mL (aOrder L (w.2.2.2.2.2.2 (nI i + 1).toNatClampNeg) (w.2.2.2.2.2.2 (nI i + 2).toNatClampNeg) (w.2.2.2.2.2.2 (nI i + 3).toNatClampNeg))) = eN (aOrder L (w.2.2.2.2.2.2 (nI i + 1).toNatClampNeg) (w.2.2.2.2.2.2 (nI i + 2).toNatClampNeg) (w.2.2.2.2.2.2 (nI i + 3).toNatClampNeg)) from eN_mL]
  generalize aOrder L (w.2.2.2.2.2.2 (nI i + 1).toNatClampNeg) (w.2.2.2.2.2.2 (nI i + 2).toNatClampNeg) (w.2.2.2.2.2.2 (nI i + 3).toNatClampNeg) = r at er og s0 ⊢
  have hmo2 := hm2 0 (by decide)
  refine sL_law_784 rfl (sL_law_786 (sL_law_787_g (ble rfl) hmo2 (m_thrown P2 hm2) (fun _ P3 q => ?_) (fun q9 P3 q => by obtain ⟨_, _, q, _⟩ := q; cases q)))
  obtain ⟨v3, F3, q, ⟨rfl, rfl⟩, hm3, hs3⟩ := q
  cases q
  show X w mL_law 200 xQ1 790 _ [.int (F3.s 0)] P3
  rw [s0]
  refine sL_law_790 (sL_law_792 (fun _ => ?_) (fun z => absurd rfl z))
  have o3 : P3.1 (b + 360) = some (xJ 1 g') := hs3.get (by omega) (hs2.get (by omega) o1)
  have c3 := (c1.md hs2).md hs3
  have fin : LI P3 b (i + 6) := ⟨S, S', Tc, Tm, n, L, t, L2, F3, bk, g', _, c3, hm3, z2, ht, o3, by rw [hs3.1, hs2.1]; have := F1.2.1; omega, by rw [hs3.1, hs2.1]; have := F1.2.2.1; omega, by rw [hs3.1, hs2.1]; have := F1.2.2.2; omega⟩
  refine sL_law_797 (sL_law_799 (fun _ => ?_) (fun z => ?_))
  · refine sL_law_814 ?_
    exact kont P3 _ _ _ fin
  obtain ⟨v, rfl⟩ := eN_0 z er
  have og := og _ rfl
  refine sL_law_802 (sL_law_803 (sL_law_804 o3 v01 ?_))
  show X w mL_law 200 xQ1 805 _ [.long (g' 0)] P3
  rw [og]
  refine sL_law_805 (sL_law_807 (sL_law_808 (sL_law_809 (fun _ => ?_) (fun z => absurd ((lg_cmp_eq _ _).mpr rfl) z))))
  refine sL_law_814 ?_
  exact kont P3 _ _ _ fin
theorem lw_family {b i : Nat} {l5 l6 l7 : Option Value} (hb : b = w.z) (hi : i + 6 ≤ w.2.2.2.2.2.1) (hL : w.2.2.2.2.2.1 ≤ 3072) (hI : LI P b i) (kont : ∀ P' l5 l6 l7, LI P' b (i + 6) → X w mL_law 200 xQ1 1089 (lls w b i l5 l6 l7) [] P') : X w mL_law 200 xQ1 817 (lls w b i l5 l6 l7) [] P := by
  obtain ⟨S, S', Tc, Tm, n, L, t, L2, F, bk, g, f, hc, hm, hz, ht, ho, hp1, hp2, hp3⟩ := hI
  have hO := hc.1
  have hw : wL L := hz.2.2.2.2.2.2
  have hr := lI_room hb (by omega) hp2 hp3
  have vs : ∀ k, k < 6 → vp_in (nI i + nI k) w.2.2.2.2.2.1 := fun k hk => by rw [nI_add]; exact vp_in_nI (by omega) (by omega)
  have er : ∀ e, aFamily L (w.2.2.2.2.2.2 (nI i + 1).toNatClampNeg) (w.2.2.2.2.2.2 (nI i + 2).toNatClampNeg) f = .error e → e = 1 ∨ e = 2 := fun e h => Or.inl (er_family h)
  refine sL_law_817 (sL_law_818 (sL_law_819 (sL_law_821 (sL_law_822 (sL_law_823_s (vs 1 (by omega)) (sL_law_824 (sL_law_825 (sL_law_827 (sL_law_828 (sL_law_829_s (vs 2 (by omega)) (sL_law_830 (sL_law_831_g (ble rfl) (l_family hr hc hw ho (by omega) (by omega) _ _) (fun _ P1 q => ?_) (fun q9 P1 q => by cases q.1)))))))))))))
  obtain ⟨q, c1, ⟨g', o1, og⟩, F1⟩ := q
  cases q
  have hm1 := lF_M hm hp1 F1
  have hmo := hm1 0 (by decide)
  refine sL_law_834 rfl (sL_law_836 (sL_law_837 (sL_law_838 (sL_law_840 (sL_law_841 (sL_law_842_s (vs 1 (by omega)) (sL_law_843 (sL_law_844 (sL_law_846 (sL_law_847 (sL_law_848_s (vs 2 (by omega)) (sL_law_849_g (ble rfl) hmo ((q_family hz _ _) P1 hm1) (fun _ P2 q => ?_) (fun q9 P2 q => by obtain ⟨_, _, q, _⟩ := q; cases q)))))))))))))
  obtain ⟨v2, F2, q, ⟨rfl, vk, _⟩, hm2, hs2⟩ := q
  cases q
  have s0 : F2.s 0 = eN (aFamily L (w.2.2.2.2.2.2 (nI i + 1).toNatClampNeg) (w.2.2.2.2.2.2 (nI i + 2).toNatClampNeg) (F.a 24)) := vk.1 0
  have z2 : mZ F2 Tm n bk L := hz.u0.vK vk
  clear vk
  rw [show aFamily L (w.2.2.2.2.2.2 (nI i + 1).toNatClampNeg) (w.2.2.2.2.2.2 (nI i + 2).toNatClampNeg) (F.a 24) = aFamily L (w.2.2.2.2.2.2 (nI i + 1).toNatClampNeg) (w.2.2.2.2.2.2 (nI i + 2).toNatClampNeg) f from family_cg hw] at s0
  show X w mL_law 200 xQ1 852 _ [.int (vI (aFamily L (w.2.2.2.2.2.2 (nI i + 1).toNatClampNeg) (w.2.2.2.2.2.2 (nI i + 2).toNatClampNeg) (F.a 24)))] P2
  rw [show aFamily L (w.2.2.2.2.2.2 (nI i + 1).toNatClampNeg) (w.2.2.2.2.2.2 (nI i + 2).toNatClampNeg) (F.a 24) = aFamily L (w.2.2.2.2.2.2 (nI i + 1).toNatClampNeg) (w.2.2.2.2.2.2 (nI i + 2).toNatClampNeg) f from family_cg hw]
  rw [show eN (mL (aFamily L (w.2.2.2.2.2.2 (nI i + 1).toNatClampNeg) (w.2.2.2.2.2.2 (nI i + 2).toNatClampNeg) f)) = eN (aFamily L (w.2.2.2.2.2.2 (nI i + 1).toNatClampNeg) (w.2.2.2.2.2.2 (nI i + 2).toNatClampNeg) f) from eN_mL]
  generalize aFamily L (w.2.2.2.2.2.2 (nI i + 1).toNatClampNeg) (w.2.2.2.2.2.2 (nI i + 2).toNatClampNeg) f = r at er og s0 ⊢
  have hmo2 := hm2 0 (by decide)
  refine sL_law_852 rfl (sL_law_854 (sL_law_855_g (ble rfl) hmo2 (m_thrown P2 hm2) (fun _ P3 q => ?_) (fun q9 P3 q => by obtain ⟨_, _, q, _⟩ := q; cases q)))
  obtain ⟨v3, F3, q, ⟨rfl, rfl⟩, hm3, hs3⟩ := q
  cases q
  show X w mL_law 200 xQ1 858 _ [.int (F3.s 0)] P3
  rw [s0]
  refine sL_law_858 (sL_law_860 (fun _ => ?_) (fun z => absurd rfl z))
  have o3 : P3.1 (b + 360) = some (xJ 1 g') := hs3.get (by omega) (hs2.get (by omega) o1)
  have c3 := (c1.md hs2).md hs3
  have fin : LI P3 b (i + 6) := ⟨S, S', Tc, Tm, n, L, t, L2, F3, bk, g', _, c3, hm3, z2, ht, o3, by rw [hs3.1, hs2.1]; have := F1.2.1; omega, by rw [hs3.1, hs2.1]; have := F1.2.2.1; omega, by rw [hs3.1, hs2.1]; have := F1.2.2.2; omega⟩
  refine sL_law_865 (sL_law_867 (fun _ => ?_) (fun z => ?_))
  · refine sL_law_882 ?_
    exact kont P3 _ _ _ fin
  obtain ⟨v, rfl⟩ := eN_0 z er
  have og := og _ rfl
  refine sL_law_870 (sL_law_871 (sL_law_872 o3 v01 ?_))
  show X w mL_law 200 xQ1 873 _ [.long (g' 0)] P3
  rw [og]
  refine sL_law_873 (sL_law_875 (sL_law_876 (sL_law_877 (fun _ => ?_) (fun z => absurd ((lg_cmp_eq _ _).mpr rfl) z))))
  refine sL_law_882 ?_
  exact kont P3 _ _ _ fin
theorem lw_best {b i : Nat} {l5 l6 l7 : Option Value} (hb : b = w.z) (hi : i + 6 ≤ w.2.2.2.2.2.1) (hL : w.2.2.2.2.2.1 ≤ 3072) (hI : LI P b i) (kont : ∀ P' l5 l6 l7, LI P' b (i + 6) → X w mL_law 200 xQ1 1089 (lls w b i l5 l6 l7) [] P') : X w mL_law 200 xQ1 885 (lls w b i l5 l6 l7) [] P := by
  obtain ⟨S, S', Tc, Tm, n, L, t, L2, F, bk, g, f, hc, hm, hz, ht, ho, hp1, hp2, hp3⟩ := hI
  have hO := hc.1
  have hw : wL L := hz.2.2.2.2.2.2
  have hr := lI_room hb (by omega) hp2 hp3
  have vs : ∀ k, k < 6 → vp_in (nI i + nI k) w.2.2.2.2.2.1 := fun k hk => by rw [nI_add]; exact vp_in_nI (by omega) (by omega)
  have er : ∀ e, aBest L (w.2.2.2.2.2.2 (nI i + 1).toNatClampNeg) (w.2.2.2.2.2.2 (nI i + 2).toNatClampNeg) f = .error e → e = 1 ∨ e = 2 := fun e h => er_best h
  refine sL_law_885 (sL_law_886 (sL_law_887 (sL_law_889 (sL_law_890 (sL_law_891_s (vs 1 (by omega)) (sL_law_892 (sL_law_893 (sL_law_895 (sL_law_896 (sL_law_897_s (vs 2 (by omega)) (sL_law_898 (sL_law_899_g (ble rfl) (l_best hr hc hw ho (by omega) (by omega) _ _) (fun _ P1 q => ?_) (fun q9 P1 q => by cases q.1)))))))))))))
  obtain ⟨q, c1, ⟨g', o1, og⟩, F1⟩ := q
  cases q
  have hm1 := lF_M hm hp1 F1
  have hmo := hm1 0 (by decide)
  refine sL_law_902 rfl (sL_law_904 (sL_law_905 (sL_law_906 (sL_law_908 (sL_law_909 (sL_law_910_s (vs 1 (by omega)) (sL_law_911 (sL_law_912 (sL_law_914 (sL_law_915 (sL_law_916_s (vs 2 (by omega)) (sL_law_917_g (ble rfl) hmo ((q_best hz _ _) P1 hm1) (fun _ P2 q => ?_) (fun q9 P2 q => by obtain ⟨_, _, q, _⟩ := q; cases q)))))))))))))
  obtain ⟨v2, F2, q, ⟨rfl, vk, _⟩, hm2, hs2⟩ := q
  cases q
  have s0 : F2.s 0 = eN (aBest L (w.2.2.2.2.2.2 (nI i + 1).toNatClampNeg) (w.2.2.2.2.2.2 (nI i + 2).toNatClampNeg) (F.a 24)) := vk.1 0
  have z2 : mZ F2 Tm n bk L := hz.u0.vK vk
  clear vk
  rw [show aBest L (w.2.2.2.2.2.2 (nI i + 1).toNatClampNeg) (w.2.2.2.2.2.2 (nI i + 2).toNatClampNeg) (F.a 24) = aBest L (w.2.2.2.2.2.2 (nI i + 1).toNatClampNeg) (w.2.2.2.2.2.2 (nI i + 2).toNatClampNeg) f from best_cg hw] at s0
  show X w mL_law 200 xQ1 920 _ [.int (vI (aBest L (w.2.2.2.2.2.2 (nI i + 1).toNatClampNeg) (w.2.2.2.2.2.2 (nI i + 2).toNatClampNeg) (F.a 24)))] P2
  rw [show aBest L (w.2.2.2.2.2.2 (nI i + 1).toNatClampNeg) (w.2.2.2.2.2.2 (nI i + 2).toNatClampNeg) (F.a 24) = aBest L (w.2.2.2.2.2.2 (nI i + 1).toNatClampNeg) (w.2.2.2.2.2.2 (nI i + 2).toNatClampNeg) f from best_cg hw]
  rw [show eN (mL (aBest L (w.2.2.2.2.2.2 (nI i + 1).toNatClampNeg) (w.2.2.2.2.2.2 (nI i + 2).toNatClampNeg) f)) = eN (aBest L (w.2.2.2.2.2.2 (nI i + 1).toNatClampNeg) (w.2.2.2.2.2.2 (nI i + 2).toNatClampNeg) f) from eN_mL]
  generalize aBest L (w.2.2.2.2.2.2 (nI i + 1).toNatClampNeg) (w.2.2.2.2.2.2 (nI i + 2).toNatClampNeg) f = r at er og s0 ⊢
  have hmo2 := hm2 0 (by decide)
  refine sL_law_920 rfl (sL_law_922 (sL_law_923_g (ble rfl) hmo2 (m_thrown P2 hm2) (fun _ P3 q => ?_) (fun q9 P3 q => by obtain ⟨_, _, q, _⟩ := q; cases q)))
  obtain ⟨v3, F3, q, ⟨rfl, rfl⟩, hm3, hs3⟩ := q
  cases q
  show X w mL_law 200 xQ1 926 _ [.int (F3.s 0)] P3
  rw [s0]
  refine sL_law_926 (sL_law_928 (fun _ => ?_) (fun z => absurd rfl z))
  have o3 : P3.1 (b + 360) = some (xJ 1 g') := hs3.get (by omega) (hs2.get (by omega) o1)
  have c3 := (c1.md hs2).md hs3
  have fin : LI P3 b (i + 6) := ⟨S, S', Tc, Tm, n, L, t, L2, F3, bk, g', _, c3, hm3, z2, ht, o3, by rw [hs3.1, hs2.1]; have := F1.2.1; omega, by rw [hs3.1, hs2.1]; have := F1.2.2.1; omega, by rw [hs3.1, hs2.1]; have := F1.2.2.2; omega⟩
  refine sL_law_933 (sL_law_935 (fun _ => ?_) (fun z => ?_))
  · refine sL_law_950 ?_
    exact kont P3 _ _ _ fin
  obtain ⟨v, rfl⟩ := eN_0 z er
  have og := og _ rfl
  refine sL_law_938 (sL_law_939 (sL_law_940 o3 v01 ?_))
  show X w mL_law 200 xQ1 941 _ [.long (g' 0)] P3
  rw [og]
  refine sL_law_941 (sL_law_943 (sL_law_944 (sL_law_945 (fun _ => ?_) (fun z => absurd ((lg_cmp_eq _ _).mpr rfl) z))))
  refine sL_law_950 ?_
  exact kont P3 _ _ _ fin
theorem lw_letter {b i : Nat} {l5 l6 l7 : Option Value} (hb : b = w.z) (hi : i + 6 ≤ w.2.2.2.2.2.1) (hL : w.2.2.2.2.2.1 ≤ 3072) (hI : LI P b i) (kont : ∀ P' l5 l6 l7, LI P' b (i + 6) → X w mL_law 200 xQ1 1089 (lls w b i l5 l6 l7) [] P') : X w mL_law 200 xQ1 953 (lls w b i l5 l6 l7) [] P := by
  obtain ⟨S, S', Tc, Tm, n, L, t, L2, F, bk, g, f, hc, hm, hz, ht, ho, hp1, hp2, hp3⟩ := hI
  have hO := hc.1
  have hw : wL L := hz.2.2.2.2.2.2
  have hr := lI_room hb (by omega) hp2 hp3
  have vs : ∀ k, k < 6 → vp_in (nI i + nI k) w.2.2.2.2.2.1 := fun k hk => by rw [nI_add]; exact vp_in_nI (by omega) (by omega)
  have er : ∀ e, aLetter L (w.2.2.2.2.2.2 (nI i + 1).toNatClampNeg) (w.2.2.2.2.2.2 (nI i + 2).toNatClampNeg) (w.2.2.2.2.2.2 (nI i + 3).toNatClampNeg) = .error e → e = 1 ∨ e = 2 := fun e h => Or.inl (er_letter h)
  refine sL_law_953 (sL_law_954 (sL_law_955 (sL_law_957 (sL_law_958 (sL_law_959_s (vs 1 (by omega)) (sL_law_960 (sL_law_961 (sL_law_963 (sL_law_964 (sL_law_965_s (vs 2 (by omega)) (sL_law_966 (sL_law_967 (sL_law_969 (sL_law_970 (sL_law_971_s (vs 3 (by omega)) (sL_law_972 (sL_law_973_g (ble rfl) (l_letter hr hc ho (by omega) (by omega) _ _ _) (fun _ P1 q => ?_) (fun q9 P1 q => by cases q.1))))))))))))))))))
  obtain ⟨q, c1, ⟨g', o1, og⟩, F1⟩ := q
  cases q
  have hm1 := lF_M hm hp1 F1
  have hmo := hm1 0 (by decide)
  refine sL_law_976 rfl (sL_law_978 (sL_law_979 (sL_law_980 (sL_law_982 (sL_law_983 (sL_law_984_s (vs 1 (by omega)) (sL_law_985 (sL_law_986 (sL_law_988 (sL_law_989 (sL_law_990_s (vs 2 (by omega)) (sL_law_991 (sL_law_992 (sL_law_994 (sL_law_995 (sL_law_996_s (vs 3 (by omega)) (sL_law_997_g (ble rfl) hmo ((q_letter hz _ _ _) P1 hm1) (fun _ P2 q => ?_) (fun q9 P2 q => by obtain ⟨_, _, q, _⟩ := q; cases q))))))))))))))))))
  obtain ⟨v2, F2, q, ⟨rfl, eF⟩, hm2, hs2⟩ := q
  cases q
  have s0 : F2.s 0 = eN (aLetter L (w.2.2.2.2.2.2 (nI i + 1).toNatClampNeg) (w.2.2.2.2.2.2 (nI i + 2).toNatClampNeg) (w.2.2.2.2.2.2 (nI i + 3).toNatClampNeg)) := by rw [eF]; rfl
  have z2 : mZ F2 Tm n bk L := by rw [eF]; exact hz.u0
  clear eF
  show X w mL_law 200 xQ1 1000 _ [.int (vI (aLetter L (w.2.2.2.2.2.2 (nI i + 1).toNatClampNeg) (w.2.2.2.2.2.2 (nI i + 2).toNatClampNeg) (w.2.2.2.2.2.2 (nI i + 3).toNatClampNeg)))] P2
  rw [show eN (mL (aLetter L (w.2.2.2.2.2.2 (nI i + 1).toNatClampNeg) (w.2.2.2.2.2.2 (nI i + 2).toNatClampNeg) (w.2.2.2.2.2.2 (nI i + 3).toNatClampNeg))) = eN (aLetter L (w.2.2.2.2.2.2 (nI i + 1).toNatClampNeg) (w.2.2.2.2.2.2 (nI i + 2).toNatClampNeg) (w.2.2.2.2.2.2 (nI i + 3).toNatClampNeg)) from eN_mL]
  generalize aLetter L (w.2.2.2.2.2.2 (nI i + 1).toNatClampNeg) (w.2.2.2.2.2.2 (nI i + 2).toNatClampNeg) (w.2.2.2.2.2.2 (nI i + 3).toNatClampNeg) = r at er og s0 ⊢
  have hmo2 := hm2 0 (by decide)
  refine sL_law_1000 rfl (sL_law_1002 (sL_law_1003_g (ble rfl) hmo2 (m_thrown P2 hm2) (fun _ P3 q => ?_) (fun q9 P3 q => by obtain ⟨_, _, q, _⟩ := q; cases q)))
  obtain ⟨v3, F3, q, ⟨rfl, rfl⟩, hm3, hs3⟩ := q
  cases q
  show X w mL_law 200 xQ1 1006 _ [.int (F3.s 0)] P3
  rw [s0]
  refine sL_law_1006 (sL_law_1008 (fun _ => ?_) (fun z => absurd rfl z))
  have o3 : P3.1 (b + 360) = some (xJ 1 g') := hs3.get (by omega) (hs2.get (by omega) o1)
  have c3 := (c1.md hs2).md hs3
  have fin : LI P3 b (i + 6) := ⟨S, S', Tc, Tm, n, L, t, L2, F3, bk, g', _, c3, hm3, z2, ht, o3, by rw [hs3.1, hs2.1]; have := F1.2.1; omega, by rw [hs3.1, hs2.1]; have := F1.2.2.1; omega, by rw [hs3.1, hs2.1]; have := F1.2.2.2; omega⟩
  refine sL_law_1013 (sL_law_1015 (fun _ => ?_) (fun z => ?_))
  · refine sL_law_1030 ?_
    exact kont P3 _ _ _ fin
  obtain ⟨v, rfl⟩ := eN_0 z er
  have og := og _ rfl
  refine sL_law_1018 (sL_law_1019 (sL_law_1020 o3 v01 ?_))
  show X w mL_law 200 xQ1 1021 _ [.long (g' 0)] P3
  rw [og]
  refine sL_law_1021 (sL_law_1023 (sL_law_1024 (sL_law_1025 (fun _ => ?_) (fun z => absurd ((lg_cmp_eq _ _).mpr rfl) z))))
  refine sL_law_1030 ?_
  exact kont P3 _ _ _ fin
theorem lw_count {b i : Nat} {l5 l6 l7 : Option Value} (hb : b = w.z) (hi : i + 6 ≤ w.2.2.2.2.2.1) (hL : w.2.2.2.2.2.1 ≤ 3072) (hI : LI P b i) (kont : ∀ P' l5 l6 l7, LI P' b (i + 6) → X w mL_law 200 xQ1 1089 (lls w b i l5 l6 l7) [] P') : X w mL_law 200 xQ1 1033 (lls w b i l5 l6 l7) [] P := by
  obtain ⟨S, S', Tc, Tm, n, L, t, L2, F, bk, g, f, hc, hm, hz, ht, ho, hp1, hp2, hp3⟩ := hI
  have hO := hc.1
  have hw : wL L := hz.2.2.2.2.2.2
  have hr := lI_room hb (by omega) hp2 hp3
  have vs : ∀ k, k < 6 → vp_in (nI i + nI k) w.2.2.2.2.2.1 := fun k hk => by rw [nI_add]; exact vp_in_nI (by omega) (by omega)
  have er : ∀ e, aCount L n (w.2.2.2.2.2.2 (nI i + 1).toNatClampNeg) = .error e → e = 1 ∨ e = 2 := fun e h => Or.inl (er_count h)
  refine sL_law_1033 (sL_law_1034 (sL_law_1035 (sL_law_1037 (sL_law_1038 (sL_law_1039_s (vs 1 (by omega)) (sL_law_1040 (sL_law_1041_g (ble rfl) (l_count hr hc ho (by omega) (by omega) _) (fun _ P1 q => ?_) (fun q9 P1 q => by cases q.1))))))))
  obtain ⟨q, c1, ⟨g', o1, og⟩, F1⟩ := q
  cases q
  have hm1 := lF_M hm hp1 F1
  have hmo := hm1 0 (by decide)
  refine sL_law_1044 rfl (sL_law_1046 (sL_law_1047 (sL_law_1048 (sL_law_1050 (sL_law_1051 (sL_law_1052_s (vs 1 (by omega)) (sL_law_1053_g (ble rfl) hmo ((q_count hz _) P1 hm1) (fun _ P2 q => ?_) (fun q9 P2 q => by obtain ⟨_, _, q, _⟩ := q; cases q))))))))
  obtain ⟨v2, F2, q, ⟨rfl, eF⟩, hm2, hs2⟩ := q
  cases q
  have s0 : F2.s 0 = eN (aCount L n (w.2.2.2.2.2.2 (nI i + 1).toNatClampNeg)) := by rw [eF]; rfl
  have z2 : mZ F2 Tm n bk L := by rw [eF]; exact hz.u0
  clear eF
  show X w mL_law 200 xQ1 1056 _ [.int (vI (aCount L n (w.2.2.2.2.2.2 (nI i + 1).toNatClampNeg)))] P2
  rw [show eN (mL (aCount L n (w.2.2.2.2.2.2 (nI i + 1).toNatClampNeg))) = eN (aCount L n (w.2.2.2.2.2.2 (nI i + 1).toNatClampNeg)) from eN_mL]
  generalize aCount L n (w.2.2.2.2.2.2 (nI i + 1).toNatClampNeg) = r at er og s0 ⊢
  have hmo2 := hm2 0 (by decide)
  refine sL_law_1056 rfl (sL_law_1058 (sL_law_1059_g (ble rfl) hmo2 (m_thrown P2 hm2) (fun _ P3 q => ?_) (fun q9 P3 q => by obtain ⟨_, _, q, _⟩ := q; cases q)))
  obtain ⟨v3, F3, q, ⟨rfl, rfl⟩, hm3, hs3⟩ := q
  cases q
  show X w mL_law 200 xQ1 1062 _ [.int (F3.s 0)] P3
  rw [s0]
  refine sL_law_1062 (sL_law_1064 (fun _ => ?_) (fun z => absurd rfl z))
  have o3 : P3.1 (b + 360) = some (xJ 1 g') := hs3.get (by omega) (hs2.get (by omega) o1)
  have c3 := (c1.md hs2).md hs3
  have fin : LI P3 b (i + 6) := ⟨S, S', Tc, Tm, n, L, t, L2, F3, bk, g', _, c3, hm3, z2, ht, o3, by rw [hs3.1, hs2.1]; have := F1.2.1; omega, by rw [hs3.1, hs2.1]; have := F1.2.2.1; omega, by rw [hs3.1, hs2.1]; have := F1.2.2.2; omega⟩
  refine sL_law_1069 (sL_law_1071 (fun _ => ?_) (fun z => ?_))
  · refine sL_law_1086 ?_
    exact kont P3 _ _ _ fin
  obtain ⟨v, rfl⟩ := eN_0 z er
  have og := og _ rfl
  refine sL_law_1074 (sL_law_1075 (sL_law_1076 o3 v01 ?_))
  show X w mL_law 200 xQ1 1077 _ [.long (g' 0)] P3
  rw [og]
  refine sL_law_1077 (sL_law_1079 (sL_law_1080 (sL_law_1081 (fun _ => ?_) (fun z => absurd ((lg_cmp_eq _ _).mpr rfl) z))))
  refine sL_law_1086 ?_
  exact kont P3 _ _ _ fin
end RS
