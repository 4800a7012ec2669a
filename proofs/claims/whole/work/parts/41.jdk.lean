section Jdk
variable {w : xWd} {d : Nat} {P : xH}
theorem c_max (a b : Int32) : xC w d mJ9_max_7cf53 [.int a, .int b] P (xRet (some (.int (if a < b then b else a))) P) := by
  refine xC_of (by decide +kernel) (Nat.le_of_ble_eq_true rfl) (ls := [some (.int a), some (.int b)]) rfl ?_
  refine sJ9_max_7cf53_0 (sJ9_max_7cf53_1 (sJ9_max_7cf53_2 (fun h2 => ?_) (fun h2 => ?_)))
  · refine sJ9_max_7cf53_9 (sJ9_max_7cf53_10 ?_)
    refine ⟨?_, rfl⟩; simp [h2]
  · refine sJ9_max_7cf53_5 (sJ9_max_7cf53_6 (sJ9_max_7cf53_10 ?_))
    refine ⟨?_, rfl⟩; simp [h2]
theorem c_min (a b : Int32) : xC w d mJ9_min_7cf53 [.int a, .int b] P (xRet (some (.int (if b < a then b else a))) P) := by
  refine xC_of (by decide +kernel) (Nat.le_of_ble_eq_true rfl) (ls := [some (.int a), some (.int b)]) rfl ?_
  refine sJ9_min_7cf53_0 (sJ9_min_7cf53_1 (sJ9_min_7cf53_2 (fun h2 => ?_) (fun h2 => ?_)))
  · refine sJ9_min_7cf53_9 (sJ9_min_7cf53_10 ?_)
    refine ⟨?_, rfl⟩; simp [h2]
  · refine sJ9_min_7cf53_5 (sJ9_min_7cf53_6 (sJ9_min_7cf53_10 ?_))
    refine ⟨?_, rfl⟩; simp [h2]
def fdv (x y : Int64) : Int64 := if ¬ 0 ≤ x ^^^ y ∧ ¬ x / y * y = x then x / y - 1 else x / y
theorem c_floorDiv (x y : Int64) (hy : ¬ y = 0) : xC w d mJ9_floorDiv_f86c9 [.long x, .long y] P (xRet (some (.long (fdv x y))) P) := by
  refine xC_of (by decide +kernel) (Nat.le_of_ble_eq_true rfl) (ls := [some (.long x), none, some (.long y), none, none, none]) rfl ?_
  refine sJ9_floorDiv_f86c9_0 (sJ9_floorDiv_f86c9_1 (sJ9_floorDiv_f86c9_2 hy (sJ9_floorDiv_f86c9_3 rfl (sJ9_floorDiv_f86c9_5 (sJ9_floorDiv_f86c9_6 (sJ9_floorDiv_f86c9_7 (sJ9_floorDiv_f86c9_8 (sJ9_floorDiv_f86c9_9 (sJ9_floorDiv_f86c9_10 (fun h10 => ?_) (fun h10 => ?_))))))))))
  · refine sJ9_floorDiv_f86c9_27 (sJ9_floorDiv_f86c9_29 ?_)
    refine ⟨?_, rfl⟩; simp only [lg_cmp_ge, lg_cmp_eq] at *; unfold fdv; simp [*]
  · refine sJ9_floorDiv_f86c9_13 (sJ9_floorDiv_f86c9_15 (sJ9_floorDiv_f86c9_16 (sJ9_floorDiv_f86c9_17 (sJ9_floorDiv_f86c9_18 (sJ9_floorDiv_f86c9_19 (fun h19 => ?_) (fun h19 => ?_))))))
    · refine sJ9_floorDiv_f86c9_27 (sJ9_floorDiv_f86c9_29 ?_)
      refine ⟨?_, rfl⟩; simp only [lg_cmp_ge, lg_cmp_eq] at *; unfold fdv; simp [*]
    · refine sJ9_floorDiv_f86c9_22 (sJ9_floorDiv_f86c9_24 (sJ9_floorDiv_f86c9_25 (sJ9_floorDiv_f86c9_26 ?_)))
      refine ⟨?_, rfl⟩; simp only [lg_cmp_ge, lg_cmp_eq] at *; unfold fdv; simp [*]
def bitc (x : Int64) : Int32 :=
  let sh := fun (v : Int64) (k : Int32) => (v.toUInt64 >>> (k.toInt64.toUInt64 &&& Int64.toUInt64 63)).toInt64
  let a := x - (sh x 1 &&& 6148914691236517205)
  let b := (a &&& 3689348814741910323) + (sh a 2 &&& 3689348814741910323)
  let c := (b + sh b 4) &&& 1085102592571150095
  let e := c + sh c 8
  let f := e + sh e 16
  let g := f + sh f 32
  g.toInt32 &&& 127
theorem c_bitCount (x : Int64) : xC w d mJ13_bitCount_95d88 [.long x] P (xRet (some (.int (bitc x))) P) := by
  refine xC_of (by decide +kernel) (Nat.le_of_ble_eq_true rfl) (ls := [some (.long x), none]) rfl ?_
  refine sJ13_bitCount_95d88_0 (sJ13_bitCount_95d88_1 (sJ13_bitCount_95d88_2 (sJ13_bitCount_95d88_3 (sJ13_bitCount_95d88_4 (sJ13_bitCount_95d88_7 (sJ13_bitCount_95d88_8 (sJ13_bitCount_95d88_9 (sJ13_bitCount_95d88_10 (sJ13_bitCount_95d88_11 (sJ13_bitCount_95d88_14 (sJ13_bitCount_95d88_15 (sJ13_bitCount_95d88_16 (sJ13_bitCount_95d88_17 (sJ13_bitCount_95d88_18 (sJ13_bitCount_95d88_21 (sJ13_bitCount_95d88_22 (sJ13_bitCount_95d88_23 (sJ13_bitCount_95d88_24 (sJ13_bitCount_95d88_25 (sJ13_bitCount_95d88_26 (sJ13_bitCount_95d88_27 (sJ13_bitCount_95d88_28 (sJ13_bitCount_95d88_29 (sJ13_bitCount_95d88_32 (sJ13_bitCount_95d88_33 (sJ13_bitCount_95d88_34 (sJ13_bitCount_95d88_35 (sJ13_bitCount_95d88_36 (sJ13_bitCount_95d88_38 (sJ13_bitCount_95d88_39 (sJ13_bitCount_95d88_40 (sJ13_bitCount_95d88_41 (sJ13_bitCount_95d88_42 (sJ13_bitCount_95d88_43 (sJ13_bitCount_95d88_45 (sJ13_bitCount_95d88_46 (sJ13_bitCount_95d88_47 (sJ13_bitCount_95d88_48 (sJ13_bitCount_95d88_49 (sJ13_bitCount_95d88_50 (sJ13_bitCount_95d88_52 (sJ13_bitCount_95d88_53 (sJ13_bitCount_95d88_54 (sJ13_bitCount_95d88_55 (sJ13_bitCount_95d88_56 (sJ13_bitCount_95d88_57 (sJ13_bitCount_95d88_59 (sJ13_bitCount_95d88_60 ?_))))))))))))))))))))))))))))))))))))))))))))))))
  exact ⟨rfl, rfl⟩
theorem c_coder {i : Nat} (hi : i < 26) : xC w d mJ0_coder_7d493 [.ref (w.ad (10 + i))] P (xRet (some (.int 0)) P) := by
  refine xC_of (by decide +kernel) (Nat.le_of_ble_eq_true rfl) (ls := [some (.ref (w.ad (10 + i)))]) rfl ?_
  refine sJ0_coder_7d493_0 (sJ0_coder_7d493_3 (fun h => absurd h (by decide)) (fun h => ?_))
  refine sJ0_coder_7d493_6 (sJ0_coder_7d493_7 hi (sJ0_coder_7d493_10 (sJ0_coder_7d493_14 rfl ⟨rfl, rfl⟩)))
theorem c_isLatin1 {i : Nat} (hi : i < 26) : xC w d mJ0_isLatin1_aae02 [.ref (w.ad (10 + i))] P (xRet (some (.int 1)) P) := by
  refine xC_of (by decide +kernel) (Nat.le_of_ble_eq_true rfl) (ls := [some (.ref (w.ad (10 + i)))]) rfl ?_
  refine sJ0_isLatin1_aae02_0 (sJ0_isLatin1_aae02_3 (fun h => absurd h (by decide)) (fun h => ?_))
  refine sJ0_isLatin1_aae02_6 (sJ0_isLatin1_aae02_7 hi (sJ0_isLatin1_aae02_10 (fun h => absurd rfl h) (fun h => ?_)))
  refine sJ0_isLatin1_aae02_13 (sJ0_isLatin1_aae02_14 (sJ0_isLatin1_aae02_18 (Or.inr rfl) ⟨rfl, rfl⟩))
theorem c_slen {i : Nat} (hi : i < 26) : xC w (d + 1) mJ0_length_8abf5 [.ref (w.ad (10 + i))] P (xRet (some (.int (nI (xSl.getD i 0)))) P) := by
  refine xC_of (by decide +kernel) (Nat.le_of_ble_eq_true rfl) (ls := [some (.ref (w.ad (10 + i)))]) rfl ?_
  refine sJ0_length_8abf5_0 (sJ0_length_8abf5_1 hi (sJ0_length_8abf5_4 hi (sJ0_length_8abf5_5 (sJ0_length_8abf5_6 (ble rfl) hi (c_coder hi) (sJ0_length_8abf5_9 (sJ0_length_8abf5_10 ⟨?_, rfl⟩))))))
  show Outcome.returned (some (Value.int (Int32.ofNat (xSl.getD i 0) >>> ((0 : Int32) &&& 31)))) = _
  rw [sb_shr0]; rfl
def chr (i : Nat) (j : Nat) : Int32 := (xSb.getD i []).getD j 0
theorem chr_ok : ∀ i : Fin 26, ∀ j : Fin 5, ((chr i j &&& 255).toUInt32 % 65536).toInt32 = chr i j ∧ narrow .char (.int (chr i j)) = .int (chr i j) := by decide +kernel
theorem xsl5 : ∀ i : Fin 26, xSl.getD i 0 ≤ 5 := by decide +kernel
theorem c_pchk {i n : Nat} (h : i < n) (hn : n < 2 ^ 31) (v : Value) (hv : v.category = 1) : xC w d mJ3_checkIndex_8e157 [.int (nI i), .int (nI n), v] P (xRet (some (.int (nI i))) P) := by
  refine xC_of (by decide +kernel) (by cases v <;> first | exact ble rfl | cases hv) (ls := [some (.int (nI i)), some (.int (nI n)), some v]) (by cases v <;> first | rfl | cases hv) ?_
  refine sJ3_checkIndex_8e157_0 (sJ3_checkIndex_8e157_1 (fun h9 => absurd h9 (nI_pos (by omega))) (fun _ => ?_))
  refine sJ3_checkIndex_8e157_4 (sJ3_checkIndex_8e157_5 (sJ3_checkIndex_8e157_6 (fun _ => ?_) (fun h9 => absurd (nI_lt h hn) h9)))
  refine sJ3_checkIndex_8e157_16 (sJ3_checkIndex_8e157_17 ⟨rfl, rfl⟩)
theorem c_schk {i n : Nat} (h : i < n) (hn : n < 2 ^ 31) : xC w (d + 1) mJ0_checkIndex_df160 [.int (nI i), .int (nI n)] P (xRet none P) := by
  refine xC_of (by decide +kernel) (Nat.le_of_ble_eq_true rfl) (ls := [some (.int (nI i)), some (.int (nI n))]) rfl ?_
  refine sJ0_checkIndex_df160_0 (sJ0_checkIndex_df160_1 (sJ0_checkIndex_df160_2 (fun v hv => ?_)))
  refine sJ0_checkIndex_df160_5 (ble rfl) (c_pchk h hn v hv) (sJ0_checkIndex_df160_8 rfl (sJ0_checkIndex_df160_9 ⟨rfl, rfl⟩))
theorem c_l1char {i j : Nat} (hi : i < 26) (hj : j < xSl.getD i 0) : xC w (d + 2) mJ1_charAt_3b067 [.ref (w.ad (40 + i)), .int (nI j)] P (xRet (some (.int (chr i j))) P) := by
  have h5 := xsl5 ⟨i, hi⟩
  have h6 : xSl.getD i 0 < 2 ^ 31 := Nat.lt_of_le_of_lt h5 (by decide)
  have hc := chr_ok ⟨i, hi⟩ ⟨j, Nat.lt_of_lt_of_le hj h5⟩
  refine xC_of (by decide +kernel) (Nat.le_of_ble_eq_true rfl) (ls := [some (.ref (w.ad (40 + i))), some (.int (nI j))]) rfl ?_
  refine sJ1_charAt_3b067_0 (sJ1_charAt_3b067_1 (sJ1_charAt_3b067_2 hi (sJ1_charAt_3b067_3 (ble rfl) (c_schk hj h6) (sJ1_charAt_3b067_6 (sJ1_charAt_3b067_7 (sJ1_charAt_3b067_8 hi (vp_in_nI hj h6) (sJ1_charAt_3b067_9 (sJ1_charAt_3b067_12 (sJ1_charAt_3b067_13 ?_)))))))))
  rw [nI_clamp (by omega)]
  rw [show ((List.getD (xSb.getD i []) j 0 &&& 255).toUInt32 % 65536).toInt32 = chr i j from hc.1]
  refine sJ1_charAt_3b067_14 hc.2 ⟨rfl, rfl⟩
theorem c_charAt {i j : Nat} (hi : i < 26) (hj : j < xSl.getD i 0) : xC w (d + 3) mJ0_charAt_5068e [.ref (w.ad (10 + i)), .int (nI j)] P (xRet (some (.int (chr i j))) P) := by
  have h5 := xsl5 ⟨i, hi⟩
  have hc := chr_ok ⟨i, hi⟩ ⟨j, Nat.lt_of_lt_of_le hj h5⟩
  refine xC_of (by decide +kernel) (Nat.le_of_ble_eq_true rfl) (ls := [some (.ref (w.ad (10 + i))), some (.int (nI j))]) rfl ?_
  refine sJ0_charAt_5068e_0 (sJ0_charAt_5068e_1 (ble rfl) hi (c_isLatin1 hi) (sJ0_charAt_5068e_4 (fun h => absurd h (by decide)) (fun _ => ?_)))
  refine sJ0_charAt_5068e_7 (sJ0_charAt_5068e_8 hi (sJ0_charAt_5068e_11 (sJ0_charAt_5068e_12 (ble rfl) (c_l1char hi hj) (sJ0_charAt_5068e_15 hc.2 ⟨rfl, rfl⟩))))
end Jdk
