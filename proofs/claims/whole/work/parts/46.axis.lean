section Axis
variable {w : xWd} {d : Nat} {P : xH}
abbrev aO (a sz : Nat) : xE := xO 0 [.ref (a + 1), .int (nI sz)]
def pA (P : xH) (a : Nat) (f : Nat → Int32) (sz : Nat) : Prop := P.1 a = some (aO a sz) ∧ P.1 (a + 1) = some (xA 0 4 f)
def mx (a b : Int32) : Int32 := if a < b then b else a
def mn (a b : Int32) : Int32 := if b < a then b else a
variable {a sz : Nat} {f : Nat → Int32}
def brt (f : Nat → Int32) (sz : Nat) (x : Int32) : Int32 := mx (f 0) (mn x (f (sz - 1)))
theorem c_brought (x : Int32) (h : pA P a f sz) (h1 : 1 ≤ sz) (h4 : sz ≤ 4) : xC w (d + 1) mX0_brought [.ref a, .int x] P (xRet (some (.int (brt f sz x))) P) := by
  refine xC_of (by decide) (ble rfl) (ls := [some (.ref a), some (.int x)]) rfl ?_
  refine sX0_brought_0 (sX0_brought_1 h.1 rfl (sX0_brought_4 (sX0_brought_5 h.2 (vp_in_nI (n := 0) (by omega) (by omega)) (sX0_brought_6 (sX0_brought_7 (sX0_brought_8 h.1 rfl (sX0_brought_11 (sX0_brought_12 h.1 rfl (sX0_brought_15 (sX0_brought_16 ?_))))))))))
  rw [show nI sz - 1 = nI (sz - 1) from pk_sub (b := 1) h1]
  refine sX0_brought_17 h.2 (vp_in_nI (by omega) (by omega)) ?_
  rw [nI_clamp (by omega)]
  refine sX0_brought_18 (ble rfl) (c_min _ _) (sX0_brought_21 (ble rfl) (c_max _ _) (sX0_brought_24 ⟨rfl, rfl⟩))
def sst (f : Nat → Int32) (x : Int32) : Nat → Nat → Nat → Nat
  | 0, _, s => s
  | m + 1, i, s => sst f x m (i + 1) (if f i ≤ x then i else s)
theorem sst_le (f : Nat → Int32) (x : Int32) : ∀ m i s, s < i → sst f x m i s < i + m := by
  intro m
  induction m with
  | zero => intro i s h; simpa [sst] using h
  | succ m ih =>
    intro i s h
    have := ih (i + 1) (if f i ≤ x then i else s) (by split <;> omega)
    show sst f x m (i + 1) _ < _
    omega
/-- where the span begins -/
def sps (f : Nat → Int32) (sz : Nat) (x : Int32) : Nat := sst f x (sz - 2) 1 0
theorem sps_le (f : Nat → Int32) {sz : Nat} (x : Int32) (h : 1 ≤ sz) : sps f sz x < sz := by
  have := sst_le f x (sz - 2) 1 0 (by omega)
  unfold sps; omega
theorem c_spanStart (x : Int32) (h : pA P a f sz) (h1 : 1 ≤ sz) (h4 : sz ≤ 4) : xC w d mX0_spanStart [.ref a, .int x] P (xRet (some (.int (nI (sps f sz x)))) P) := by
  refine xC_of (by decide) (ble rfl) (ls := [some (.ref a), some (.int x), none, none]) rfl ?_
  have L : ∀ m i s, (i + m = sz - 1 ∨ (m = 0 ∧ sz - 1 ≤ i)) → i ≤ 4 → X w mX0_spanStart d (xRet (some (.int (nI (sst f x m i s)))) P) 4 [some (.ref a), some (.int x), some (.int (nI s)), some (.int (nI i))] [] P := by
    intro m
    induction m with
    | zero =>
      intro i s hi h9
      refine sX0_spanStart_4 (sX0_spanStart_5 (sX0_spanStart_6 h.1 rfl (sX0_spanStart_9 (sX0_spanStart_10 ?_))))
      rw [show nI sz - 1 = nI (sz - 1) from pk_sub (b := 1) h1]
      refine sX0_spanStart_11 (fun _ => ?_) (fun h9 => absurd (nI_le (by omega) (by omega)) h9)
      refine sX0_spanStart_32 (sX0_spanStart_33 ⟨rfl, rfl⟩)
    | succ m ih =>
      intro i s hi h9
      refine sX0_spanStart_4 (sX0_spanStart_5 (sX0_spanStart_6 h.1 rfl (sX0_spanStart_9 (sX0_spanStart_10 ?_))))
      rw [show nI sz - 1 = nI (sz - 1) from pk_sub (b := 1) h1]
      refine sX0_spanStart_11 (fun h9 => absurd h9 (nI_ge (by omega) (by omega))) (fun _ => ?_)
      refine sX0_spanStart_14 (sX0_spanStart_15 h.1 rfl (sX0_spanStart_18 (sX0_spanStart_19 h.2 (vp_in_nI (by omega) (by omega)) ?_)))
      rw [nI_clamp (by omega)]
      refine sX0_spanStart_20 (sX0_spanStart_21 (fun h9 => ?_) (fun h9 => ?_))
      · refine sX0_spanStart_26 rfl (sX0_spanStart_29 ?_)
        have K := ih (i + 1) s (by omega) (by omega)
        rw [nI_1, show sst f x (m + 1) i s = sst f x m (i + 1) s by simp [sst, Int32.not_le.mpr h9]]
        exact K
      · refine sX0_spanStart_24 (sX0_spanStart_25 rfl (sX0_spanStart_26 rfl (sX0_spanStart_29 ?_)))
        have K := ih (i + 1) i (by omega) (by omega)
        rw [nI_1, show sst f x (m + 1) i s = sst f x m (i + 1) i by simp [sst, Int32.not_lt.mp h9]]
        exact K
  have L0 := L (sz - 2) 1 0 (by omega) (by omega)
  rw [nI_0] at L0
  refine sX0_spanStart_0 (sX0_spanStart_1 rfl (sX0_spanStart_2 (sX0_spanStart_3 rfl ?_)))
  exact L0
def spe (sz s : Nat) : Nat := if sz - 1 < s + 1 then sz - 1 else s + 1
theorem c_spanEnd {s : Nat} (h : pA P a f sz) (h1 : 1 ≤ sz) (h4 : sz ≤ 4) (hs : s ≤ 4) : xC w (d + 1) mX0_spanEnd [.ref a, .int (nI s)] P (xRet (some (.int (nI (spe sz s)))) P) := by
  refine xC_of (by decide) (ble rfl) (ls := [some (.ref a), some (.int (nI s))]) rfl ?_
  refine sX0_spanEnd_0 (sX0_spanEnd_1 (sX0_spanEnd_2 (sX0_spanEnd_3 (sX0_spanEnd_4 h.1 rfl (sX0_spanEnd_7 (sX0_spanEnd_8 ?_))))))
  rw [show nI sz - 1 = nI (sz - 1) from pk_sub (b := 1) h1, nI_1]
  refine sX0_spanEnd_9 (ble rfl) (c_min _ _) (sX0_spanEnd_12 ⟨?_, rfl⟩)
  unfold spe
  by_cases hc : sz - 1 < s + 1
  · rw [if_pos hc, if_pos (nI_lt hc (by omega))]
  · rw [if_neg hc, if_neg (nI_nlt (by omega) (by omega))]
def mxd (f : Nat → Int32) (sz : Nat) (v u : Int32) (s : Nat) (x : Int32) : Int32 :=
  if f (spe sz s) ≤ f s then v else v + (fdv ((u - v).toInt64 * (x - f s).toInt64) (f (spe sz s) - f s).toInt64).toInt32
theorem i64_0 {z : Int32} (h : ¬ z = 0) : ¬ z.toInt64 = 0 := by
  intro q
  apply h
  have : z.toInt64.toInt32 = (0 : Int64).toInt32 := by rw [q]
  rw [Int32.toInt32_toInt64] at this
  exact this
theorem c_mixed (v u x : Int32) {s : Nat} (h : pA P a f sz) (h1 : 1 ≤ sz) (h4 : sz ≤ 4) (hs : s < sz) : xC w (d + 2) mX0_mixed [.ref a, .int v, .int u, .int (nI s), .int x] P (xRet (some (.int (mxd f sz v u s x))) P) := by
  have he : spe sz s < 4 := by unfold spe; split <;> omega
  refine xC_of (by decide) (ble rfl) (ls := [some (.ref a), some (.int v), some (.int u), some (.int (nI s)), some (.int x), none, none]) rfl ?_
  refine sX0_mixed_0 (sX0_mixed_1 h.1 rfl (sX0_mixed_4 (sX0_mixed_5 h.2 (vp_in_nI (by omega) (by omega)) ?_)))
  rw [nI_clamp (by omega)]
  refine sX0_mixed_6 rfl (sX0_mixed_8 (sX0_mixed_9 h.1 rfl (sX0_mixed_12 (sX0_mixed_13 (sX0_mixed_14 (ble rfl) h.1 (c_spanEnd h h1 h4 (by omega)) (sX0_mixed_17 h.2 (vp_in_nI (by omega) (by omega)) ?_))))))
  rw [nI_clamp (by omega)]
  refine sX0_mixed_18 rfl (sX0_mixed_20 (sX0_mixed_22 (sX0_mixed_24 (fun hc => ?_) (fun hc => ?_))))
  · have hne : ¬ f (spe sz s) - f s = 0 := fun q => by
      have : f (spe sz s) = f s := by grind
      rw [this] at hc
      exact absurd hc (by grind)
    refine sX0_mixed_29 (sX0_mixed_30 (sX0_mixed_31 (sX0_mixed_32 (sX0_mixed_33 (sX0_mixed_34 (sX0_mixed_36 (sX0_mixed_38 (sX0_mixed_39 (sX0_mixed_40 (sX0_mixed_41 (sX0_mixed_43 (sX0_mixed_45 (sX0_mixed_46 (sX0_mixed_47 (ble rfl) (c_floorDiv _ _ (i64_0 hne)) (sX0_mixed_50 (sX0_mixed_51 (sX0_mixed_52 ⟨?_, rfl⟩)))))))))))))))))
    unfold mxd
    rw [if_neg (Int32.not_le.mpr hc)]
  · refine sX0_mixed_27 (sX0_mixed_28 ⟨?_, rfl⟩)
    unfold mxd
    rw [if_pos (Int32.not_lt.mp hc)]
end Axis
section Table
variable {w : xWd} {d : Nat} {P : xH}
abbrev bO (t : Nat) : xE := xO 5 [.ref (t + 1), .ref (t + 3), .ref (t + 5)]
/-- the object Table at t: slopes, loads, values -/
def pB (P : xH) (t : Nat) (sf : Nat → Int32) (ss : Nat) (lf : Nat → Int32) (ln : Nat) (v : Nat → Int32) : Prop := P.1 t = some (bO t) ∧ pA P (t + 1) sf ss ∧ pA P (t + 3) lf ln ∧ P.1 (t + 5) = some (xA 0 16 v)
variable {t ss ln : Nat} {sf lf v : Nat → Int32}
def jbl (lf : Nat → Int32) (ln : Nat) (v : Nat → Int32) (k : Nat) (ld : Int32) : Int32 :=
  mxd lf ln (v (k * ln + sps lf ln (brt lf ln ld))) (v (k * ln + spe ln (sps lf ln (brt lf ln ld)))) (sps lf ln (brt lf ln ld)) (brt lf ln ld)
theorem c_joinedByLoad (ld : Int32) {k : Nat} (h : pB P t sf ss lf ln v) (h1 : 1 ≤ ln) (h4 : ln ≤ 4) (hk : k < 4) : xC w (d + 3) mX7_joinedByLoad [.ref t, .int (nI k), .int ld] P (xRet (some (.int (jbl lf ln v k ld))) P) := by
  obtain ⟨h0, -, hl, hv⟩ := h
  have hb := sps_le lf (brt lf ln ld) h1
  have he : spe ln (sps lf ln (brt lf ln ld)) < ln := by unfold spe; split <;> omega
  have hm : k * ln ≤ 3 * 4 := Nat.mul_le_mul (by omega) h4
  refine xC_of (by decide) (ble rfl) (ls := [some (.ref t), some (.int (nI k)), some (.int ld), none, none, none]) rfl ?_
  refine sX7_joinedByLoad_0 (sX7_joinedByLoad_1 h0 rfl (sX7_joinedByLoad_4 (sX7_joinedByLoad_5 (ble rfl) hl.1 (c_brought ld hl h1 h4) (sX7_joinedByLoad_8 rfl (sX7_joinedByLoad_9 (sX7_joinedByLoad_10 h0 rfl (sX7_joinedByLoad_13 (sX7_joinedByLoad_14 (ble rfl) hl.1 (c_spanStart _ hl h1 h4) (sX7_joinedByLoad_17 rfl (sX7_joinedByLoad_19 (sX7_joinedByLoad_20 (sX7_joinedByLoad_21 h0 rfl (sX7_joinedByLoad_24 hl.1 rfl (sX7_joinedByLoad_27 ?_))))))))))))))
  rw [pk_mul]
  refine sX7_joinedByLoad_28 rfl (sX7_joinedByLoad_30 (sX7_joinedByLoad_31 h0 rfl (sX7_joinedByLoad_34 (sX7_joinedByLoad_35 h0 rfl (sX7_joinedByLoad_38 (sX7_joinedByLoad_40 (sX7_joinedByLoad_42 ?_)))))))
  rw [nI_add]
  refine sX7_joinedByLoad_43 hv (vp_in_nI (by omega) (by omega)) ?_
  rw [nI_clamp (by omega)]
  refine sX7_joinedByLoad_44 (sX7_joinedByLoad_45 h0 rfl (sX7_joinedByLoad_48 (sX7_joinedByLoad_50 (sX7_joinedByLoad_51 h0 rfl (sX7_joinedByLoad_54 (sX7_joinedByLoad_56 (ble rfl) hl.1 (c_spanEnd hl h1 h4 (by omega)) (sX7_joinedByLoad_59 ?_)))))))
  rw [nI_add]
  refine sX7_joinedByLoad_60 hv (vp_in_nI (by omega) (by omega)) ?_
  rw [nI_clamp (by omega)]
  refine sX7_joinedByLoad_61 (sX7_joinedByLoad_63 (sX7_joinedByLoad_64 (ble rfl) hl.1 (c_mixed _ _ _ hl h1 h4 hb) (sX7_joinedByLoad_67 ⟨rfl, rfl⟩)))
def jnd (sf : Nat → Int32) (ss : Nat) (lf : Nat → Int32) (ln : Nat) (v : Nat → Int32) (sl ld : Int32) : Int32 :=
  mxd sf ss (jbl lf ln v (sps sf ss (brt sf ss sl)) ld) (jbl lf ln v (spe ss (sps sf ss (brt sf ss sl))) ld) (sps sf ss (brt sf ss sl)) (brt sf ss sl)
theorem c_joined (sl ld : Int32) (h : pB P t sf ss lf ln v) (h1 : 1 ≤ ln) (h4 : ln ≤ 4) (h1' : 1 ≤ ss) (h4' : ss ≤ 4) : xC w (d + 4) mX7_joined [.ref t, .int sl, .int ld] P (xRet (some (.int (jnd sf ss lf ln v sl ld))) P) := by
  obtain ⟨h0, hs, hl, hv⟩ := id h
  have hb := sps_le sf (brt sf ss sl) h1'
  have he : spe ss (sps sf ss (brt sf ss sl)) < ss := by unfold spe; split <;> omega
  refine xC_of (by decide) (ble rfl) (ls := [some (.ref t), some (.int sl), some (.int ld), none, none, none, none]) rfl ?_
  refine sX7_joined_0 (sX7_joined_1 h0 rfl (sX7_joined_4 (sX7_joined_5 (ble rfl) hs.1 (c_brought sl hs h1' h4') (sX7_joined_8 rfl (sX7_joined_9 (sX7_joined_10 h0 rfl (sX7_joined_13 (sX7_joined_14 (ble rfl) hs.1 (c_spanStart _ hs h1' h4') (sX7_joined_17 rfl (sX7_joined_19 (sX7_joined_20 (sX7_joined_22 (sX7_joined_23 (ble rfl) h0 (c_joinedByLoad ld h h1 h4 (by omega)) (sX7_joined_26 rfl (sX7_joined_28 (sX7_joined_29 (sX7_joined_30 h0 rfl (sX7_joined_33 (sX7_joined_35 (ble rfl) hs.1 (c_spanEnd hs h1' h4' (by omega)) (sX7_joined_38 (sX7_joined_39 (ble rfl) h0 (c_joinedByLoad ld h h1 h4 (by omega)) (sX7_joined_42 rfl (sX7_joined_44 (sX7_joined_45 h0 rfl (sX7_joined_48 (sX7_joined_50 (sX7_joined_52 (sX7_joined_54 (sX7_joined_55 (ble rfl) hs.1 (c_mixed _ _ _ hs h1' h4' hb) (sX7_joined_58 ⟨rfl, rfl⟩))))))))))))))))))))))))))))))
end Table
