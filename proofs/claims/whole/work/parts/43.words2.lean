section Words2
variable {w : xWd} {d : Nat} {P : xH} {Q : Outcome → xH → Prop}
def eqT (t : Nat → Int32) (s i : Nat) : Nat → Nat → Int32
  | 0, _ => 1
  | m + 1, j => if chr i j = t (s + j) then eqT t s i m (j + 1) else 0
/-- whether the word is the text i -/
def isW (t : Nat → Int32) (s e i : Nat) : Int32 := if xSl.getD i 0 = e - s then eqT t s i (xSl.getD i 0) 0 else 0
theorem c_is {wa ta n m0 s e i : Nat} {t : Nat → Int32} {k : Int32} (hW : P.1 wa = some (wO ta n (nI s) (nI e) k)) (hT : P.1 ta = some (xA 2 m0 t)) (hm : m0 < 2 ^ 31) (hs : s ≤ e) (he : e ≤ m0) (hi : i < 26) :
    xC w (d + 4) mX9_is [.ref wa, .ref (w.ad (10 + i))] P (xRet (some (.int (isW t s e i))) P) := by
  have h5 := xsl5 ⟨i, hi⟩
  have h5 : xSl.getD i 0 ≤ 5 := h5
  refine xC_of (by decide) (ble rfl) (ls := [some (.ref wa), some (.ref (w.ad (10 + i))), none]) rfl ?_
  refine sX9_is_0 (sX9_is_1 (ble rfl) hi (c_slen hi) (sX9_is_4 (sX9_is_5 (by assumption) (by rfl) (sX9_is_8 (sX9_is_9 (by assumption) (by rfl) (sX9_is_12 (sX9_is_13 (fun h => ?_) (fun h => ?_))))))))
  · rw [pk_sub hs, nI_eq (by omega) (by omega)] at h
    rw [show isW t s e i = eqT t s i (xSl.getD i 0) 0 from if_pos h]
    have L : ∀ m j, j + m = xSl.getD i 0 → X w mX9_is (d + 4) (xRet (some (.int (eqT t s i m j))) P) 20 [some (.ref wa), some (.ref (w.ad (10 + i))), some (.int (nI j))] [] P := by
      intro m
      induction m with
      | zero =>
        intro j hj
        refine sX9_is_20 (sX9_is_21 (sX9_is_22 (ble rfl) hi (c_slen hi) (sX9_is_25 (fun _ => ?_) (fun h9 => absurd (nI_le (by omega) (by omega)) h9))))
        refine sX9_is_55 (sX9_is_56 (Or.inr rfl) ⟨rfl, rfl⟩)
      | succ m ih =>
        intro j hj
        refine sX9_is_20 (sX9_is_21 (sX9_is_22 (ble rfl) hi (c_slen hi) (sX9_is_25 (fun h9 => absurd h9 (nI_ge (by omega) (by omega))) (fun _ => ?_))))
        refine sX9_is_28 (sX9_is_29 (sX9_is_30 (ble rfl) hi (c_charAt hi (by omega)) (sX9_is_33 (sX9_is_34 (by assumption) (by rfl) (sX9_is_37 (sX9_is_38 (by assumption) (by rfl) (sX9_is_41 (sX9_is_42 ?_))))))))
        rw [nI_add]
        refine sX9_is_43 hT (vp_in_nI (by omega) hm) ?_
        rw [nI_clamp (by omega)]
        refine sX9_is_44 (fun h9 => ?_) (fun h9 => ?_)
        · refine sX9_is_49 rfl (sX9_is_52 ?_)
          rw [nI_1, show eqT t s i (m + 1) j = eqT t s i m (j + 1) by simp [eqT, h9]]
          exact ih (j + 1) (by omega)
        · refine sX9_is_47 (sX9_is_48 (Or.inl rfl) ⟨by simp [eqT, h9], rfl⟩)
    have L0 := L (xSl.getD i 0) 0 (by omega)
    rw [nI_0] at L0
    refine sX9_is_18 (sX9_is_19 rfl ?_)
    exact L0
  · rw [pk_sub hs, nI_eq (by omega) (by omega)] at h
    refine sX9_is_16 (sX9_is_17 (Or.inl rfl) ⟨by rw [isW, if_neg h], rfl⟩)
def sh8 (x : Int64) : Int64 := x <<< ((8 : Int32).toInt64 &&& 63)
def pck (t : Nat → Int32) (s e : Nat) : Nat → Nat → Int64 → Int64
  | 0, _, a => a
  | m + 1, i, a => pck t s e m (i + 1) (sh8 a ||| (if s + i < e then t (s + i) else 0).toInt64)
/-- a name as a number -/
def nmW (t : Nat → Int32) (s e : Nat) : Int64 := pck t s e 8 0 0
theorem c_packed {ta m0 s e : Nat} {t : Nat → Int32} (hT : P.1 ta = some (xA 2 m0 t)) (hm : m0 < 2 ^ 31) (hs : s + 8 < 2 ^ 31) (he : e ≤ m0) :
    xC w d mX4_packed [.ref ta, .int (nI s), .int (nI e)] P (xRet (some (.long (nmW t s e))) P) := by
  refine xC_of (by decide) (ble rfl) (ls := [some (.ref ta), some (.int (nI s)), some (.int (nI e)), none, none, none]) rfl ?_
  have L : ∀ m i a, i + m = 8 → X w mX4_packed d (xRet (some (.long (pck t s e m i a))) P) 5 [some (.ref ta), some (.int (nI s)), some (.int (nI e)), some (.long a), none, some (.int (nI i))] [] P := by
    intro m
    induction m with
    | zero =>
      intro i a hi
      refine sX4_packed_5 (sX4_packed_7 (sX4_packed_9 (fun _ => ?_) (fun h9 => absurd (nI_le (a := 8) (by omega) (by omega)) h9)))
      refine sX4_packed_43 (sX4_packed_44 ⟨rfl, rfl⟩)
    | succ m ih =>
      intro i a hi
      refine sX4_packed_5 (sX4_packed_7 (sX4_packed_9 (fun h9 => absurd h9 (nI_ge (b := 8) (by omega) (by omega))) (fun _ => ?_)))
      have G : ∀ c : Int32, c = (if s + i < e then t (s + i) else 0) → X w mX4_packed d (xRet (some (.long (pck t s e (m + 1) i a))) P) 34 [some (.ref ta), some (.int (nI s)), some (.int (nI e)), some (.long a), none, some (.int (nI i))] [.int c, .long (sh8 a)] P := by
        intro c hc
        refine sX4_packed_34 (sX4_packed_35 (sX4_packed_36 rfl (sX4_packed_37 rfl (sX4_packed_40 ?_))))
        rw [nI_1, hc]
        exact ih (i + 1) _ (by omega)
      refine sX4_packed_12 (sX4_packed_13 (sX4_packed_15 (sX4_packed_16 (sX4_packed_17 (sX4_packed_19 ?_)))))
      rw [nI_add]
      refine sX4_packed_20 (sX4_packed_21 (fun h => ?_) (fun h => ?_))
      · rw [nI_leI (by omega) (by omega)] at h
        refine sX4_packed_33 ?_
        exact G 0 (by rw [if_neg (by omega)])
      · rw [nI_leI (by omega) (by omega)] at h
        refine sX4_packed_24 (sX4_packed_25 (sX4_packed_26 (sX4_packed_28 ?_)))
        rw [nI_add]
        refine sX4_packed_29 hT (vp_in_nI (by omega) hm) (sX4_packed_30 ?_)
        rw [nI_clamp (by omega)]
        exact G _ (by rw [if_pos (by omega)])
  have L0 := L 8 0 0 (by omega)
  rw [nI_0] at L0
  refine sX4_packed_0 (sX4_packed_1 rfl (sX4_packed_2 (sX4_packed_3 rfl ?_)))
  exact L0
theorem c_name {wa ta n m0 s e k : Nat} {t : Nat → Int32} (hW : P.1 wa = some (wO ta n (nI s) (nI e) (nI k))) (hT : P.1 ta = some (xA 2 m0 t)) (hm : m0 + 8 < 2 ^ 31) (hs : s ≤ e) (he : e ≤ m0) (hk : k < 5) :
    xC w (d + 1) mX9_name [.ref wa] P (xRet (some (.long (if k = 1 then nmW t s e else 0))) P) := by
  refine xC_of (by decide) (ble rfl) (ls := [some (.ref wa)]) rfl ?_
  refine sX9_name_0 (sX9_name_1 (by assumption) (by rfl) (sX9_name_4 (sX9_name_5 (fun h => ?_) (fun h => ?_))))
  · have hk1 : ¬ k = 1 := fun q => h (by rw [q]; rfl)
    refine sX9_name_26 (sX9_name_27 ⟨by rw [if_neg hk1], rfl⟩)
  · have hk1 : k = 1 := by
      have : nI k = nI 1 := h
      rwa [nI_eq (by omega) (by omega)] at this
    refine sX9_name_8 (sX9_name_9 (by assumption) (by rfl) (sX9_name_12 (sX9_name_13 (by assumption) (by rfl) (sX9_name_16 (sX9_name_17 (by assumption) (by rfl) (sX9_name_20 (ble rfl) (c_packed hT (by omega) (by omega) he) (sX9_name_23 (sX9_name_27 ⟨by rw [if_pos hk1], rfl⟩))))))))
def nmb (t : Nat → Int32) : Nat → Nat → Int32 → Int32
  | 0, _, a => a
  | m + 1, i, a => nmb t m (i + 1) (10 * a + (t i - 48))
/-- a number -/
def numW (t : Nat → Int32) (s e : Nat) : Int32 := nmb t (e - s) s 0
theorem c_number {wa ta n m0 s e : Nat} {t : Nat → Int32} {k : Int32} (hW : P.1 wa = some (wO ta n (nI s) (nI e) k)) (hT : P.1 ta = some (xA 2 m0 t)) (hm : m0 < 2 ^ 31) (hs : s ≤ e) (he : e ≤ m0) :
    xC w d mX9_number [.ref wa] P (xRet (some (.int (numW t s e))) P) := by
  refine xC_of (by decide) (ble rfl) (ls := [some (.ref wa), none, none]) rfl ?_
  have L : ∀ m i a, i + m = e → X w mX9_number d (xRet (some (.int (nmb t m i a))) P) 7 [some (.ref wa), some (.int a), some (.int (nI i))] [] P := by
    intro m
    induction m with
    | zero =>
      intro i a hi
      refine sX9_number_7 (sX9_number_8 (sX9_number_9 (by assumption) (by rfl) (sX9_number_12 (fun _ => ?_) (fun h9 => absurd (nI_le (by omega) (by omega)) h9))))
      refine sX9_number_36 (sX9_number_37 ⟨rfl, rfl⟩)
    | succ m ih =>
      intro i a hi
      refine sX9_number_7 (sX9_number_8 (sX9_number_9 (by assumption) (by rfl) (sX9_number_12 (fun h9 => absurd h9 (nI_ge (by omega) (by omega))) (fun _ => ?_))))
      refine sX9_number_15 (sX9_number_17 (sX9_number_18 (sX9_number_19 (sX9_number_20 (by assumption) (by rfl) (sX9_number_23 (sX9_number_24 hT (vp_in_nI (by omega) hm) ?_))))))
      rw [nI_clamp (by omega)]
      refine sX9_number_25 (sX9_number_27 (sX9_number_28 (sX9_number_29 rfl (sX9_number_30 rfl (sX9_number_33 ?_)))))
      rw [nI_1]
      exact ih (i + 1) _ (by omega)
  refine sX9_number_0 (sX9_number_1 rfl (sX9_number_2 (sX9_number_3 (by assumption) (by rfl) (sX9_number_6 rfl ?_))))
  exact L (e - s) s 0 (by omega)
theorem c_open {wa ta n m0 ta0 : Nat} {t : Nat → Int32} {l0 s0 e0 k0 : Int32} (hW : P.1 wa = some (xO 7 [.ref ta0, .int l0, .int s0, .int e0, .int k0])) (hT : P.1 ta = some (xA 2 m0 t)) (hn : n ≤ m0) (hm : m0 < 2 ^ 31) :
    xC w (d + 2) mX9_open [.ref wa, .ref ta, .int (nI n)] P (xRet none (xs P wa (wO ta n (nI (tkS t n 0)) (nI (tkE t n (tkS t n 0))) (nI (tkK t n (tkS t n 0) (tkE t n (tkS t n 0))))))) := by
  have hne : ta ≠ wa := by rintro rfl; rw [hT] at hW; cases hW
  refine xC_of (by decide) (ble rfl) (ls := [some (.ref wa), some (.ref ta), some (.int (nI n))]) rfl ?_
  refine sX9_open_0 (sX9_open_1 (sX9_open_2 hW (ble rfl) (sX9_open_5 (sX9_open_6 (sX9_open_7 xs_s (ble rfl) ?_)))))
  rw [xs_xs]
  refine sX9_open_10 (sX9_open_11 (sX9_open_12 xs_s (ble rfl) ?_))
  rw [xs_xs]
  have h := c_step (w := w) (d := d) (P := xs P wa (wO ta n s0 (nI 0) k0)) (wa := wa) (p := 0) xs_s (xs_n hne hT) hn hm (Nat.zero_le n)
  rw [xs_xs] at h
  refine sX9_open_15 (sX9_open_16 (ble rfl) xs_s h (sX9_open_19 ⟨rfl, rfl⟩))
/-- the character of a name -/
def chO (x : Int64) (i : Int32) : Int32 :=
  let c : Int32 := if i < 8 then ((x.toUInt64 >>> (((8 : Int32) * (7 - i)).toInt64.toUInt64 &&& Int64.toUInt64 63)).toInt64.toInt32 &&& 255) else 0
  if c = 0 then -1 else c
theorem c_characterOf (x : Int64) (i : Int32) : xC w d mX4_characterOf [.long x, .int i] P (xRet (some (.int (chO x i))) P) := by
  refine xC_of (by decide) (ble rfl) (ls := [some (.long x), none, some (.int i), none]) rfl ?_
  have G : ∀ c : Int32, c = (if i < 8 then ((x.toUInt64 >>> (((8 : Int32) * (7 - i)).toInt64.toUInt64 &&& Int64.toUInt64 63)).toInt64.toInt32 &&& 255) else 0) → X w mX4_characterOf d (xRet (some (.int (chO x i))) P) 24 [some (.long x), none, some (.int i), none] [.int c] P := by
    intro c hc
    refine sX4_characterOf_24 rfl (sX4_characterOf_25 (sX4_characterOf_26 (fun h => ?_) (fun h => ?_)))
    · refine sX4_characterOf_33 (sX4_characterOf_34 ⟨by simp only [chO, ← hc, if_neg h], rfl⟩)
    · refine sX4_characterOf_29 (sX4_characterOf_30 (sX4_characterOf_34 ⟨by simp only [chO, ← hc, if_pos h], rfl⟩))
  refine sX4_characterOf_0 (sX4_characterOf_1 (sX4_characterOf_3 (fun h => ?_) (fun h => ?_)))
  · refine sX4_characterOf_23 ?_
    exact G 0 (by rw [if_neg (by rw [Int32.not_lt]; exact h)])
  · refine sX4_characterOf_6 (sX4_characterOf_7 (sX4_characterOf_9 (sX4_characterOf_11 (sX4_characterOf_12 (sX4_characterOf_13 (sX4_characterOf_14 (sX4_characterOf_15 (sX4_characterOf_16 (sX4_characterOf_19 (sX4_characterOf_20 ?_))))))))))
    exact G _ (by rw [if_pos (by rw [Int32.not_le] at h; exact h)])
end Words2
