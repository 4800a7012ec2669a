section Tok2
theorem lN_n {n : Nat} : (lN n).toBitVec.toNat = n % 2 ^ 64 := by
  show (Int64.ofNat n).toBitVec.toNat = _
  rw [Int64.toBitVec_ofNat']
  simp
theorem lN_inj {a b : Nat} (ha : a < 2 ^ 64) (hb : b < 2 ^ 64) (h : lN a = lN b) : a = b := by
  have := congrArg (fun x => x.toBitVec.toNat) h
  simp only [lN_n] at this
  omega
theorem l64_ext {a b : Int64} (h : a.toBitVec.toNat = b.toBitVec.toNat) : a = b := Int64.toBitVec_inj.mp (BitVec.eq_of_toNat_eq h)
theorem stp {A c : Nat} (hA : A < 2 ^ 56) (hc : c < 256) : sh8 (lN A) ||| lN c = lN (A * 256 + c) := by
  apply l64_ext
  unfold sh8
  rw [show ((8 : Int32).toInt64 &&& 63) = 8 by decide, Int64.toBitVec_or, BitVec.toNat_or, Int64.toBitVec_shiftLeft, show (8 : Int64).toBitVec.smod 64 = 8#64 by decide]
  rw [BitVec.shiftLeft_eq', BitVec.toNat_shiftLeft, lN_n, lN_n, lN_n]
  rw [show (8#64).toNat = 8 by decide, Nat.mod_eq_of_lt (by omega : A < 2 ^ 64), Nat.mod_eq_of_lt (by omega : c < 2 ^ 64)]
  rw [Nat.shiftLeft_eq, Nat.mod_eq_of_lt (by omega), Nat.mod_eq_of_lt (by omega)]
  have := Nat.shiftLeft_add_eq_or_of_lt (i := 8) (b := c) (by omega) A
  rw [Nat.shiftLeft_eq] at this
  omega
theorem stp2 {A c j : Nat} (hj : j < 8) (hc : c < 256) (hA : A < 2 ^ 64) (hd : 2 ^ (64 - 8 * j) ∣ A) : lN A ||| lN c <<< ((56 - 8 * nI j).toInt64 &&& 63) = lN (A + c * 2 ^ (56 - 8 * j)) := by
  have hs : ∀ j : Fin 8, (((56 - 8 * nI j).toInt64 &&& 63).toBitVec.smod 64).toNat = 56 - 8 * j.val := by decide +kernel
  have hs := hs ⟨j, hj⟩
  dsimp only at hs
  obtain ⟨B, hB⟩ := hd
  have hp : 2 ^ (64 - 8 * j) = 2 ^ (56 - 8 * j) * 256 := by
    rw [show 64 - 8 * j = (56 - 8 * j) + 8 by omega, Nat.pow_add]
  have hP : 0 < 2 ^ (56 - 8 * j) := Nat.two_pow_pos _
  have hP2 : 2 ^ (56 - 8 * j) ≤ 2 ^ 56 := Nat.pow_le_pow_right (by omega) (by omega)
  have hc2 : c * 2 ^ (56 - 8 * j) < 2 ^ (64 - 8 * j) := by rw [hp]; rw [Nat.mul_comm]; exact Nat.mul_lt_mul_of_pos_left hc hP
  have hp64 : 2 ^ (64 - 8 * j) ≤ 2 ^ 64 := Nat.pow_le_pow_right (by omega) (by omega)
  apply l64_ext
  rw [Int64.toBitVec_or, BitVec.toNat_or, Int64.toBitVec_shiftLeft, BitVec.shiftLeft_eq', BitVec.toNat_shiftLeft, hs, lN_n, lN_n, lN_n]
  rw [Nat.mod_eq_of_lt hA, Nat.mod_eq_of_lt (by omega : c < 2 ^ 64), Nat.shiftLeft_eq, Nat.mod_eq_of_lt (Nat.lt_of_lt_of_le hc2 hp64)]
  have h9 := Nat.shiftLeft_add_eq_or_of_lt (i := 64 - 8 * j) (b := c * 2 ^ (56 - 8 * j)) hc2 B
  rw [Nat.shiftLeft_eq, Nat.mul_comm B, ← hB] at h9
  rw [← h9]
  refine (Nat.mod_eq_of_lt ?_).symm
  have hq : 2 ^ 64 = 2 ^ (64 - 8 * j) * 2 ^ (8 * j) := by rw [← Nat.pow_add]; congr 1; omega
  rw [hB]
  rw [hB, hq] at hA
  have hB2 : B < 2 ^ (8 * j) := Nat.lt_of_mul_lt_mul_left hA
  calc 2 ^ (64 - 8 * j) * B + c * 2 ^ (56 - 8 * j) < 2 ^ (64 - 8 * j) * B + 2 ^ (64 - 8 * j) := by omega
    _ = 2 ^ (64 - 8 * j) * (B + 1) := by rw [Nat.mul_add, Nat.mul_one]
    _ ≤ 2 ^ (64 - 8 * j) * 2 ^ (8 * j) := Nat.mul_le_mul_left _ hB2
    _ = 2 ^ 64 := hq.symm
theorem lts_ok (T : Nat → Int32) : ∀ m p j, p ≤ j → j < lts T m p → ¬ (bLt (T j) = 0 ∧ bDg (T j) = 0) := by
  intro m
  induction m with
  | zero => intro p j h1 h2; simp only [lts] at h2; omega
  | succ m ih =>
    intro p j h1 h2
    simp only [lts] at h2
    split at h2
    · omega
    · rename_i h
      rcases Nat.eq_or_lt_of_le h1 with h9 | h9
      · subst h9; exact h
      · exact ih (p + 1) j (by omega) h2
theorem dgs_ok (T : Nat → Int32) : ∀ m p j, p ≤ j → j < dgs T m p → ¬ bDg (T j) = 0 := by
  intro m
  induction m with
  | zero => intro p j h1 h2; simp only [dgs] at h2; omega
  | succ m ih =>
    intro p j h1 h2
    simp only [dgs] at h2
    split at h2
    · omega
    · rename_i h
      rcases Nat.eq_or_lt_of_le h1 with h9 | h9
      · subst h9; exact h
      · exact ih (p + 1) j (by omega) h2
theorem chr_c {c : Int32} (h : ¬ (bLt c = 0 ∧ bDg c = 0)) : ∃ k : Nat, c = nI k ∧ 48 ≤ k ∧ k ≤ 122 := by
  have h1 : 48 ≤ c ∧ c ≤ 122 := by
    unfold bLt bDg at h
    grind
  obtain ⟨j, h2, h3⟩ := nI_of2 (x := c) (M := 122) (n := 122) (by decide) (by grind) h1.2
  refine ⟨j, h3, ?_, h2⟩
  have h4 := h1.1
  rw [h3, show (48 : Int32) = nI 48 from rfl, nI_leI (by omega) (by omega)] at h4
  exact h4
/-- the characters of a name as numbers -/
def cN (T : Nat → Int32) (s e j : Nat) : Nat := if s + j < e then (T (s + j)).toNatClampNeg else 0
theorem cN_t {T : Nat → Int32} {s e j : Nat} (h : ∀ i, s ≤ i → i < e → ¬ (bLt (T i) = 0 ∧ bDg (T i) = 0)) : (if s + j < e then T (s + j) else 0) = nI (cN T s e j) ∧ cN T s e j ≤ 122 ∧ (s + j < e → 48 ≤ cN T s e j) := by
  unfold cN
  by_cases hj : s + j < e
  · obtain ⟨k, h1, h2, h3⟩ := chr_c (h (s + j) (by omega) hj)
    rw [if_pos hj, if_pos hj, h1, nI_clamp (by omega)]
    exact ⟨rfl, h3, fun _ => h2⟩
  · rw [if_neg hj, if_neg hj]
    exact ⟨rfl, by omega, fun q => absurd q hj⟩
theorem nm_val {T : Nat → Int32} {s e : Nat} (h : ∀ i, s ≤ i → i < e → ¬ (bLt (T i) = 0 ∧ bDg (T i) = 0)) :
    nmW T s e = lN (cN T s e 0 * 2 ^ 56 + cN T s e 1 * 2 ^ 48 + cN T s e 2 * 2 ^ 40 + cN T s e 3 * 2 ^ 32 + cN T s e 4 * 2 ^ 24 + cN T s e 5 * 2 ^ 16 + cN T s e 6 * 2 ^ 8 + cN T s e 7) := by
  have h0 := cN_t (j := 0) h
  have h1 := cN_t (j := 1) h
  have h2 := cN_t (j := 2) h
  have h3 := cN_t (j := 3) h
  have h4 := cN_t (j := 4) h
  have h5 := cN_t (j := 5) h
  have h6 := cN_t (j := 6) h
  have h7 := cN_t (j := 7) h
  unfold nmW
  simp only [pck, Nat.zero_add]
  rw [h0.1, h1.1, h2.1, h3.1, h4.1, h5.1, h6.1, h7.1]
  rw [nI_l (by omega), nI_l (by omega), nI_l (by omega), nI_l (by omega), nI_l (by omega), nI_l (by omega), nI_l (by omega), nI_l (by omega)]
  rw [show (0 : Int64) = lN 0 from rfl, stp (by omega) (by omega), stp (by omega) (by omega), stp (by omega) (by omega), stp (by omega) (by omega), stp (by omega) (by omega), stp (by omega) (by omega), stp (by omega) (by omega), stp (by omega) (by omega)]
  exact congrArg lN (by omega)
def rst (c : Nat → Nat) : Nat → Nat → Nat
  | 0, _ => 0
  | m + 1, j => c j * 2 ^ (56 - 8 * j) + rst c m (j + 1)
theorem rst_0 (c : Nat → Nat) : ∀ m j, (∀ k, j ≤ k → c k = 0) → rst c m j = 0 := by
  intro m
  induction m with
  | zero => intro j _; rfl
  | succ m ih => intro j h; show c j * _ + _ = 0; rw [h j (Nat.le_refl _), ih (j + 1) (fun k hk => h k (by omega)), Nat.zero_mul]
theorem rst_e (c : Nat → Nat) : ∀ m m2 j, (∀ k, j + m ≤ k → c k = 0) → rst c (m + m2) j = rst c m j := by
  intro m
  induction m with
  | zero => intro m2 j h; rw [Nat.zero_add]; exact rst_0 c m2 j (fun k hk => h k (by omega))
  | succ m ih =>
    intro m2 j h
    rw [show m + 1 + m2 = (m + m2) + 1 by omega]
    show c j * _ + rst c (m + m2) (j + 1) = c j * _ + rst c m (j + 1)
    rw [ih m2 (j + 1) (fun k hk => h k (by omega))]
theorem hlt_nm {A c j : Nat} (hj : j < 8) (hA : A < 2 ^ 64) (hd : 2 ^ (64 - 8 * j) ∣ A) (hc : c < 256) : A + c * 2 ^ (56 - 8 * j) < 2 ^ 64 ∧ 2 ^ (64 - 8 * (j + 1)) ∣ A + c * 2 ^ (56 - 8 * j) := by
  obtain ⟨B, rfl⟩ := hd
  have hp : 2 ^ (64 - 8 * j) = 2 ^ (56 - 8 * j) * 256 := by rw [show 64 - 8 * j = (56 - 8 * j) + 8 by omega, Nat.pow_add]
  have hq : 2 ^ 64 = 2 ^ (64 - 8 * j) * 2 ^ (8 * j) := by rw [← Nat.pow_add]; congr 1; omega
  have hB : B < 2 ^ (8 * j) := by rw [hq] at hA; exact Nat.lt_of_mul_lt_mul_left hA
  have hc2 : c * 2 ^ (56 - 8 * j) < 2 ^ (64 - 8 * j) := by
    rw [hp, Nat.mul_comm]
    exact Nat.mul_lt_mul_of_pos_left hc (Nat.two_pow_pos _)
  refine ⟨?_, ?_⟩
  · calc 2 ^ (64 - 8 * j) * B + c * 2 ^ (56 - 8 * j) < 2 ^ (64 - 8 * j) * B + 2 ^ (64 - 8 * j) := by omega
      _ = 2 ^ (64 - 8 * j) * (B + 1) := by rw [Nat.mul_add, Nat.mul_one]
      _ ≤ 2 ^ (64 - 8 * j) * 2 ^ (8 * j) := Nat.mul_le_mul_left _ hB
      _ = 2 ^ 64 := hq.symm
  · rw [show 64 - 8 * (j + 1) = 56 - 8 * j by omega, hp, Nat.mul_assoc]
    exact Nat.dvd_add (Nat.dvd_mul_right _ _) (Nat.dvd_mul_left _ _)
theorem mnm_val {T : Nat → Int32} {s e : Nat} (h : ∀ i, s ≤ i → i < e → ¬ (bLt (T i) = 0 ∧ bDg (T i) = 0)) (h8 : e ≤ s + 8) : ∀ m j, s + j + m = e → ∀ A, A < 2 ^ 64 → 2 ^ (64 - 8 * j) ∣ A →
    mnm T s m (s + j) (lN A) = lN (A + rst (cN T s e) m j) := by
  intro m
  induction m with
  | zero => intro j hj A hA hd; rfl
  | succ m ih =>
    intro j hj A hA hd
    have hjj := cN_t (j := j) h
    rw [if_pos (by omega)] at hjj
    show mnm T s m (s + j + 1) (if s + j - s < 8 then lN A ||| (T (s + j)).toInt64 <<< ((56 - 8 * nI (s + j - s)).toInt64 &&& 63) else lN A) = _
    rw [show s + j - s = j by omega, if_pos (by omega), hjj.1, nI_l (by omega), stp2 (by omega) (by omega) hA hd]
    have hlt := hlt_nm (c := cN T s e j) (by omega) hA hd (by omega)
    rw [show s + j + 1 = s + (j + 1) by omega, ih (j + 1) (by omega) _ hlt.1 hlt.2]
    exact congrArg lN (Nat.add_assoc _ _ _)
theorem mnm_nm {T : Nat → Int32} {s e : Nat} (h : ∀ i, s ≤ i → i < e → ¬ (bLt (T i) = 0 ∧ bDg (T i) = 0)) (h8 : e ≤ s + 8) (hs : s ≤ e) : mnm T s (e - s) s 0 = nmW T s e := by
  have h1 := mnm_val h h8 (e - s) 0 (by omega) 0 (Nat.two_pow_pos _) (Nat.dvd_zero _)
  have h2 := rst_e (cN T s e) (e - s) (8 - (e - s)) 0 (fun k hk => if_neg (by omega))
  rw [show e - s + (8 - (e - s)) = 8 by omega] at h2
  rw [← h2] at h1
  rw [nm_val h]
  refine h1.trans (congrArg lN ?_)
  simp only [rst, Nat.zero_add, Nat.reduceAdd]
  omega
theorem mnu_nm (T : Nat → Int32) (s : Nat) : ∀ m p a, p + m ≤ s + 6 → s ≤ p → mnu T s m p a = nmb T m p a := by
  intro m
  induction m with
  | zero => intro p a _ _; rfl
  | succ m ih =>
    intro p a h1 h2
    show mnu T s m (p + 1) (if p - s < 6 then 10 * a + T p - 48 else a) = nmb T m (p + 1) (10 * a + (T p - 48))
    rw [if_pos (by omega), ih _ _ (by omega) (by omega)]
    congr 1
    grind
/-- what kinds of words there are -/
theorem kcase (T : Nat → Int32) {n q : Nat} (hq : q ≤ n) :
    (sK T n q = 0 ∧ sS T n q = n ∧ sE T n q = n) ∨
    (sK T n q = 3 ∧ sS T n q < n ∧ sE T n q = sS T n q + 1 ∧ bDg (T (sS T n q)) = 0 ∧ bLt (T (sS T n q)) = 0) ∨
    (sK T n q = 2 ∧ sS T n q < n ∧ sS T n q < sE T n q ∧ sE T n q ≤ sS T n q + 6 ∧ (∀ j, sS T n q ≤ j → j < sE T n q → ¬ bDg (T j) = 0) ∧ bLt (T (sS T n q)) = 0) ∨
    (sK T n q = 1 ∧ sS T n q < n ∧ sS T n q < sE T n q ∧ sE T n q ≤ sS T n q + 8 ∧ (∀ j, sS T n q ≤ j → j < sE T n q → ¬ (bLt (T j) = 0 ∧ bDg (T j) = 0)) ∧ ¬ bLt (T (sS T n q)) = 0) ∨
    (sK T n q = 4 ∧ sS T n q < n ∧ sS T n q + 6 < sE T n q) := by
  obtain ⟨h1, h2⟩ := tkS_le T hq
  unfold sK sE
  show (tkK T n (tkS T n q) (tkE T n (tkS T n q)) = 0 ∧ tkS T n q = n ∧ tkE T n (tkS T n q) = n) ∨ _
  have e1 : sS T n q = tkS T n q := rfl
  rw [e1]
  generalize tkS T n q = s at h1 h2
  rcases Nat.lt_or_ge s n with hs | hs
  · right
    by_cases hd : bDg (T s) = 0
    · by_cases hl : bLt (T s) = 0
      · left
        have e2 : tkE T n s = s + 1 := by unfold tkE; rw [if_neg (by omega), if_neg (fun z => z hd), if_neg (fun z => z hl)]
        refine ⟨?_, hs, e2, hd, hl⟩
        unfold tkK; rw [if_neg (by omega), if_neg (fun z => z hd), if_neg (fun z => z hl)]
      · right; right
        have e2 : tkE T n s = lts T (n - s) s := by unfold tkE; rw [if_neg (by omega), if_neg (fun z => z hd), if_pos hl]
        have e3 : s < lts T (n - s) s := by
          rw [show n - s = (n - s - 1) + 1 by omega]
          simp only [lts]
          rw [if_neg (fun z => hl z.1)]
          have := (lts_le T (n - s - 1) (s + 1)).1
          omega
        have e4 : tkK T n s (tkE T n s) = if 8 < tkE T n s - s then 4 else 1 := by unfold tkK; rw [if_neg (by omega), if_neg (fun z => z hd), if_pos hl]
        rw [e4, e2]
        by_cases h8 : 8 < lts T (n - s) s - s
        · right; rw [if_pos h8]; exact ⟨rfl, hs, by omega⟩
        · left; rw [if_neg h8]; exact ⟨rfl, hs, e3, by omega, fun j a b => lts_ok T _ s j a b, hl⟩
    · right
      have e2 : tkE T n s = dgs T (n - s) s := by unfold tkE; rw [if_neg (by omega), if_pos hd]
      have e3 : s < dgs T (n - s) s := by
        rw [show n - s = (n - s - 1) + 1 by omega]
        simp only [dgs]
        rw [if_neg hd]
        have := (dgs_le T (n - s - 1) (s + 1)).1
        omega
      have e4 : tkK T n s (tkE T n s) = if 6 < tkE T n s - s then 4 else 2 := by unfold tkK; rw [if_neg (by omega), if_pos hd]
      rw [e4, e2]
      by_cases h8 : 6 < dgs T (n - s) s - s
      · right; right; rw [if_pos h8]; exact ⟨rfl, hs, by omega⟩
      · left; rw [if_neg h8]
        refine ⟨rfl, hs, e3, by omega, fun j a b => dgs_ok T _ s j a b, ?_⟩
        by_cases hl : bLt (T s) = 0
        · exact hl
        · exact absurd (not_both hl) hd
  · left
    have : s = n := by omega
    subst this
    have e2 : tkE T s s = s := by unfold tkE; rw [if_pos (Nat.le_refl _)]
    rw [e2]
    exact ⟨by unfold tkK; rw [if_pos (Nat.le_refl _)], rfl, rfl⟩
theorem sS_le (T : Nat → Int32) {n q : Nat} (hq : q ≤ n) : q ≤ sS T n q ∧ sS T n q ≤ n := tkS_le T hq
theorem sE_le (T : Nat → Int32) {n q : Nat} (hq : q ≤ n) : sS T n q ≤ sE T n q ∧ sE T n q ≤ n := tkE_le T (tkS_le T hq).2
theorem mNm_1 (T : Nat → Int32) {n q : Nat} (hq : q ≤ n) (h : sK T n q = 1) : mNm T n (sS T n q) (sE T n q) = nmW T (sS T n q) (sE T n q) := by
  rcases kcase T hq with ⟨h9, _⟩ | ⟨h9, _⟩ | ⟨h9, _⟩ | ⟨_, h1, h2, h3, h4, h5⟩ | ⟨h9, _⟩
  · omega
  · omega
  · omega
  · unfold mNm; rw [if_neg (by omega), if_neg h5]; exact mnm_nm h4 h3 (by omega)
  · omega
theorem mNu_2 (T : Nat → Int32) {n q : Nat} (hq : q ≤ n) (h : sK T n q = 2) : mNu T n (sS T n q) (sE T n q) = sV T n q := by
  rcases kcase T hq with ⟨h9, _⟩ | ⟨h9, _⟩ | ⟨_, h1, h2, h3, h4, h5⟩ | ⟨h9, _⟩ | ⟨h9, _⟩
  · omega
  · omega
  · unfold mNu; rw [if_neg (by omega), if_pos h5, if_neg (h4 _ (Nat.le_refl _) h2)]; exact mnu_nm T _ _ _ 0 (by omega) (Nat.le_refl _)
  · omega
  · omega
theorem eqT_iff (t : Nat → Int32) (s i : Nat) : ∀ m j, (eqT t s i m j = 0 ∨ eqT t s i m j = 1) ∧ (¬ eqT t s i m j = 0 ↔ ∀ k, j ≤ k → k < j + m → chr i k = t (s + k)) := by
  intro m
  induction m with
  | zero =>
    intro j
    refine ⟨Or.inr rfl, ?_⟩
    constructor
    · intro _ k h1 h2; omega
    · intro _ h; exact absurd h (show ¬ (1 : Int32) = 0 by decide)
  | succ m ih =>
    intro j
    have hh := ih (j + 1)
    unfold eqT
    by_cases h : chr i j = t (s + j)
    · rw [if_pos h]
      refine ⟨hh.1, hh.2.trans ?_⟩
      constructor
      · intro h9 k h1 h2
        rcases Nat.eq_or_lt_of_le h1 with h3 | h3
        · subst h3; exact h
        · exact h9 k (by omega) (by omega)
      · intro h9 k h1 h2; exact h9 k (by omega) (by omega)
    · rw [if_neg h]
      refine ⟨Or.inl rfl, ?_⟩
      constructor
      · intro h9; exact absurd rfl h9
      · intro h9; exact absurd (h9 j (Nat.le_refl _) (by omega)) h
theorem isW_iff (t : Nat → Int32) (s e i : Nat) : (isW t s e i = 0 ∨ isW t s e i = 1) ∧ (¬ isW t s e i = 0 ↔ xSl.getD i 0 = e - s ∧ ∀ k, k < xSl.getD i 0 → chr i k = t (s + k)) := by
  have h := eqT_iff t s i (xSl.getD i 0) 0
  unfold isW
  by_cases hl : xSl.getD i 0 = e - s
  · rw [if_pos hl]
    refine ⟨h.1, h.2.trans ?_⟩
    constructor
    · intro h9; exact ⟨hl, fun k hk => h9 k (by omega) (by omega)⟩
    · intro h9 k _ h2; exact h9.2 k (by omega)
  · rw [if_neg hl]
    exact ⟨Or.inl rfl, ⟨fun h9 => absurd rfl h9, fun h9 => absurd h9.1 hl⟩⟩
theorem sW_01 (T : Nat → Int32) (n q i : Nat) : sW T n q i = 0 ∨ sW T n q i = 1 := (isW_iff T _ _ i).1
/-- signs -/
theorem sign_iff (T : Nat → Int32) {n q i : Nat} (hq : q ≤ n) (h1 : xSl.getD i 0 = 1) (hd : bDg (chr i 0) = 0) (hl : bLt (chr i 0) = 0) : ¬ sW T n q i = 0 ↔ sK T n q = 3 ∧ T (sS T n q) = chr i 0 := by
  refine (isW_iff T _ _ i).2.trans ?_
  rw [h1]
  constructor
  · rintro ⟨a, b⟩
    have b := b 0 (by omega)
    rw [Nat.add_zero] at b
    rcases kcase T hq with ⟨h9, c, c2⟩ | ⟨h9, _⟩ | ⟨_, _, c1, _, c4, _⟩ | ⟨_, _, c1, _, c4, c5⟩ | ⟨h9, c, c2⟩
    · omega
    · exact ⟨h9, b.symm⟩
    · exact absurd (by rw [← b]; exact hd) (c4 _ (Nat.le_refl _) c1)
    · exact absurd (by rw [← b]; exact hl) c5
    · omega
  · rintro ⟨a, b⟩
    rcases kcase T hq with ⟨h9, _⟩ | ⟨_, c1, c2, _⟩ | ⟨h9, _⟩ | ⟨h9, _⟩ | ⟨h9, _⟩
    · omega
    · refine ⟨by omega, fun k hk => ?_⟩
      rw [show k = 0 by omega, Nat.add_zero]; exact b.symm
    · omega
    · omega
    · omega
/-- names that are words of the language -/
def byt (i j : Nat) : Nat := (chr i j).toNatClampNeg
def Wn (i : Nat) : Nat := byt i 0 * 2 ^ 56 + byt i 1 * 2 ^ 48 + byt i 2 * 2 ^ 40 + byt i 3 * 2 ^ 32 + byt i 4 * 2 ^ 24 + byt i 5 * 2 ^ 16 + byt i 6 * 2 ^ 8 + byt i 7
def wOK (i : Nat) : Prop := 1 ≤ xSl.getD i 0 ∧ xSl.getD i 0 ≤ 5 ∧ ¬ bLt (chr i 0) = 0 ∧ (∀ j, j < xSl.getD i 0 → chr i j = nI (byt i j) ∧ 48 ≤ byt i j ∧ byt i j ≤ 122) ∧ ∀ j, xSl.getD i 0 ≤ j → j < 8 → byt i j = 0
theorem word_iff (T : Nat → Int32) {n q i : Nat} (hq : q ≤ n) (ok : wOK i) : ¬ sW T n q i = 0 ↔ sK T n q = 1 ∧ nmW T (sS T n q) (sE T n q) = lN (Wn i) := by
  obtain ⟨o1, o2, o3, o4, o5⟩ := ok
  refine (isW_iff T _ _ i).2.trans ?_
  have hb : ∀ j, j < 8 → byt i j ≤ 122 := by
    intro j hj
    rcases Nat.lt_or_ge j (xSl.getD i 0) with h | h
    · exact (o4 j h).2.2
    · rw [o5 j h hj]; omega
  constructor
  · rintro ⟨a, b⟩
    have b0 := b 0 (by omega)
    rw [Nat.add_zero] at b0
    rcases kcase T hq with ⟨_, c, c2⟩ | ⟨_, _, _, _, c4⟩ | ⟨_, _, c1, _, c4, c5⟩ | ⟨h9, _, c1, c2, c4, c5⟩ | ⟨h9, c, c2⟩
    · omega
    · exact absurd (by rw [b0]; exact c4) o3
    · exact absurd (by rw [b0]; exact c5) o3
    · refine ⟨h9, ?_⟩
      rw [nm_val c4]
      have hc : ∀ j, j < 8 → cN T (sS T n q) (sE T n q) j = byt i j := by
        intro j hj
        unfold cN
        rcases Nat.lt_or_ge j (xSl.getD i 0) with h | h
        · rw [if_pos (by omega), ← b j h]; rfl
        · rw [if_neg (by omega), o5 j h hj]
      rw [hc 0 (by omega), hc 1 (by omega), hc 2 (by omega), hc 3 (by omega), hc 4 (by omega), hc 5 (by omega), hc 6 (by omega), hc 7 (by omega)]
      rfl
    · omega
  · rintro ⟨a, b⟩
    rcases kcase T hq with ⟨h9, _⟩ | ⟨h9, _⟩ | ⟨h9, _⟩ | ⟨h9, _, c1, c2, c4, c5⟩ | ⟨h9, c, c2⟩
    · omega
    · omega
    · omega
    · rw [nm_val c4] at b
      have t := fun j => cN_t (j := j) c4
      have t0 := (t 0).2.1
      have t1 := (t 1).2.1
      have t2 := (t 2).2.1
      have t3 := (t 3).2.1
      have t4 := (t 4).2.1
      have t5 := (t 5).2.1
      have t6 := (t 6).2.1
      have t7 := (t 7).2.1
      have u0 := hb 0 (by omega)
      have u1 := hb 1 (by omega)
      have u2 := hb 2 (by omega)
      have u3 := hb 3 (by omega)
      have u4 := hb 4 (by omega)
      have u5 := hb 5 (by omega)
      have u6 := hb 6 (by omega)
      have u7 := hb 7 (by omega)
      have b := lN_inj (by omega) (by unfold Wn; omega) b
      unfold Wn at b
      have hc : ∀ j, j < 8 → cN T (sS T n q) (sE T n q) j = byt i j := by
        intro j hj
        match j, hj with
        | 0, _ => omega
        | 1, _ => omega
        | 2, _ => omega
        | 3, _ => omega
        | 4, _ => omega
        | 5, _ => omega
        | 6, _ => omega
        | 7, _ => omega
      have d1 := hc (xSl.getD i 0) (by omega)
      rw [o5 _ (Nat.le_refl _) (by omega)] at d1
      have d2 : ¬ sS T n q + xSl.getD i 0 < sE T n q := fun z => by have := (t (xSl.getD i 0)).2.2 z; omega
      have d3 : sS T n q + (xSl.getD i 0 - 1) < sE T n q := by
        have e1 := hc (xSl.getD i 0 - 1) (by omega)
        have e2 := (o4 (xSl.getD i 0 - 1) (by omega)).2.1
        rcases Nat.lt_or_ge (sS T n q + (xSl.getD i 0 - 1)) (sE T n q) with h | h
        · exact h
        · unfold cN at e1; rw [if_neg (by omega)] at e1; omega
      refine ⟨by omega, fun k hk => ?_⟩
      have e3 := (t k).1
      rw [if_pos (by omega), hc k (by omega)] at e3
      rw [e3]
      exact (o4 k hk).1
    · omega
theorem nm_ne0 (T : Nat → Int32) {n q : Nat} (hq : q ≤ n) (h : sK T n q = 1) : ¬ nmW T (sS T n q) (sE T n q) = 0 := by
  rcases kcase T hq with ⟨h9, _⟩ | ⟨h9, _⟩ | ⟨h9, _⟩ | ⟨_, h1, h2, h3, h4, h5⟩ | ⟨h9, _⟩
  · omega
  · omega
  · omega
  · intro h9
    rw [nm_val h4, show (0 : Int64) = lN 0 from rfl] at h9
    have t := fun j => (cN_t (j := j) h4).2.1
    have t0 := (cN_t (j := 0) h4).2
    have t1 := t 1
    have t2 := t 2
    have t3 := t 3
    have t4 := t 4
    have t5 := t 5
    have t6 := t 6
    have t7 := t 7
    have h9 := lN_inj (by omega) (by omega) h9
    have := t0.2 (by omega)
    omega
  · omega
theorem wOK_all : ∀ i ∈ [0, 4, 7, 8, 18, 19, 20, 21, 22, 23, 24, 25], wOK i := by
  have h : ∀ i ∈ [0, 4, 7, 8, 18, 19, 20, 21, 22, 23, 24, 25], 1 ≤ xSl.getD i 0 ∧ xSl.getD i 0 ≤ 5 ∧ ¬ bLt (chr i 0) = 0 ∧ (∀ j : Fin 5, j.val < xSl.getD i 0 → chr i j = nI (byt i j) ∧ 48 ≤ byt i j ∧ byt i j ≤ 122) ∧ ∀ j : Fin 8, xSl.getD i 0 ≤ j.val → byt i j = 0 := by decide +kernel
  intro i hi
  obtain ⟨h1, h2, h3, h4, h5⟩ := h i hi
  exact ⟨h1, h2, h3, fun j hj => h4 ⟨j, by omega⟩ hj, fun j hj h8 => h5 ⟨j, h8⟩ hj⟩
theorem sV_1 (T : Nat → Int32) {n q : Nat} (h : sE T n q = sS T n q + 1) : sV T n q = T (sS T n q) - 48 := by
  unfold sV numW
  rw [h, show sS T n q + 1 - sS T n q = 1 by omega]
  show 10 * 0 + (T (sS T n q) - 48) = _
  grind
theorem dig_iff (T : Nat → Int32) {n q i : Nat} {v : Int32} (hq : q ≤ n) (h1 : xSl.getD i 0 = 1) (hd : ¬ bDg (chr i 0) = 0) (hv : chr i 0 - 48 = v) : ¬ sW T n q i = 0 ↔ sK T n q = 2 ∧ sE T n q = sS T n q + 1 ∧ sV T n q = v := by
  refine (isW_iff T _ _ i).2.trans ?_
  rw [h1]
  constructor
  · rintro ⟨a, b⟩
    have b := b 0 (by omega)
    rw [Nat.add_zero] at b
    rcases kcase T hq with ⟨h9, c, c2⟩ | ⟨h9, _, _, c, _⟩ | ⟨c0, _, c1, _, c4, _⟩ | ⟨_, _, c1, _, c4, c5⟩ | ⟨h9, c, c2⟩
    · omega
    · exact absurd (by rw [b]; exact c) hd
    · refine ⟨c0, by omega, ?_⟩
      rw [sV_1 T (by omega), ← b]; exact hv
    · exact absurd (by rw [b]; exact not_both c5) hd
    · omega
  · rintro ⟨a, b, c⟩
    rw [sV_1 T b, ← hv] at c
    refine ⟨by omega, fun k hk => ?_⟩
    rw [show k = 0 by omega, Nat.add_zero]
    grind
end Tok2
