section Pure1
def bt (x : Int64) (s : Nat) : Bool := x.toBitVec.getLsbD s
theorem shN : ∀ s : Fin 64, (((nI s).toInt64 &&& 63).toBitVec.smod 64) = BitVec.ofNat 64 s := by decide +kernel
theorem bt_sh (x : Int64) {s : Nat} (hs : s < 64) : ((x >>> ((nI s).toInt64 &&& 63)) &&& 1) = if bt x s then 1 else 0 := by
  apply l64_b
  intro i
  rw [Int64.toBitVec_and, BitVec.getLsbD_and]
  have e : (x >>> ((nI s).toInt64 &&& 63)).toBitVec = x.toBitVec.sshiftRight s := by
    show x.toBitVec.sshiftRight' (((nI s).toInt64 &&& 63).toBitVec.smod 64) = _
    rw [shN ⟨s, hs⟩]
    show x.toBitVec.sshiftRight (BitVec.ofNat 64 s).toNat = _
    rw [BitVec.toNat_ofNat, Nat.mod_eq_of_lt (by omega)]
  rw [e, BitVec.getLsbD_sshiftRight]
  have e1 : (1 : Int64).toBitVec = 1#64 := by decide
  rw [e1, BitVec.getLsbD_one]
  unfold bt
  by_cases hi : i = 0
  · subst hi
    cases h : x.toBitVec.getLsbD s <;> simp [hs, h]
  · cases h : x.toBitVec.getLsbD s <;> simp [hi, BitVec.getLsbD_one]

theorem bt_and (a b : Int64) (s : Nat) : bt (a &&& b) s = (bt a s && bt b s) := by unfold bt; rw [Int64.toBitVec_and, BitVec.getLsbD_and]
theorem bt_not {s : Nat} (a : Int64) (h : s < 64) : bt (a ^^^ -1) s = !bt a s := by unfold bt; rw [Int64.toBitVec_xor, BitVec.getLsbD_xor, m1_b, BitVec.getLsbD_allOnes]; simp [h]
theorem bt_ge {s : Nat} (a : Int64) (h : 64 ≤ s) : bt a s = false := BitVec.getLsbD_of_ge _ _ h
theorem bt_0 (a : Int64) : a = 0 ↔ ∀ s, s < 64 → bt a s = false := by
  constructor
  · intro h s _; subst h; unfold bt; simp
  · intro h
    apply l64_b
    intro i
    by_cases hi : i < 64
    · have := h i hi; unfold bt at this; rw [this]; simp
    · rw [BitVec.getLsbD_of_ge _ _ (by omega), BitVec.getLsbD_of_ge _ _ (by omega)]
theorem bt_ne (a : Int64) : ¬ a = 0 ↔ ∃ s, s < 64 ∧ bt a s = true := by
  rw [bt_0]
  constructor
  · intro h
    apply Classical.byContradiction
    intro h2
    exact h (fun s hs => by
      cases e : bt a s
      · rfl
      · exact absurd ⟨s, hs, e⟩ h2)
  · rintro ⟨s, hs, e⟩ h
    rw [h s hs] at e
    cases e
theorem bt_xN : ∀ i : Fin 6, ∀ s : Fin 64, bt (xN i) s = s.val.testBit i := by decide +kernel
theorem sh_n : ∀ i : Fin 6, ((((1 : Int32) <<< (nI i &&& 31)).toInt64.toUInt64 &&& Int64.toUInt64 63).toBitVec % 64) = BitVec.ofNat 64 (2 ^ i.val) := by decide +kernel
theorem p64 {i : Nat} (hi : i < 6) : 2 ^ i ≤ 32 := Nat.pow_le_pow_right (n := 2) (by omega) (show i ≤ 5 by omega)
theorem bt_sW1 (x : Int64) {i : Nat} (hi : i < 6) (s : Nat) : bt (sW1 x i) s = bt (x &&& xN i) (s + 2 ^ i) := by
  have p := p64 hi
  unfold sW1 bt
  show ((x &&& xN i).toBitVec >>> ((((1 : Int32) <<< (nI i &&& 31)).toInt64.toUInt64 &&& Int64.toUInt64 63).toBitVec % 64)).getLsbD s = _
  rw [sh_n ⟨i, hi⟩]
  show ((x &&& xN i).toBitVec >>> (BitVec.ofNat 64 (2 ^ i)).toNat).getLsbD s = _
  rw [BitVec.toNat_ofNat, Nat.mod_eq_of_lt (by omega), BitVec.getLsbD_ushiftRight, Nat.add_comm]
theorem bt_sW0 (x : Int64) {i s : Nat} (hi : i < 6) (hs : s < 64) : bt (sW0 x i) s = (bt x s && !(s.testBit i)) := by
  unfold sW0
  rw [bt_and, bt_not _ hs, bt_xN ⟨i, hi⟩ ⟨s, hs⟩]
theorem tb_add {s i : Nat} : (s + 2 ^ i).testBit i = !(s.testBit i) := by
  rw [Nat.add_comm]; exact Nat.testBit_two_pow_add_eq s i
theorem lt_add : ∀ i : Fin 6, ∀ s : Fin 64, s.val.testBit i = false → s.val + 2 ^ i.val < 64 := by decide +kernel
theorem sns_r (x : Int64) {i : Nat} (hi : i < 6) : ¬ (sW1 x i &&& (sW0 x i ^^^ -1)) = 0 ↔ ∃ s, s < 64 ∧ s.testBit i = false ∧ bt x s = false ∧ bt x (s + 2 ^ i) = true := by
  rw [bt_ne]
  constructor
  · rintro ⟨s, hs, h⟩
    rw [bt_and, bt_not _ hs, bt_sW1 x hi, bt_sW0 x hi hs, bt_and] at h
    by_cases h2 : s + 2 ^ i < 64
    · rw [bt_xN ⟨i, hi⟩ ⟨s + 2 ^ i, h2⟩] at h
      simp only [tb_add] at h
      refine ⟨s, hs, ?_⟩
      cases h3 : s.testBit i <;> cases h4 : bt x s <;> cases h5 : bt x (s + 2 ^ i) <;> simp_all
    · rw [bt_ge _ (by omega)] at h
      simp at h
  · rintro ⟨s, hs, h1, h2, h3⟩
    refine ⟨s, hs, ?_⟩
    have hl := lt_add ⟨i, hi⟩ ⟨s, hs⟩ h1
    rw [bt_and, bt_not _ hs, bt_sW1 x hi, bt_sW0 x hi hs, bt_and, bt_xN ⟨i, hi⟩ ⟨s + 2 ^ i, hl⟩, tb_add, h1, h2, h3]
    rfl
theorem sns_f (x : Int64) {i : Nat} (hi : i < 6) : ¬ (sW0 x i &&& (sW1 x i ^^^ -1)) = 0 ↔ ∃ s, s < 64 ∧ s.testBit i = false ∧ bt x s = true ∧ bt x (s + 2 ^ i) = false := by
  rw [bt_ne]
  constructor
  · rintro ⟨s, hs, h⟩
    rw [bt_and, bt_not _ hs, bt_sW1 x hi, bt_sW0 x hi hs, bt_and] at h
    have h1 : s.testBit i = false := by cases h3 : s.testBit i <;> simp_all
    have hl := lt_add ⟨i, hi⟩ ⟨s, hs⟩ h1
    rw [bt_xN ⟨i, hi⟩ ⟨s + 2 ^ i, hl⟩, tb_add, h1] at h
    refine ⟨s, hs, h1, ?_⟩
    cases h4 : bt x s <;> cases h5 : bt x (s + 2 ^ i) <;> simp_all
  · rintro ⟨s, hs, h1, h2, h3⟩
    refine ⟨s, hs, ?_⟩
    have hl := lt_add ⟨i, hi⟩ ⟨s, hs⟩ h1
    rw [bt_and, bt_not _ hs, bt_sW1 x hi, bt_sW0 x hi hs, bt_and, bt_xN ⟨i, hi⟩ ⟨s + 2 ^ i, hl⟩, tb_add, h1, h2, h3]
    rfl

theorem i32_b {a b : Int32} (h : ∀ i, i < 32 → a.toBitVec.getLsbD i = b.toBitVec.getLsbD i) : a = b := Int32.toBitVec_inj.mp (BitVec.eq_of_getLsbD_eq (fun i hi => h i hi))
theorem le_mx (x : Int32) : x ≤ 2147483647 := by
  rw [Int32.le_iff_toInt_le]
  have := Int32.toInt_le x
  exact this
theorem sa_1 : ∀ i : Fin 8, (((56 - 8 * nI i).toInt64 &&& 63).toBitVec.smod 64) = BitVec.ofNat 64 (56 - 8 * i.val) := by decide +kernel
theorem sa_2 : ∀ i : Fin 8, ((((8 : Int32) * (7 - nI i)).toInt64.toUInt64 &&& Int64.toUInt64 63).toBitVec % 64) = BitVec.ofNat 64 (56 - 8 * i.val) := by decide +kernel
theorem b255 : ∀ t : Fin 32, (255 : Int64).toBitVec.getLsbD t = decide (t.val < 8) := by decide +kernel
theorem c255 : ∀ t : Fin 32, (255 : Int32).toBitVec.getLsbD t = decide (t.val < 8) := by decide +kernel
theorem ch_eq (x : Int64) {i : Nat} (hi : i < 8) : ((x >>> ((56 - 8 * nI i).toInt64 &&& 63)) &&& 255).toInt32 = (x.toUInt64 >>> (((8 : Int32) * (7 - nI i)).toInt64.toUInt64 &&& Int64.toUInt64 63)).toInt64.toInt32 &&& 255 := by
  apply i32_b
  intro t ht
  rw [Int32.toBitVec_and, BitVec.getLsbD_and, c255 ⟨t, ht⟩]
  show (((x >>> ((56 - 8 * nI i).toInt64 &&& 63)) &&& 255).toBitVec.signExtend 32).getLsbD t = (((x.toUInt64 >>> (((8 : Int32) * (7 - nI i)).toInt64.toUInt64 &&& Int64.toUInt64 63)).toBitVec.signExtend 32).getLsbD t && decide (t < 8))
  rw [BitVec.getLsbD_signExtend, BitVec.getLsbD_signExtend, Int64.toBitVec_and, BitVec.getLsbD_and, b255 ⟨t, ht⟩]
  have e : (x >>> ((56 - 8 * nI i).toInt64 &&& 63)).toBitVec = x.toBitVec.sshiftRight (56 - 8 * i) := by
    show x.toBitVec.sshiftRight' (((56 - 8 * nI i).toInt64 &&& 63).toBitVec.smod 64) = _
    rw [sa_1 ⟨i, hi⟩]
    show x.toBitVec.sshiftRight (BitVec.ofNat 64 (56 - 8 * i)).toNat = _
    rw [BitVec.toNat_ofNat, Nat.mod_eq_of_lt (by omega)]
  have e2 : (x.toUInt64 >>> (((8 : Int32) * (7 - nI i)).toInt64.toUInt64 &&& Int64.toUInt64 63)).toBitVec = x.toBitVec >>> (56 - 8 * i) := by
    show x.toBitVec >>> ((((8 : Int32) * (7 - nI i)).toInt64.toUInt64 &&& Int64.toUInt64 63).toBitVec % 64) = _
    rw [sa_2 ⟨i, hi⟩]
    show x.toBitVec >>> (BitVec.ofNat 64 (56 - 8 * i)).toNat = _
    rw [BitVec.toNat_ofNat, Nat.mod_eq_of_lt (by omega)]
  rw [e, e2, BitVec.getLsbD_sshiftRight, BitVec.getLsbD_ushiftRight]
  by_cases h8 : t < 8
  · have h1 : 56 - 8 * i + t < 64 := by omega
    simp [h8, h1, ht, show t < 64 by omega]
  · simp [h8]; intro h1 h2; omega

theorem nI_t {n : Nat} (h : n < 2 ^ 31) : (nI n).toInt = n := Int32.toInt_ofNat_of_lt h
theorem nI_j {n : Nat} (h : n < 2 ^ 31) : (nI n).toInt64.toInt = n := by rw [Int32.toInt_toInt64, nI_t h]
theorem j_sub {a b : Int64} (h1 : -4611686018427387904 ≤ a.toInt) (h2 : a.toInt ≤ 4611686018427387903) (h3 : -4611686018427387904 ≤ b.toInt) (h4 : b.toInt ≤ 4611686018427387903) : (a - b).toInt = a.toInt - b.toInt := by
  rw [Int64.toInt_sub]
  exact Int.bmod_eq_of_le (by omega) (by omega)
theorem j_add {a b : Int64} (h1 : -4611686018427387904 ≤ a.toInt) (h2 : a.toInt ≤ 4611686018427387903) (h3 : -4611686018427387904 ≤ b.toInt) (h4 : b.toInt ≤ 4611686018427387903) : (a + b).toInt = a.toInt + b.toInt := by
  rw [Int64.toInt_add]
  exact Int.bmod_eq_of_le (by omega) (by omega)
theorem j_mul {a b : Int64} (h1 : -4611686018427387904 ≤ a.toInt * b.toInt) (h2 : a.toInt * b.toInt ≤ 4611686018427387903) : (a * b).toInt = a.toInt * b.toInt := by
  rw [Int64.toInt_mul]
  exact Int.bmod_eq_of_le (by omega) (by omega)
theorem j_le {a b : Int64} : a ≤ b ↔ a.toInt ≤ b.toInt := Int64.le_iff_toInt_le
theorem i_sub {a b : Nat} (h1 : a ≤ 1000000) (h2 : b ≤ 1000000) : (nI a - nI b).toInt64.toInt = (a : Int) - b := by
  rw [Int32.toInt_toInt64, Int32.toInt_sub, nI_t (by omega), nI_t (by omega)]
  exact Int.bmod_eq_of_le (by omega) (by omega)
theorem fd_1 {x y : Int64} {X Y : Int} (hx : x.toInt = X) (hy : y.toInt = Y) (h0 : 0 < Y) (h1 : -1000000000000 ≤ X) (h2 : X ≤ 1000000000000) (h3 : Y ≤ 1000000) : (x / y).toInt = X.tdiv Y ∧ (x / y * y).toInt = X.tdiv Y * Y ∧ -1000000000000 ≤ X.tdiv Y ∧ X.tdiv Y ≤ 1000000000000 := by
  have ha : X.tdiv Y = if 0 ≤ X ∨ Y ∣ X then X / Y else X / Y + 1 := by
    rw [Int.tdiv_eq_ediv]
    split
    · omega
    · rw [Int.sign_eq_one_of_pos h0]
  have hm := Int.emod_add_mul_ediv X Y
  have hm0 := Int.emod_nonneg X (show Y ≠ 0 by omega)
  have hm1 := Int.emod_lt_of_pos X h0
  have b1 : -1000000000000 ≤ X / Y := by
    have : -1000000000000 * Y ≤ X ∨ True := Or.inr trivial
    apply Int.le_ediv_of_mul_le h0
    have : -1000000000000 * Y ≤ -1000000000000 * 1 := Int.mul_le_mul_of_nonpos_left (by omega) (by omega)
    omega
  have b2 : X / Y ≤ 1000000000000 := by
    apply Int.ediv_le_of_le_mul h0
    have : 1000000000000 * 1 ≤ 1000000000000 * Y := Int.mul_le_mul_of_nonneg_left (by omega) (by omega)
    omega
  have b3 : X.tdiv Y ≤ 1000000000000 := by
    rw [ha]
    split
    · exact b2
    · rename_i h
      have : X / Y < 0 := Int.ediv_neg_of_neg_of_pos (by omega) h0
      omega
  have b4 : -1000000000000 ≤ X.tdiv Y := by rw [ha]; split <;> omega
  have e1 : (x / y).toInt = X.tdiv Y := by
    rw [Int64.toInt_div, hx, hy]
    exact Int.bmod_eq_of_le (by omega) (by omega)
  refine ⟨e1, ?_, b4, b3⟩
  have hab : -4000000000000 ≤ X.tdiv Y * Y ∧ X.tdiv Y * Y ≤ 4000000000000 := by
    have hh : X.tdiv Y * Y = if 0 ≤ X ∨ Y ∣ X then Y * (X / Y) else Y * (X / Y) + Y := by
      rw [ha]
      split
      · rw [Int.mul_comm]
      · rw [Int.add_mul, Int.mul_comm]; omega
    rw [hh]
    split <;> omega
  rw [j_mul (by rw [e1, hy]; omega) (by rw [e1, hy]; omega), e1, hy]
theorem xr {x y : Int64} (hy : 0 < y.toInt) : 0 ≤ x ^^^ y ↔ 0 ≤ x.toInt := by
  have h (z : Int64) : 0 ≤ z.toInt ↔ z.toBitVec.msb = false := by
    rw [BitVec.msb_eq_toInt]
    show 0 ≤ z.toInt ↔ decide (z.toInt < 0) = false
    simp
  rw [j_le]
  show 0 ≤ (x ^^^ y).toInt ↔ _
  rw [h, h, Int64.toBitVec_xor, BitVec.msb_xor]
  have : y.toBitVec.msb = false := (h y).mp (by omega)
  rw [this]
  simp
/-- both ways to divide -/
theorem fd_2 {x y : Int64} {X Y : Int} (hx : x.toInt = X) (hy : y.toInt = Y) (h0 : 0 < Y) (h1 : -1000000000000 ≤ X) (h2 : X ≤ 1000000000000) (h3 : Y ≤ 1000000) : (fdv x y).toInt = X / Y ∧ (if x < x / y * y then x / y - 1 else x / y) = fdv x y := by
  obtain ⟨e1, e2, b1, b2⟩ := fd_1 hx hy h0 h1 h2 h3
  have ha : X.tdiv Y = if 0 ≤ X ∨ Y ∣ X then X / Y else X / Y + 1 := by
    rw [Int.tdiv_eq_ediv]
    split
    · omega
    · rw [Int.sign_eq_one_of_pos h0]
  have hm := Int.emod_add_mul_ediv X Y
  have hm0 := Int.emod_nonneg X (show Y ≠ 0 by omega)
  have hm1 := Int.emod_lt_of_pos X h0
  have hh : X.tdiv Y * Y = if 0 ≤ X ∨ Y ∣ X then Y * (X / Y) else Y * (X / Y) + Y := by
    rw [ha]
    split
    · rw [Int.mul_comm]
    · rw [Int.add_mul, Int.mul_comm]; omega
  have hc : (¬ 0 ≤ x ^^^ y ∧ ¬ x / y * y = x) ↔ ¬ (0 ≤ X ∨ Y ∣ X) := by
    rw [xr (by omega), hx, ← Int64.toInt_inj, e2, hx, hh]
    constructor
    · rintro ⟨a, b⟩ c
      rw [if_pos c] at b
      rcases c with c | c
      · exact a c
      · rw [Int.mul_ediv_cancel' c] at b
        exact b rfl
    · intro a
      rw [if_neg a]
      exact ⟨fun z => a (Or.inl z), by omega⟩
  have hl : x < x / y * y ↔ ¬ (0 ≤ X ∨ Y ∣ X) := by
    rw [Int64.lt_iff_toInt_lt, e2, hx, hh]
    constructor
    · intro a c
      rw [if_pos c] at a
      omega
    · intro a
      rw [if_neg a]
      omega
  unfold fdv
  by_cases z : 0 ≤ X ∨ Y ∣ X
  · rw [if_neg (fun w => hc.mp w z), if_neg (fun w => hl.mp w z)]
    rw [if_pos z] at ha
    exact ⟨e1.trans ha, rfl⟩
  · rw [if_pos (hc.mpr z), if_pos (hl.mpr z)]
    rw [if_neg z] at ha
    refine ⟨?_, rfl⟩
    rw [j_sub (by omega) (by omega) (by decide) (by decide), e1, ha]
    show X / Y + 1 - 1 = X / Y
    omega
theorem mix_b {v u a b x : Nat} (hv : v ≤ 999999) (hu : u ≤ 999999) (hab : a < b) (h1 : a ≤ x) (h2 : x ≤ b) (hb : b ≤ 999999) :
    ∃ r : Nat, r ≤ 999999 ∧ (v : Int) + (((u : Int) - v) * ((x : Int) - a)) / ((b : Int) - a) = r ∧ -1000000000000 ≤ ((u : Int) - v) * ((x : Int) - a) ∧ ((u : Int) - v) * ((x : Int) - a) ≤ 1000000000000 ∧ -1000000 ≤ (((u : Int) - v) * ((x : Int) - a)) / ((b : Int) - a) ∧ (((u : Int) - v) * ((x : Int) - a)) / ((b : Int) - a) ≤ 1000000 := by
  have hB : (0 : Int) < (b : Int) - a := by omega
  have hX0 : (0 : Int) ≤ (x : Int) - a := by omega
  have hX1 : (x : Int) - a ≤ (b : Int) - a := by omega
  have q1 : -(1000000 * 1000000) ≤ ((u : Int) - v) * ((x : Int) - a) := by
    rcases Int.le_total 0 ((u : Int) - v) with z | z
    · have := Int.mul_nonneg z hX0; omega
    · have a1 : -1000000 * ((x : Int) - a) ≤ ((u : Int) - v) * ((x : Int) - a) := Int.mul_le_mul_of_nonneg_right (by omega) hX0
      omega
  have q2 : ((u : Int) - v) * ((x : Int) - a) ≤ 1000000 * 1000000 := by
    rcases Int.le_total 0 ((u : Int) - v) with z | z
    · have a1 : ((u : Int) - v) * ((x : Int) - a) ≤ 1000000 * ((x : Int) - a) := Int.mul_le_mul_of_nonneg_right (by omega) hX0
      omega
    · have := Int.mul_nonpos_of_nonpos_of_nonneg z hX0; omega
  have lo : (if u ≤ v then (u : Int) - v else 0) ≤ (((u : Int) - v) * ((x : Int) - a)) / ((b : Int) - a) := by
    apply Int.le_ediv_of_mul_le hB
    split
    · exact Int.mul_le_mul_of_nonpos_left (by omega) hX1
    · have : 0 ≤ ((u : Int) - v) * ((x : Int) - a) := Int.mul_nonneg (by omega) hX0
      omega
  have hi : (((u : Int) - v) * ((x : Int) - a)) / ((b : Int) - a) ≤ (if u ≤ v then 0 else (u : Int) - v) := by
    apply Int.ediv_le_of_le_mul hB
    split
    · have : ((u : Int) - v) * ((x : Int) - a) ≤ 0 := Int.mul_nonpos_of_nonpos_of_nonneg (by omega) hX0
      omega
    · exact Int.mul_le_mul_of_nonneg_left hX1 (by omega)
  refine ⟨((v : Int) + (((u : Int) - v) * ((x : Int) - a)) / ((b : Int) - a)).toNat, ?_, ?_, by omega, by omega, ?_, ?_⟩
  · split at lo <;> split at hi <;> omega
  · split at lo <;> split at hi <;> omega
  · split at lo <;> omega
  · split at hi <;> omega
theorem mix_e {v u a b x : Nat} (hv : v ≤ 999999) (hu : u ≤ 999999) (hab : a < b) (h1 : a ≤ x) (h2 : x ≤ b) (hb : b ≤ 999999) :
    ∃ r : Nat, r ≤ 999999 ∧ nI v + (fdv ((nI u - nI v).toInt64 * (nI x - nI a).toInt64) (nI b - nI a).toInt64).toInt32 = nI r ∧
      (nI v).toInt64 + (if ((nI u).toInt64 - (nI v).toInt64) * ((nI x).toInt64 - (nI a).toInt64) < (((nI u).toInt64 - (nI v).toInt64) * ((nI x).toInt64 - (nI a).toInt64)) / ((nI b).toInt64 - (nI a).toInt64) * ((nI b).toInt64 - (nI a).toInt64) then (((nI u).toInt64 - (nI v).toInt64) * ((nI x).toInt64 - (nI a).toInt64)) / ((nI b).toInt64 - (nI a).toInt64) - 1 else (((nI u).toInt64 - (nI v).toInt64) * ((nI x).toInt64 - (nI a).toInt64)) / ((nI b).toInt64 - (nI a).toInt64)) = (nI r).toInt64 := by
  obtain ⟨r, hr, e, q1, q2, q3, q4⟩ := mix_b hv hu hab h1 h2 hb
  have s1 {p q : Nat} (hp : p ≤ 999999) (hq : q ≤ 999999) : (nI p).toInt64 - (nI q).toInt64 = (nI p - nI q).toInt64 := by
    apply Int64.toInt_inj.mp
    rw [i_sub (by omega) (by omega), j_sub (by rw [nI_j (by omega)]; omega) (by rw [nI_j (by omega)]; omega) (by rw [nI_j (by omega)]; omega) (by rw [nI_j (by omega)]; omega), nI_j (by omega), nI_j (by omega)]
  rw [s1 hu hv, s1 (show x ≤ 999999 by omega) (show a ≤ 999999 by omega), s1 hb (show a ≤ 999999 by omega)]
  have t1 := i_sub (a := u) (b := v) (by omega) (by omega)
  have t2 := i_sub (a := x) (b := a) (by omega) (by omega)
  have t3 := i_sub (a := b) (b := a) (by omega) (by omega)
  generalize (nI u - nI v).toInt64 = A1 at t1 ⊢
  generalize (nI x - nI a).toInt64 = A2 at t2 ⊢
  generalize (nI b - nI a).toInt64 = A3 at t3 ⊢
  have t4 : (A1 * A2).toInt = ((u : Int) - v) * ((x : Int) - a) := by
    rw [j_mul (by rw [t1, t2]; omega) (by rw [t1, t2]; omega), t1, t2]
  obtain ⟨f1, f2⟩ := fd_2 t4 t3 (by omega) q1 q2 (by omega)
  refine ⟨r, hr, ?_, ?_⟩
  · apply Int32.toInt_inj.mp
    rw [Int32.toInt_add, Int64.toInt_toInt32, f1, nI_t (by omega), nI_t (by omega)]
    rw [show ((((u : Int) - v) * ((x : Int) - a)) / ((b : Int) - a)).bmod (2 ^ 32) = (((u : Int) - v) * ((x : Int) - a)) / ((b : Int) - a) from Int.bmod_eq_of_le (by omega) (by omega)]
    rw [e]
    exact Int.bmod_eq_of_le (by omega) (by omega)
  · rw [f2]
    apply Int64.toInt_inj.mp
    rw [j_add (by rw [nI_j (by omega)]; omega) (by rw [nI_j (by omega)]; omega) (by omega) (by omega), f1, nI_j (by omega), nI_j (by omega)]
    exact e

theorem inc_le {f : Nat → Int32} {sz : Nat} (h : ∀ j, j + 1 < sz → f j < f (j + 1)) : ∀ i j, i ≤ j → j < sz → f i ≤ f j := by
  intro i j hij
  induction j with
  | zero => intro _; obtain rfl : i = 0 := by omega
            exact Int32.le_refl _
  | succ j ih =>
    intro hj
    rcases Nat.lt_or_eq_of_le hij with z | z
    · have := ih (by omega) (by omega)
      have := h j hj
      grind
    · subst z; exact Int32.le_refl _
theorem brt_m {f : Nat → Int32} {sz : Nat} {x : Int32} (h : f 0 ≤ f (sz - 1)) : brt f sz x = if x < f 0 then f 0 else if f (sz - 1) < x then f (sz - 1) else x := by
  unfold brt mx mn
  grind
theorem brt_b {f : Nat → Int32} {sz : Nat} {x : Int32} (h : f 0 ≤ f (sz - 1)) : f 0 ≤ brt f sz x ∧ brt f sz x ≤ f (sz - 1) := by
  unfold brt mx mn
  grind
theorem sst_c (f : Nat → Int32) (x : Int32) : ∀ m i s, (sst f x m i s = s ∨ (i ≤ sst f x m i s ∧ sst f x m i s < i + m ∧ f (sst f x m i s) ≤ x)) ∧ ∀ j, i ≤ j → j < i + m → sst f x m i s < j → x < f j := by
  intro m
  induction m with
  | zero => intro i s; exact ⟨Or.inl rfl, fun j a b => by omega⟩
  | succ m ih =>
    intro i s
    obtain ⟨h1, h2⟩ := ih (i + 1) (if f i ≤ x then i else s)
    have e : sst f x (m + 1) i s = sst f x m (i + 1) (if f i ≤ x then i else s) := rfl
    rw [e]
    generalize sst f x m (i + 1) (if f i ≤ x then i else s) = r at h1 h2
    refine ⟨?_, fun j a b c => ?_⟩
    · rcases h1 with z | ⟨z1, z2, z3⟩
      · split at z
        · right; subst z; exact ⟨by omega, by omega, by assumption⟩
        · exact Or.inl z
      · exact Or.inr ⟨by omega, by omega, z3⟩
    · rcases Nat.eq_or_lt_of_le a with z | z
      · subst z
        rcases h1 with y | ⟨y1, y2, y3⟩
        · split at y
          · omega
          · grind
        · omega
      · exact h2 j (by omega) (by omega) c
/-- the span round x -/
theorem sps_c {f : Nat → Int32} {sz : Nat} {x : Int32} (h2 : 2 ≤ sz) (h0 : f 0 ≤ x) (h1 : x ≤ f (sz - 1)) : sps f sz x + 1 < sz ∧ f (sps f sz x) ≤ x ∧ x ≤ f (sps f sz x + 1) := by
  obtain ⟨a, b⟩ := sst_c f x (sz - 2) 1 0
  have e : sps f sz x = sst f x (sz - 2) 1 0 := rfl
  rw [e]
  generalize sst f x (sz - 2) 1 0 = r at a b
  have hr : r + 1 < sz := by omega
  refine ⟨hr, ?_, ?_⟩
  · rcases a with z | z
    · subst z; exact h0
    · exact z.2.2
  · by_cases c : r + 1 < sz - 1
    · have := b (r + 1) (by omega) (by omega) (by omega)
      grind
    · rw [show r + 1 = sz - 1 by omega]; exact h1
/-- the model's span -/
def msp (f : Nat → Int32) (x : Int32) : Nat → Nat → Nat → Nat
  | 0, _, s => s
  | m + 1, i, s => msp f x m (i + 1) (if f i ≤ x then i else s)
theorem msp_s (f : Nat → Int32) (x : Int32) {sz : Nat} (h : 2 ≤ sz) : msp f x (sz - 1) 0 0 = sps f sz x := by
  obtain ⟨m, rfl⟩ : ∃ m, sz = m + 2 := ⟨sz - 2, by omega⟩
  show msp f x m 1 (if f 0 ≤ x then 0 else 0) = sst f x m 1 0
  rw [show (if f 0 ≤ x then 0 else 0) = 0 by split <;> rfl]
  have : ∀ m i s, msp f x m i s = sst f x m i s := by
    intro m
    induction m with
    | zero => intro i s; rfl
    | succ m ih => intro i s; exact ih _ _
  exact this _ _ _

end Pure1
