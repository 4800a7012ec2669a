section Ord
/-! counting bits: fields of w bits -/
def sF (w : Nat) : Nat → Nat → Nat
  | 0, _ => 0
  | k + 1, A => A % 2 ^ w + sF w k (A / 2 ^ w)
def mk (w : Nat) : Nat → Nat
  | 0 => 0
  | k + 1 => (2 ^ w - 1) + 2 ^ (2 * w) * mk w k
theorem and_split (A M m p : Nat) (h : m < 2 ^ p) : A &&& (m + 2 ^ p * M) = (A % 2 ^ p &&& m) + 2 ^ p * ((A / 2 ^ p) &&& M) := by
  have e1 : (A &&& (m + 2 ^ p * M)) % 2 ^ p = A % 2 ^ p &&& m := by
    rw [Nat.and_mod_two_pow, Nat.add_mul_mod_self_left, Nat.mod_eq_of_lt h]
  have e2 : (A &&& (m + 2 ^ p * M)) / 2 ^ p = (A / 2 ^ p) &&& M := by
    rw [Nat.and_div_two_pow, Nat.add_mul_div_left _ _ (Nat.two_pow_pos p), Nat.div_eq_of_lt h, Nat.zero_add]
  rw [← e1, ← e2]
  exact (Nat.mod_add_div _ _).symm
theorem and_lo (A w p : Nat) (h : w ≤ p) : A % 2 ^ p &&& (2 ^ w - 1) = A % 2 ^ w := by
  rw [Nat.and_two_pow_sub_one_eq_mod]
  exact Nat.mod_mod_of_dvd _ (Nat.pow_dvd_pow 2 h)
theorem mk_and (A w k : Nat) : A &&& mk w (k + 1) = A % 2 ^ w + 2 ^ (2 * w) * ((A / 2 ^ (2 * w)) &&& mk w k) := by
  have hlt : 2 ^ w - 1 < 2 ^ (2 * w) := by
    have := Nat.pow_le_pow_right (n := 2) (by omega) (show w ≤ 2 * w by omega)
    have := Nat.two_pow_pos w
    omega
  show A &&& ((2 ^ w - 1) + 2 ^ (2 * w) * mk w k) = _
  rw [and_split _ _ _ _ hlt, and_lo _ _ _ (by omega)]
def fold2 (w k A : Nat) : Nat := (A &&& mk w k) + ((A / 2 ^ w) &&& mk w k)
theorem fold2_s (w k A : Nat) : fold2 w (k + 1) A = (A % 2 ^ w + A / 2 ^ w % 2 ^ w) + 2 ^ (2 * w) * fold2 w k (A / 2 ^ (2 * w)) := by
  unfold fold2
  rw [mk_and, mk_and, Nat.div_div_eq_div_mul A, Nat.div_div_eq_div_mul A, Nat.mul_comm (2 ^ w), Nat.mul_add]
  omega
theorem two_w {w : Nat} (h : 1 ≤ w) : 2 * (2 ^ w - 1) < 2 ^ (2 * w) := by
  rw [Nat.two_mul w, Nat.pow_add]
  have h1 : 2 ≤ 2 ^ w := Nat.pow_le_pow_right (n := 2) (by omega) (show 1 ≤ w by omega) |> fun z => by simpa using z
  have := Nat.mul_le_mul_right (2 ^ w) h1
  omega
theorem sF_fold {w : Nat} (h : 1 ≤ w) : ∀ k A, sF (2 * w) k (fold2 w k A) = sF w (2 * k) A := by
  intro k
  induction k with
  | zero => intro A; rfl
  | succ k ih =>
    intro A
    rw [fold2_s]
    have l1 := Nat.mod_lt A (Nat.two_pow_pos w)
    have l2 := Nat.mod_lt (A / 2 ^ w) (Nat.two_pow_pos w)
    have l3 := two_w h
    have hlo : A % 2 ^ w + A / 2 ^ w % 2 ^ w < 2 ^ (2 * w) := by omega
    show ((A % 2 ^ w + A / 2 ^ w % 2 ^ w) + 2 ^ (2 * w) * fold2 w k (A / 2 ^ (2 * w))) % 2 ^ (2 * w) + sF (2 * w) k (((A % 2 ^ w + A / 2 ^ w % 2 ^ w) + 2 ^ (2 * w) * fold2 w k (A / 2 ^ (2 * w))) / 2 ^ (2 * w)) = _
    rw [Nat.add_mul_mod_self_left, Nat.mod_eq_of_lt hlo, Nat.add_mul_div_left _ _ (Nat.two_pow_pos (2 * w)), Nat.div_eq_of_lt hlo, Nat.zero_add, ih]
    show _ = A % 2 ^ w + (A / 2 ^ w % 2 ^ w + sF w (2 * k) (A / 2 ^ w / 2 ^ w))
    rw [Nat.div_div_eq_div_mul A, ← Nat.pow_add, ← Nat.two_mul w]
    omega
/-- all fields are at most M -/
def fM (w M : Nat) : Nat → Nat → Prop
  | 0, A => A = 0
  | k + 1, A => A % 2 ^ w ≤ M ∧ fM w M k (A / 2 ^ w)
theorem fM_fold {w M : Nat} (h : 1 ≤ w) : ∀ k A, fM w M (2 * k) A → fM (2 * w) (2 * M) k (fold2 w k A) := by
  intro k
  induction k with
  | zero => intro A hA; have : A = 0 := hA; subst this; show (0 &&& 0) + (0 / 2 ^ w &&& 0) = 0; rw [Nat.and_zero, Nat.and_zero]
  | succ k ih =>
    intro A hA
    have hA : A % 2 ^ w ≤ M ∧ A / 2 ^ w % 2 ^ w ≤ M ∧ fM w M (2 * k) (A / 2 ^ w / 2 ^ w) := hA
    rw [fold2_s]
    have l1 := Nat.mod_lt A (Nat.two_pow_pos w)
    have l2 := Nat.mod_lt (A / 2 ^ w) (Nat.two_pow_pos w)
    have l3 := two_w h
    have hlo : A % 2 ^ w + A / 2 ^ w % 2 ^ w < 2 ^ (2 * w) := by omega
    show ((A % 2 ^ w + A / 2 ^ w % 2 ^ w) + 2 ^ (2 * w) * fold2 w k (A / 2 ^ (2 * w))) % 2 ^ (2 * w) ≤ 2 * M ∧ fM (2 * w) (2 * M) k (((A % 2 ^ w + A / 2 ^ w % 2 ^ w) + 2 ^ (2 * w) * fold2 w k (A / 2 ^ (2 * w))) / 2 ^ (2 * w))
    rw [Nat.add_mul_mod_self_left, Nat.mod_eq_of_lt hlo, Nat.add_mul_div_left _ _ (Nat.two_pow_pos (2 * w)), Nat.div_eq_of_lt hlo, Nat.zero_add]
    refine ⟨by omega, ih _ ?_⟩
    rw [Nat.two_mul w, Nat.pow_add, ← Nat.div_div_eq_div_mul]
    exact hA.2.2
theorem fM_lt {w M : Nat} : ∀ k A, A < 2 ^ (w * k) → M + 1 = 2 ^ w → fM w M k A := by
  intro k
  induction k with
  | zero => intro A h _; have : A < 1 := by simpa using h
            show A = 0
            omega
  | succ k ih =>
    intro A h hM
    have l1 := Nat.mod_lt A (Nat.two_pow_pos w)
    refine ⟨by omega, ih _ ?_ hM⟩
    rw [Nat.mul_succ, Nat.pow_add] at h
    exact Nat.div_lt_of_lt_mul (by rw [Nat.mul_comm]; exact h)
theorem lt_fM {w M : Nat} (hM : M < 2 ^ w) : ∀ k A, fM w M k A → A < 2 ^ (w * k) := by
  intro k
  induction k with
  | zero => intro A h; have h : A = 0 := h; subst h; exact Nat.two_pow_pos _
  | succ k ih =>
    intro A h
    have := ih _ h.2
    rw [Nat.mul_succ, Nat.pow_add]
    have e := Nat.div_add_mod A (2 ^ w)
    have l1 := Nat.mod_lt A (Nat.two_pow_pos w)
    have : 2 ^ w * (A / 2 ^ w + 1) ≤ 2 ^ w * 2 ^ (w * k) := Nat.mul_le_mul_left _ this
    rw [Nat.mul_add, Nat.mul_one] at this
    rw [Nat.mul_comm (2 ^ (w * k))]
    omega
/-- the first step takes away instead of masking -/
theorem st1 : ∀ k A, fM 1 1 (2 * k) A → A = fold2 1 k A + ((A / 2) &&& mk 1 k) := by
  intro k
  induction k with
  | zero => intro A h; have h : A = 0 := h; subst h; rfl
  | succ k ih =>
    intro A h
    have h : A % 2 ^ 1 ≤ 1 ∧ A / 2 ^ 1 % 2 ^ 1 ≤ 1 ∧ fM 1 1 (2 * k) (A / 2 ^ 1 / 2 ^ 1) := h
    rw [fold2_s, mk_and]
    have i := ih (A / 4) (by rw [show A / 4 = A / 2 ^ 1 / 2 ^ 1 by rw [Nat.div_div_eq_div_mul]]; exact h.2.2)
    have e4 : (2 : Nat) ^ (2 * 1) = 4 := rfl
    have e2 : (2 : Nat) ^ 1 = 2 := rfl
    rw [e4, e2]
    have : A / 2 / 4 = A / 4 / 2 := by omega
    rw [this]
    omega
/-- the third step masks once -/
theorem st3 {w M : Nat} (hM : 2 * M < 2 ^ w) : ∀ k A, fM w M (2 * k) A → (A + A / 2 ^ w) &&& mk w k = fold2 w k A := by
  intro k
  induction k with
  | zero => intro A h; show (A + A / 2 ^ w) &&& 0 = (A &&& 0) + (A / 2 ^ w &&& 0); rw [Nat.and_zero, Nat.and_zero, Nat.and_zero]
  | succ k ih =>
    intro A h
    have h : A % 2 ^ w ≤ M ∧ A / 2 ^ w % 2 ^ w ≤ M ∧ fM w M (2 * k) (A / 2 ^ w / 2 ^ w) := h
    rw [fold2_s, mk_and]
    have hp := Nat.two_pow_pos w
    have ew : 2 ^ (2 * w) = 2 ^ w * 2 ^ w := by rw [Nat.two_mul, Nat.pow_add]
    have i := ih (A / 2 ^ (2 * w)) (by rw [ew, ← Nat.div_div_eq_div_mul]; exact h.2.2)
    have e1 : (A + A / 2 ^ w) % 2 ^ w = A % 2 ^ w + A / 2 ^ w % 2 ^ w := by
      rw [Nat.add_mod, Nat.mod_eq_of_lt (by omega)]
    have e2 : (A + A / 2 ^ w) / 2 ^ (2 * w) = A / 2 ^ (2 * w) + A / 2 ^ (2 * w) / 2 ^ w := by
      have a1 := Nat.div_add_mod A (2 ^ w)
      have a2 := Nat.div_add_mod (A / 2 ^ w) (2 ^ w)
      have a3 := Nat.div_add_mod (A / 2 ^ w / 2 ^ w) (2 ^ w)
      rw [ew, ← Nat.div_div_eq_div_mul, ← Nat.div_div_eq_div_mul]
      have b1 : (A + A / 2 ^ w) / 2 ^ w = A / 2 ^ w + A / 2 ^ w / 2 ^ w := by
        have : A + A / 2 ^ w = (A % 2 ^ w + A / 2 ^ w % 2 ^ w) + 2 ^ w * (A / 2 ^ w + A / 2 ^ w / 2 ^ w) := by
          rw [Nat.mul_add]; omega
        rw [this, Nat.add_mul_div_left _ _ hp, Nat.div_eq_of_lt (by omega), Nat.zero_add]
      rw [b1]
      have h3 : A / 2 ^ w / 2 ^ w % 2 ^ w ≤ M := by
        match k, h.2.2 with
        | 0, z => have z : A / 2 ^ w / 2 ^ w = 0 := z
                  rw [z, Nat.zero_mod]; omega
        | k + 1, z => exact z.1
      have : A / 2 ^ w + A / 2 ^ w / 2 ^ w = (A / 2 ^ w % 2 ^ w + A / 2 ^ w / 2 ^ w % 2 ^ w) + 2 ^ w * (A / 2 ^ w / 2 ^ w + A / 2 ^ w / 2 ^ w / 2 ^ w) := by
        rw [Nat.mul_add]; omega
      rw [this, Nat.add_mul_div_left _ _ hp, Nat.div_eq_of_lt (by omega), Nat.zero_add]
    rw [e1, e2, i]
theorem mk1 : mk 1 32 = 6148914691236517205 := by decide
theorem mk2 : mk 2 16 = 3689348814741910323 := by decide
theorem mk4 : mk 4 8 = 1085102592571150095 := by decide
def shr (v : Int64) (k : Int32) : Int64 := (v.toUInt64 >>> (k.toInt64.toUInt64 &&& Int64.toUInt64 63)).toInt64
def un (v : Int64) : Nat := v.toBitVec.toNat
theorem un_lt (v : Int64) : un v < 2 ^ 64 := v.toBitVec.isLt
theorem sh_k : ∀ k : Fin 64, (((nI k).toInt64.toUInt64 &&& Int64.toUInt64 63).toBitVec % 64) = BitVec.ofNat 64 k.val := by decide +kernel
theorem un_shr (v : Int64) {k : Nat} (hk : k < 64) : un (shr v (nI k)) = un v / 2 ^ k := by
  unfold un shr
  show (v.toBitVec >>> (((nI k).toInt64.toUInt64 &&& Int64.toUInt64 63).toBitVec % 64)).toNat = _
  rw [sh_k ⟨k, hk⟩]
  show (v.toBitVec >>> (BitVec.ofNat 64 k).toNat).toNat = _
  rw [BitVec.toNat_ofNat, Nat.mod_eq_of_lt (by omega), BitVec.toNat_ushiftRight, Nat.shiftRight_eq_div_pow]
theorem un_and (a b : Int64) : un (a &&& b) = un a &&& un b := by unfold un; rw [Int64.toBitVec_and, BitVec.toNat_and]
theorem un_add {a b : Int64} (h : un a + un b < 2 ^ 64) : un (a + b) = un a + un b := by
  unfold un at *
  rw [Int64.toBitVec_add, BitVec.toNat_add, Nat.mod_eq_of_lt h]
theorem un_sub {a b : Int64} (h : un b ≤ un a) : un (a - b) = un a - un b := by
  unfold un at *
  rw [Int64.toBitVec_sub, BitVec.toNat_sub_of_le h]
theorem dg2 {d0 d1 R : Nat} (h0 : d0 < 256) (h1 : d1 < 256) : (d0 + 256 * (d1 + 256 * R)) / 65536 = R := by omega
theorem dg4 {d0 d1 d2 d3 R : Nat} (h0 : d0 < 256) (h1 : d1 < 256) (h2 : d2 < 256) (h3 : d3 < 256) : (d0 + 256 * (d1 + 256 * (d2 + 256 * (d3 + 256 * R)))) / 4294967296 = R := by omega
theorem dg1 {d0 R : Nat} (h0 : d0 < 256) : (d0 + 256 * R) / 256 = R := by omega
theorem ad1 {a b A B : Nat} : (a + 256 * A) + (b + 256 * B) = (a + b) + 256 * (A + B) := by omega
theorem ad2 {a A b : Nat} : (a + 256 * A) + b = (a + b) + 256 * A := by omega
def D8 (c0 c1 c2 c3 c4 c5 c6 c7 : Nat) : Nat := c0 + 256 * (c1 + 256 * (c2 + 256 * (c3 + 256 * (c4 + 256 * (c5 + 256 * (c6 + 256 * c7))))))
theorem D_1 {c0 c1 c2 c3 c4 c5 c6 c7 C : Nat} (h0 : c0 < 256) (hC : C = D8 c0 c1 c2 c3 c4 c5 c6 c7) : C + C / 256 = D8 (c0 + c1) (c1 + c2) (c2 + c3) (c3 + c4) (c4 + c5) (c5 + c6) (c6 + c7) c7 := by
  unfold D8 at *
  rw [hC, dg1 h0, ad1, ad1, ad1, ad1, ad1, ad1, ad2]
theorem D_2 {c0 c1 c2 c3 c4 c5 c6 c7 C : Nat} (h0 : c0 < 256) (h1 : c1 < 256) (hC : C = D8 c0 c1 c2 c3 c4 c5 c6 c7) : C + C / 65536 = D8 (c0 + c2) (c1 + c3) (c2 + c4) (c3 + c5) (c4 + c6) (c5 + c7) c6 c7 := by
  unfold D8 at *
  rw [hC, dg2 h0 h1, ad1, ad1, ad1, ad1, ad1, ad2]
theorem D_4 {c0 c1 c2 c3 c4 c5 c6 c7 C : Nat} (h0 : c0 < 256) (h1 : c1 < 256) (h2 : c2 < 256) (h3 : c3 < 256) (hC : C = D8 c0 c1 c2 c3 c4 c5 c6 c7) : C + C / 4294967296 = D8 (c0 + c4) (c1 + c5) (c2 + c6) (c3 + c7) c4 c5 c6 c7 := by
  unfold D8 at *
  rw [hC, dg4 h0 h1 h2 h3, ad1, ad1, ad1, ad2]
theorem ub {a A M : Nat} (h : a ≤ 255) (hA : A < M) : a + 256 * A < 256 * M := by omega
theorem D_lt {c0 c1 c2 c3 c4 c5 c6 c7 : Nat} (h0 : c0 ≤ 255) (h1 : c1 ≤ 255) (h2 : c2 ≤ 255) (h3 : c3 ≤ 255) (h4 : c4 ≤ 255) (h5 : c5 ≤ 255) (h6 : c6 ≤ 255) (h7 : c7 < 256) : D8 c0 c1 c2 c3 c4 c5 c6 c7 < 18446744073709551616 := ub h0 (ub h1 (ub h2 (ub h3 (ub h4 (ub h5 (ub h6 h7))))))
theorem D_m {c0 c1 c2 c3 c4 c5 c6 c7 : Nat} (h0 : c0 < 128) : D8 c0 c1 c2 c3 c4 c5 c6 c7 % 128 = c0 := by
  unfold D8
  have : ∀ R, (c0 + 256 * R) % 128 = c0 := by intro R; omega
  exact this _
theorem fin_c {c0 c1 c2 c3 c4 c5 c6 c7 C : Nat} (h0 : c0 ≤ 8) (h1 : c1 ≤ 8) (h2 : c2 ≤ 8) (h3 : c3 ≤ 8) (h4 : c4 ≤ 8) (h5 : c5 ≤ 8) (h6 : c6 ≤ 8) (h7 : c7 ≤ 8) (hC : C = D8 c0 c1 c2 c3 c4 c5 c6 c7) :
    ((C + C / 256) + (C + C / 256) / 65536 + ((C + C / 256) + (C + C / 256) / 65536) / 4294967296) % 128 = c0 + (c1 + (c2 + (c3 + (c4 + (c5 + (c6 + c7)))))) ∧ ((C + C / 256) + (C + C / 256) / 65536 + ((C + C / 256) + (C + C / 256) / 65536) / 4294967296) < 18446744073709551616 := by
  have e1 := D_1 (by omega) hC
  have e2 := D_2 (by omega) (by omega) e1
  have e3 := D_4 (by omega) (by omega) (by omega) (by omega) e2
  rw [e3]
  exact ⟨by rw [D_m (by omega)]; omega, D_lt (by omega) (by omega) (by omega) (by omega) (by omega) (by omega) (by omega) (by omega)⟩
theorem f8 {C : Nat} (h : fM 8 8 8 C) : ∃ c0 c1 c2 c3 c4 c5 c6 c7 : Nat, (c0 ≤ 8 ∧ c1 ≤ 8 ∧ c2 ≤ 8 ∧ c3 ≤ 8 ∧ c4 ≤ 8 ∧ c5 ≤ 8 ∧ c6 ≤ 8 ∧ c7 ≤ 8) ∧ C = D8 c0 c1 c2 c3 c4 c5 c6 c7 ∧ sF 8 8 C = c0 + (c1 + (c2 + (c3 + (c4 + (c5 + (c6 + c7)))))) := by
  obtain ⟨h0, h1, h2, h3, h4, h5, h6, h7, h8⟩ := h
  have h8 : C / 2 ^ 8 / 2 ^ 8 / 2 ^ 8 / 2 ^ 8 / 2 ^ 8 / 2 ^ 8 / 2 ^ 8 / 2 ^ 8 = 0 := h8
  refine ⟨_, _, _, _, _, _, _, _, ⟨h0, h1, h2, h3, h4, h5, h6, h7⟩, ?_, rfl⟩
  have e : ∀ n, n = n % 2 ^ 8 + 256 * (n / 2 ^ 8) := by intro n; have : (2 : Nat) ^ 8 = 256 := rfl; omega
  have e7 := e (C / 2 ^ 8 / 2 ^ 8 / 2 ^ 8 / 2 ^ 8 / 2 ^ 8 / 2 ^ 8 / 2 ^ 8)
  rw [h8, Nat.mul_zero, Nat.add_zero] at e7
  unfold D8
  rw [← e7, ← e, ← e, ← e, ← e, ← e, ← e, ← e]
theorem fin_b {C : Nat} (h : fM 8 8 8 C) : ((C + C / 2 ^ 8) + (C + C / 2 ^ 8) / 2 ^ 16 + ((C + C / 2 ^ 8) + (C + C / 2 ^ 8) / 2 ^ 16) / 2 ^ 32) % 128 = sF 8 8 C ∧ ((C + C / 2 ^ 8) + (C + C / 2 ^ 8) / 2 ^ 16 + ((C + C / 2 ^ 8) + (C + C / 2 ^ 8) / 2 ^ 16) / 2 ^ 32) < 2 ^ 64 := by
  obtain ⟨c0, c1, c2, c3, c4, c5, c6, c7, ⟨h0, h1, h2, h3, h4, h5, h6, h7⟩, e, e2⟩ := f8 h
  rw [e2]
  exact fin_c h0 h1 h2 h3 h4 h5 h6 h7 e
theorem i32_t {v : Int64} : (v.toInt32).toBitVec.toNat = un v % 2 ^ 32 := by
  show (v.toBitVec.signExtend 32).toNat = v.toBitVec.toNat % 2 ^ 32
  rw [BitVec.signExtend_eq_setWidth_of_le _ (by omega), BitVec.toNat_setWidth]
theorem bitc_n (x : Int64) : bitc x = nI (sF 1 64 (un x)) := by
  have hx := un_lt x
  have m0 : fM 1 1 (2 * 32) (un x) := fM_lt _ _ hx rfl
  -- a
  have e1 : un (shr x 1 &&& 6148914691236517205) = (un x / 2) &&& mk 1 32 := by
    rw [un_and, show (1 : Int32) = nI 1 from rfl, un_shr x (by omega), mk1]
    rfl
  have s1 := st1 32 (un x) m0
  have ea : un (x - (shr x 1 &&& 6148914691236517205)) = fold2 1 32 (un x) := by
    rw [un_sub (by rw [e1]; omega), e1]
    omega
  have m1 : fM 2 2 (2 * 16) (fold2 1 32 (un x)) := fM_fold (by omega) 32 _ m0
  have c1 : sF 2 32 (fold2 1 32 (un x)) = sF 1 64 (un x) := sF_fold (by omega) 32 _
  generalize hA : x - (shr x 1 &&& 6148914691236517205) = a at ea
  generalize fold2 1 32 (un x) = A at ea m1 c1
  -- b
  have m2 : fM 4 4 (2 * 8) (fold2 2 16 A) := fM_fold (by omega) 16 _ m1
  have c2 : sF 4 16 (fold2 2 16 A) = sF 2 32 A := sF_fold (by omega) 16 _
  have l2 := lt_fM (by omega) _ _ m2
  have eb : un ((a &&& 3689348814741910323) + (shr a 2 &&& 3689348814741910323)) = fold2 2 16 A := by
    have g1 : un (a &&& 3689348814741910323) = A &&& mk 2 16 := by rw [un_and, ea, mk2]; rfl
    have g2 : un (shr a 2 &&& 3689348814741910323) = (A / 2 ^ 2) &&& mk 2 16 := by rw [un_and, show (2 : Int32) = nI 2 from rfl, un_shr a (by omega), ea, mk2]; rfl
    have : fold2 2 16 A = (A &&& mk 2 16) + ((A / 2 ^ 2) &&& mk 2 16) := rfl
    rw [un_add (by rw [g1, g2, ← this]; omega), g1, g2, this]
  generalize hB : (a &&& 3689348814741910323) + (shr a 2 &&& 3689348814741910323) = b at eb
  generalize fold2 2 16 A = B at eb m2 c2 l2
  -- c
  have m3 : fM 8 8 8 (fold2 4 8 B) := fM_fold (by omega) 8 _ m2
  have c3 : sF 8 8 (fold2 4 8 B) = sF 4 16 B := sF_fold (by omega) 8 _
  have s3 := st3 (w := 4) (M := 4) (by omega) 8 B m2
  have lB : B + B / 2 ^ 4 < 2 ^ 64 := by
    have : B % 2 ^ 4 ≤ 4 ∧ _ := m2
    have h15 : B / 2 ^ 60 ≤ 4 := by
      obtain ⟨-, -, -, -, -, -, -, -, -, -, -, -, -, -, -, z, z2⟩ := m2
      have z : B / 2 ^ 4 / 2 ^ 4 / 2 ^ 4 / 2 ^ 4 / 2 ^ 4 / 2 ^ 4 / 2 ^ 4 / 2 ^ 4 / 2 ^ 4 / 2 ^ 4 / 2 ^ 4 / 2 ^ 4 / 2 ^ 4 / 2 ^ 4 / 2 ^ 4 % 2 ^ 4 ≤ 4 := z
      omega
    omega
  have ec : un ((b + shr b 4) &&& 1085102592571150095) = fold2 4 8 B := by
    have g2 : un (shr b 4) = B / 2 ^ 4 := by rw [show (4 : Int32) = nI 4 from rfl, un_shr b (by omega), eb]
    rw [un_and, un_add (by rw [eb, g2]; omega), eb, g2, ← s3, mk4]
    rfl
  generalize hC : (b + shr b 4) &&& 1085102592571150095 = c at ec
  generalize fold2 4 8 B = C at ec m3 c3
  obtain ⟨f1, f2⟩ := fin_b m3
  have g8 : un (shr c 8) = C / 2 ^ 8 := by rw [show (8 : Int32) = nI 8 from rfl, un_shr c (by omega), ec]
  have ee : un (c + shr c 8) = C + C / 2 ^ 8 := by rw [un_add (by rw [ec, g8]; omega), ec, g8]
  generalize hE : c + shr c 8 = e at ee
  generalize C + C / 2 ^ 8 = E at ee f1 f2
  have g16 : un (shr e 16) = E / 2 ^ 16 := by rw [show (16 : Int32) = nI 16 from rfl, un_shr e (by omega), ee]
  have ef : un (e + shr e 16) = E + E / 2 ^ 16 := by rw [un_add (by rw [ee, g16]; omega), ee, g16]
  generalize hF : e + shr e 16 = f at ef
  generalize E + E / 2 ^ 16 = F at ef f1 f2
  have g32 : un (shr f 32) = F / 2 ^ 32 := by rw [show (32 : Int32) = nI 32 from rfl, un_shr f (by omega), ef]
  have eg : un (f + shr f 32) = F + F / 2 ^ 32 := by rw [un_add (by rw [ef, g32]; omega), ef, g32]
  have eB : bitc x = (f + shr f 32).toInt32 &&& 127 := by rw [← hF, ← hE, ← hC, ← hB, ← hA]; rfl
  rw [eB]
  apply Int32.toBitVec_inj.mp
  apply BitVec.eq_of_toNat_eq
  rw [Int32.toBitVec_and, BitVec.toNat_and, i32_t, eg]
  have e127 : (127 : Int32).toBitVec.toNat = 2 ^ 7 - 1 := by decide
  rw [e127, Nat.and_two_pow_sub_one_eq_mod, ← c1, ← c2, ← c3, ← f1]
  show _ = (BitVec.ofNat 32 ((F + F / 2 ^ 32) % 128)).toNat
  rw [BitVec.toNat_ofNat]
  omega
/-! bits are counted -/
def cn (f : Nat → Bool) : Nat → Nat
  | 0 => 0
  | k + 1 => cn f k + (if f k then 1 else 0)
theorem cn_s (f : Nat → Bool) : ∀ k, cn f (k + 1) = (if f 0 then 1 else 0) + cn (fun i => f (i + 1)) k := by
  intro k
  induction k with
  | zero => exact Nat.add_comm _ _
  | succ k ih =>
    show cn f (k + 1) + (if f (k + 1) then 1 else 0) = (if f 0 then 1 else 0) + (cn (fun i => f (i + 1)) k + (if f (k + 1) then 1 else 0))
    rw [ih]
    exact Nat.add_assoc _ _ _
theorem sF_cn : ∀ k A, sF 1 k A = cn (fun i => A.testBit i) k := by
  intro k
  induction k with
  | zero => intro A; rfl
  | succ k ih =>
    intro A
    rw [cn_s]
    show A % 2 ^ 1 + sF 1 k (A / 2 ^ 1) = _
    rw [ih, Nat.pow_one]
    have e : (fun i => (A / 2).testBit i) = (fun i => A.testBit (i + 1)) := by
      funext i; rw [Nat.testBit_div_two]
    rw [e, Nat.testBit_zero]
    have := Nat.mod_two_eq_zero_or_one A
    rcases this with h | h <;> rw [h] <;> rfl
def pc (x : Int64) : Nat := cn (bt x) 64
theorem bitc_pc (x : Int64) : bitc x = nI (pc x) := by
  rw [bitc_n, sF_cn]
  rfl
theorem cn_add {f g h : Nat → Bool} : ∀ k, (∀ i, i < k → f i = (g i || h i) ∧ (g i && h i) = false) → cn f k = cn g k + cn h k := by
  intro k
  induction k with
  | zero => intro _; rfl
  | succ k ih =>
    intro H
    have a := ih (fun i hi => H i (by omega))
    obtain ⟨b, c⟩ := H k (by omega)
    show cn f k + _ = (cn g k + _) + (cn h k + _)
    rw [a, b]
    clear a b
    cases hg : g k <;> cases hh : h k <;> rw [hg, hh] at c
    · rfl
    · show cn g k + cn h k + 1 = cn g k + 0 + (cn h k + 1); omega
    · show cn g k + cn h k + 1 = cn g k + 1 + (cn h k + 0); omega
    · cases c
theorem pc_split (z m : Int64) : pc z = pc (z &&& (m ^^^ -1)) + pc (z &&& m) := by
  apply cn_add
  intro i hi
  rw [bt_and, bt_and, bt_not _ hi]
  cases bt z i <;> cases bt m i <;> simp
theorem cn_0 {f : Nat → Bool} : ∀ k, (∀ i, i < k → f i = false) → cn f k = 0 := by
  intro k
  induction k with
  | zero => intro _; rfl
  | succ k ih =>
    intro H
    show cn f k + _ = 0
    rw [ih (fun i hi => H i (by omega)), H k (by omega)]
    rfl
theorem cn_1 {f : Nat → Bool} {s : Nat} : ∀ k, s < k → (∀ i, i < k → i ≠ s → f i = false) → cn f k = if f s then 1 else 0 := by
  intro k
  induction k with
  | zero => intro h; omega
  | succ k ih =>
    intro hs H
    show cn f k + _ = _
    by_cases e : s = k
    · subst e
      rw [cn_0 s (fun i hi => H i (by omega) (by omega)), Nat.zero_add]
    · rw [ih (by omega) (fun i hi hn => H i (by omega) hn), H k (by omega) (by omega)]
      rfl
theorem pc_le (x : Int64) : pc x ≤ 64 := by
  have : ∀ k, cn (bt x) k ≤ k := by
    intro k
    induction k with
    | zero => exact Nat.le_refl _
    | succ k ih => show cn (bt x) k + _ ≤ _; split <;> omega
  exact this 64
theorem bitc_eq (x y : Int64) : bitc x = bitc y ↔ pc x = pc y := by
  have h1 := pc_le x
  have h2 := pc_le y
  rw [bitc_pc, bitc_pc, nI_eq (by omega) (by omega)]
/-! sums -/
def sm (f : Nat → Nat) : Nat → Nat
  | 0 => 0
  | k + 1 => sm f k + f k
theorem sm_add (f g : Nat → Nat) : ∀ k, sm (fun i => f i + g i) k = sm f k + sm g k := by
  intro k
  induction k with
  | zero => rfl
  | succ k ih => show sm (fun i => f i + g i) k + (f k + g k) = (sm f k + f k) + (sm g k + g k); rw [ih]; omega
theorem sm_0 : ∀ k, sm (fun _ => 0) k = 0 := by
  intro k
  induction k with
  | zero => rfl
  | succ k ih => show sm _ k + 0 = 0; rw [ih]
theorem sm_swap (g : Nat → Nat → Nat) (n : Nat) : ∀ k, sm (fun m => sm (fun j => g m j) k) n = sm (fun j => sm (fun m => g m j) n) k := by
  intro k
  induction k with
  | zero => exact sm_0 n
  | succ k ih =>
    show sm (fun m => sm (fun j => g m j) k + g m k) n = sm (fun j => sm (fun m => g m j) n) k + sm (fun m => g m k) n
    rw [sm_add, ih]
theorem sm_one {a : Nat} : ∀ k, sm (fun m => if a = m then 1 else 0) k = if a < k then 1 else 0 := by
  intro k
  induction k with
  | zero => rfl
  | succ k ih =>
    show sm _ k + (if a = k then 1 else 0) = _
    rw [ih]
    split <;> split <;> split <;> omega
theorem sm_cg {f g : Nat → Nat} : ∀ k, (∀ i, i < k → f i = g i) → sm f k = sm g k := by
  intro k
  induction k with
  | zero => intro _; rfl
  | succ k ih => intro h; show sm f k + f k = sm g k + g k; rw [ih (fun i hi => h i (by omega)), h k (by omega)]
theorem sm_const : ∀ k, sm (fun _ => 1) k = k := by
  intro k
  induction k with
  | zero => rfl
  | succ k ih => show sm _ k + 1 = _; rw [ih]
theorem sm_ge {f : Nat → Nat} : ∀ k, (∀ i, i < k → 1 ≤ f i) → k ≤ sm f k ∧ (sm f k = k → ∀ i, i < k → f i = 1) := by
  intro k
  induction k with
  | zero => intro _; exact ⟨Nat.le_refl _, fun _ i hi => by omega⟩
  | succ k ih =>
    intro h
    obtain ⟨a, b⟩ := ih (fun i hi => h i (by omega))
    have c := h k (by omega)
    have e : sm f (k + 1) = sm f k + f k := rfl
    refine ⟨by omega, fun q i hi => ?_⟩
    by_cases z : i = k
    · subst z; omega
    · exact b (by omega) i (by omega)
theorem sm_le {f : Nat → Nat} : ∀ k, (∀ i, i < k → f i ≤ 1) → sm f k ≤ k ∧ (sm f k = k → ∀ i, i < k → f i = 1) := by
  intro k
  induction k with
  | zero => intro _; exact ⟨Nat.le_refl _, fun _ i hi => by omega⟩
  | succ k ih =>
    intro h
    obtain ⟨a, b⟩ := ih (fun i hi => h i (by omega))
    have c := h k (by omega)
    have e : sm f (k + 1) = sm f k + f k := rfl
    refine ⟨by omega, fun q i hi => ?_⟩
    by_cases z : i = k
    · subst z; omega
    · exact b (by omega) i (by omega)
def hits (w : Nat → Nat) (n m : Nat) : Nat := sm (fun j => if w j = m then 1 else 0) n
theorem hits_sum {w : Nat → Nat} {n : Nat} (h : ∀ j, j < n → w j < n) : sm (hits w n) n = n := by
  show sm (fun m => sm (fun j => if w j = m then 1 else 0) n) n = n
  rw [sm_swap]
  rw [sm_cg (g := fun _ => 1) n (fun j hj => by rw [sm_one, if_pos (h j hj)])]
  exact sm_const n
theorem hits_pos {w : Nat → Nat} {m : Nat} : ∀ n, (1 ≤ hits w n m ↔ ∃ j, j < n ∧ w j = m) := by
  intro n
  induction n with
  | zero => exact ⟨fun h => absurd h (by show ¬ 1 ≤ 0; omega), fun ⟨j, h, _⟩ => by omega⟩
  | succ n ih =>
    show 1 ≤ hits w n m + (if w n = m then 1 else 0) ↔ _
    constructor
    · intro h
      by_cases e : w n = m
      · exact ⟨n, by omega, e⟩
      · rw [if_neg e] at h
        obtain ⟨j, a, b⟩ := ih.mp h
        exact ⟨j, by omega, b⟩
    · rintro ⟨j, a, b⟩
      by_cases e : w n = m
      · rw [if_pos e]; omega
      · have : j ≠ n := fun z => e (by rw [← z]; exact b)
        have := ih.mpr ⟨j, by omega, b⟩
        omega
theorem hits_two {w : Nat → Nat} {m : Nat} : ∀ n, (hits w n m ≤ 1 ↔ ∀ j j', j < n → j' < n → w j = m → w j' = m → j = j') := by
  intro n
  induction n with
  | zero => exact ⟨fun _ j _ h => by omega, fun _ => by show 0 ≤ 1; omega⟩
  | succ n ih =>
    show hits w n m + (if w n = m then 1 else 0) ≤ 1 ↔ _
    constructor
    · intro h j j' hj hj' e e'
      by_cases z : w n = m
      · rw [if_pos z] at h
        have h0 : ¬ ∃ j, j < n ∧ w j = m := fun y => by have := (hits_pos n).mpr y; omega
        have a : j = n := Decidable.byContradiction fun y => h0 ⟨j, by omega, e⟩
        have b : j' = n := Decidable.byContradiction fun y => h0 ⟨j', by omega, e'⟩
        omega
      · rw [if_neg z] at h
        have a : j ≠ n := fun y => z (by rw [← y]; exact e)
        have b : j' ≠ n := fun y => z (by rw [← y]; exact e')
        exact ih.mp h j j' (by omega) (by omega) e e'
    · intro h
      have a := ih.mpr (fun j j' hj hj' => h j j' (by omega) (by omega))
      by_cases z : w n = m
      · rw [if_pos z]
        have : ¬ 1 ≤ hits w n m := fun y => by
          obtain ⟨j, p, q⟩ := (hits_pos n).mp y
          have := h j n (by omega) (by omega) q z
          omega
        omega
      · rw [if_neg z]; exact a
/-! orders -/
def inj (w : Nat → Nat) (n : Nat) : Prop := ∀ j j', j < n → j' < n → w j = w j' → j = j'
def onto (w : Nat → Nat) (n : Nat) : Prop := ∀ m, m < n → ∃ j, j < n ∧ w j = m
theorem inj_onto {w : Nat → Nat} {n : Nat} (h : ∀ j, j < n → w j < n) : inj w n ↔ onto w n := by
  have hs := hits_sum h
  constructor
  · intro hi m hm
    have := (sm_le n (fun m _ => (hits_two n).mpr (fun j j' a b c d => hi j j' a b (c.trans d.symm)))).2 hs m hm
    exact (hits_pos n).mp (by omega)
  · intro ho j j' hj hj' e
    have := (sm_ge n (fun m hm => (hits_pos n).mpr (ho m hm))).2 hs (w j') (h j' hj')
    exact (hits_two n).mp (by omega) j j' hj hj' e rfl
theorem bits_ex (b : Nat → Bool) : ∀ n, ∃ s, s < 2 ^ n ∧ ∀ j, j < n → s.testBit j = b j := by
  intro n
  induction n with
  | zero => exact ⟨0, by decide, fun j hj => by omega⟩
  | succ n ih =>
    obtain ⟨s, h1, h2⟩ := ih
    refine ⟨if b n then 2 ^ n + s else s, ?_, fun j hj => ?_⟩
    · rw [Nat.pow_succ]; split <;> omega
    · by_cases e : j = n
      · subst e
        cases hb : b j
        · show s.testBit j = false
          exact Nat.testBit_lt_two_pow h1
        · show (2 ^ j + s).testBit j = true
          rw [Nat.testBit_two_pow_add_eq, Nat.testBit_lt_two_pow h1]; rfl
      · cases hb : b n
        · exact h2 j (by omega)
        · show (2 ^ n + s).testBit j = b j
          rw [Nat.testBit_two_pow_add_gt (by omega)]
          exact h2 j (by omega)
theorem bits_eq {n s t : Nat} (hs : s < 2 ^ n) (ht : t < 2 ^ n) (h : ∀ j, j < n → s.testBit j = t.testBit j) : s = t := by
  apply Nat.eq_of_testBit_eq
  intro j
  by_cases hj : j < n
  · exact h j hj
  · have : 2 ^ n ≤ 2 ^ j := Nat.pow_le_pow_right (by omega) (by omega)
    rw [Nat.testBit_lt_two_pow (by omega), Nat.testBit_lt_two_pow (by omega)]
/-- a state of one cell and the state of the other that stands for it -/
def rel (w : Nat → Nat) (n s t : Nat) : Prop := s < 2 ^ n ∧ t < 2 ^ n ∧ ∀ j, j < n → t.testBit (w j) = s.testBit j
def GD (n : Nat) (x y : Int64) (w : Nat → Nat) : Prop := (∀ j, j < n → w j < n) ∧ inj w n ∧ ∀ s t, rel w n s t → bt x s = bt y t
def lx (n : Nat) (w w' : Nat → Nat) : Prop := ∃ k, k < n ∧ (∀ j, j < k → w j = w' j) ∧ w k < w' k
def LG (n : Nat) (x y : Int64) (w : Nat → Nat) : Prop := GD n x y w ∧ ∀ w', GD n x y w' → ¬ lx n w' w
theorem lx_tri (w w' : Nat → Nat) : ∀ n, (∀ j, j < n → w j = w' j) ∨ lx n w w' ∨ lx n w' w := by
  intro n
  induction n with
  | zero => exact Or.inl (fun j hj => by omega)
  | succ n ih =>
    rcases ih with h | ⟨k, a, b, c⟩ | ⟨k, a, b, c⟩
    · rcases Nat.lt_trichotomy (w n) (w' n) with z | z | z
      · exact Or.inr (Or.inl ⟨n, by omega, h, z⟩)
      · exact Or.inl (fun j hj => by
          by_cases e : j = n
          · subst e; exact z
          · exact h j (by omega))
      · exact Or.inr (Or.inr ⟨n, by omega, fun j hj => (h j hj).symm, z⟩)
    · exact Or.inr (Or.inl ⟨k, by omega, b, c⟩)
    · exact Or.inr (Or.inr ⟨k, by omega, b, c⟩)
theorem LG_uq {n : Nat} {x y : Int64} {w w' : Nat → Nat} (h : LG n x y w) (h' : LG n x y w') : ∀ j, j < n → w j = w' j := by
  rcases lx_tri w w' n with z | z | z
  · exact z
  · exact absurd z (h'.2 w h.1)
  · exact absurd z (h.2 w' h'.1)
theorem rel_ex {w : Nat → Nat} {n : Nat} (h1 : ∀ j, j < n → w j < n) (h2 : inj w n) (b : Nat → Bool) : ∃ t, t < 2 ^ n ∧ ∀ j, j < n → t.testBit (w j) = b j := by
  have ho := (inj_onto h1).mp h2
  obtain ⟨t, a, c⟩ := bits_ex (fun m => if h : m < n then b (Classical.choose (ho m h)) else false) n
  refine ⟨t, a, fun j hj => ?_⟩
  rw [c (w j) (h1 j hj)]
  show (if h : w j < n then b (Classical.choose (ho (w j) h)) else false) = b j
  rw [dif_pos (h1 j hj)]
  have q := Classical.choose_spec (ho (w j) (h1 j hj))
  rw [h2 _ _ q.1 hj q.2]
/-- the parts of a truth: at level k the part i -/
def pt (w : Nat → Nat) (z : Int64) : Nat → Nat → Int64
  | 0, _ => z
  | k + 1, i => if i % 2 = 0 then pt w z k (i / 2) &&& (xN (w k) ^^^ -1) else pt w z k (i / 2) &&& xN (w k)
theorem pt_cg {w w' : Nat → Nat} {z : Int64} : ∀ k i, (∀ j, j < k → w j = w' j) → pt w z k i = pt w' z k i := by
  intro k
  induction k with
  | zero => intro i _; rfl
  | succ k ih =>
    intro i h
    unfold pt
    rw [ih _ (fun j hj => h j (by omega)), h k (by omega)]
theorem pt_0 {w : Nat → Nat} {z : Int64} {k i : Nat} : pt w z (k + 1) (2 * i) = pt w z k i &&& (xN (w k) ^^^ -1) := by
  show (if 2 * i % 2 = 0 then _ else _) = _
  rw [if_pos (by omega), show 2 * i / 2 = i by omega]
theorem pt_1 {w : Nat → Nat} {z : Int64} {k i : Nat} : pt w z (k + 1) (2 * i + 1) = pt w z k i &&& xN (w k) := by
  show (if (2 * i + 1) % 2 = 0 then _ else _) = _
  rw [if_neg (by omega), show (2 * i + 1) / 2 = i by omega]
theorem pt_pc {w : Nat → Nat} {z : Int64} {k i : Nat} : pc (pt w z k i) = pc (pt w z (k + 1) (2 * i)) + pc (pt w z (k + 1) (2 * i + 1)) := by
  rw [pt_0, pt_1]; exact pc_split _ _
def ck (x y : Int64) (w : Nat → Nat) (k : Nat) : Prop := ∀ i, i < 2 ^ k → pc (pt id x (k + 1) (2 * i + 1)) = pc (pt w y (k + 1) (2 * i + 1))
def aC (x y : Int64) (w : Nat → Nat) (k : Nat) : Prop := ∀ i, i < 2 ^ k → pc (pt id x k i) = pc (pt w y k i)
theorem aC_up {x y : Int64} {w : Nat → Nat} {k : Nat} (h : aC x y w k) (hc : ck x y w k) : aC x y w (k + 1) := by
  intro i hi
  rw [Nat.pow_succ] at hi
  have a := h (i / 2) (by omega)
  have c := hc (i / 2) (by omega)
  have p1 := pt_pc (w := id) (z := x) (k := k) (i := i / 2)
  have p2 := pt_pc (w := w) (z := y) (k := k) (i := i / 2)
  rcases Nat.mod_two_eq_zero_or_one i with z | z
  · rw [show i = 2 * (i / 2) by omega]
    omega
  · rw [show i = 2 * (i / 2) + 1 by omega]
    exact c
theorem aC_dn {x y : Int64} {w : Nat → Nat} {k : Nat} (h : aC x y w (k + 1)) : aC x y w k ∧ ck x y w k := by
  constructor
  · intro i hi
    rw [pt_pc, pt_pc (w := w), h (2 * i) (by rw [Nat.pow_succ]; omega), h (2 * i + 1) (by rw [Nat.pow_succ]; omega)]
  · intro i hi
    exact h (2 * i + 1) (by rw [Nat.pow_succ]; omega)
theorem pt_bt {w : Nat → Nat} {z : Int64} {s : Nat} (hs : s < 64) : ∀ k i, (∀ j, j < k → w j < 6) → (bt (pt w z k i) s = true ↔ bt z s = true ∧ ∀ j, j < k → s.testBit (w j) = i.testBit (k - 1 - j)) := by
  intro k
  induction k with
  | zero => intro i _; exact ⟨fun h => ⟨h, fun j hj => by omega⟩, fun h => h.1⟩
  | succ k ih =>
    intro i hw
    have I := ih (i / 2) (fun j hj => hw j (by omega))
    have e : bt (pt w z (k + 1) i) s = (bt (pt w z k (i / 2)) s && (s.testBit (w k) == i.testBit 0)) := by
      have hx := bt_xN ⟨w k, hw k (by omega)⟩ ⟨s, hs⟩
      have hx : bt (xN (w k)) s = s.testBit (w k) := hx
      rw [Nat.testBit_zero]
      rcases Nat.mod_two_eq_zero_or_one i with y | y
      · rw [show i = 2 * (i / 2) by omega, pt_0, bt_and, bt_not _ hs, hx, show 2 * (i / 2) / 2 = i / 2 by omega, show 2 * (i / 2) % 2 = 0 by omega]
        cases s.testBit (w k) <;> simp
      · rw [show i = 2 * (i / 2) + 1 by omega, pt_1, bt_and, hx, show (2 * (i / 2) + 1) / 2 = i / 2 by omega, show (2 * (i / 2) + 1) % 2 = 1 by omega]
        cases s.testBit (w k) <;> simp
    rw [e, Bool.and_eq_true, I, beq_iff_eq]
    constructor
    · rintro ⟨⟨a, b⟩, c⟩
      refine ⟨a, fun j hj => ?_⟩
      by_cases y : j = k
      · subst y; rw [c]; congr 1; omega
      · rw [b j (by omega), Nat.testBit_div_two]; congr 1; omega
    · rintro ⟨a, b⟩
      refine ⟨⟨a, fun j hj => ?_⟩, ?_⟩
      · rw [b j (by omega), Nat.testBit_div_two]; congr 1; omega
      · rw [b k (by omega)]; congr 1; omega
/-- a leaf has at most one state -/
theorem leaf {w : Nat → Nat} {z : Int64} {n i t : Nat} (hn : n ≤ 6) (hz : ∀ s, 2 ^ n ≤ s → bt z s = false) (h1 : ∀ j, j < n → w j < n) (h2 : inj w n) (ht : t < 2 ^ n) (hb : ∀ j, j < n → t.testBit (w j) = i.testBit (n - 1 - j)) : pc (pt w z n i) = if bt z t then 1 else 0 := by
  have p6 : 2 ^ n ≤ 64 := Nat.pow_le_pow_right (n := 2) (by omega) hn
  have ho := (inj_onto h1).mp h2
  unfold pc
  rw [cn_1 (s := t) 64 (by omega)]
  · have := pt_bt (w := w) (z := z) (s := t) (by omega) n i (fun j hj => by have := h1 j hj; omega)
    cases e : bt z t
    · cases e2 : bt (pt w z n i) t
      · rfl
      · rw [(this.mp e2).1] at e; cases e
    · rw [this.mpr ⟨e, hb⟩]
  · intro s hs hne
    cases e : bt (pt w z n i) s
    · rfl
    · obtain ⟨a, b⟩ := (pt_bt (w := w) (z := z) hs n i (fun j hj => by have := h1 j hj; omega)).mp e
      have hs2 : s < 2 ^ n := by
        rcases Nat.lt_or_ge s (2 ^ n) with y | y
        · exact y
        · rw [hz s y] at a; cases a
      exact absurd (bits_eq hs2 ht (fun m hm => by
        obtain ⟨j, hj, rfl⟩ := ho m hm
        rw [b j hj, hb j hj])) hne
theorem GD_aC {n : Nat} {x y : Int64} {w : Nat → Nat} (hn : n ≤ 6) (hx : ∀ s, 2 ^ n ≤ s → bt x s = false) (hy : ∀ s, 2 ^ n ≤ s → bt y s = false) (h1 : ∀ j, j < n → w j < n) (h2 : inj w n) : GD n x y w ↔ aC x y w n := by
  constructor
  · rintro ⟨_, _, h⟩ i hi
    obtain ⟨s, s1, s2⟩ := bits_ex (fun j => i.testBit (n - 1 - j)) n
    obtain ⟨t, t1, t2⟩ := rel_ex h1 h2 (fun j => i.testBit (n - 1 - j))
    rw [leaf (w := id) hn hx (fun j hj => hj) (fun j j' _ _ e => e) s1 s2, leaf hn hy h1 h2 t1 t2, h s t ⟨s1, t1, fun j hj => by rw [t2 j hj, s2 j hj]⟩]
  · intro h
    refine ⟨h1, h2, fun s t hr => ?_⟩
    obtain ⟨s1, t1, e⟩ := hr
    obtain ⟨i, i1, i2⟩ := bits_ex (fun j => s.testBit (n - 1 - j)) n
    have b : ∀ j, j < n → s.testBit j = i.testBit (n - 1 - j) := fun j hj => by
      rw [i2 (n - 1 - j) (by omega)]
      show _ = s.testBit (n - 1 - (n - 1 - j))
      congr 1; omega
    have := h i i1
    rw [leaf (w := id) hn hx (fun j hj => hj) (fun j j' _ _ e => e) s1 b, leaf hn hy h1 h2 t1 (fun j hj => by rw [e j hj, b j hj])] at this
    cases h3 : bt x s <;> cases h4 : bt y t <;> rw [h3, h4] at this <;> first | rfl | exact absurd this (by decide)
theorem aC_ck {x y : Int64} {w : Nat → Nat} : ∀ n, aC x y w n ↔ (aC x y w 0 ∧ ∀ k, k < n → ck x y w k) := by
  intro n
  induction n with
  | zero => exact ⟨fun h => ⟨h, fun k hk => by omega⟩, fun h => h.1⟩
  | succ n ih =>
    constructor
    · intro h
      obtain ⟨a, b⟩ := aC_dn h
      obtain ⟨c, e⟩ := ih.mp a
      refine ⟨c, fun k hk => ?_⟩
      by_cases z : k = n
      · subst z; exact b
      · exact e k (by omega)
    · rintro ⟨a, b⟩
      exact aC_up (ih.mpr ⟨a, fun k hk => b k (by omega)⟩) (b n (by omega))
end Ord
