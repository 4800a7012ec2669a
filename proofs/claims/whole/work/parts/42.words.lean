section Xs
theorem xs_s {P : xH} {a : Nat} {e : xE} : (xs P a e).1 a = some e := by simp [xs, va_up]
theorem xs_n {P : xH} {a b : Nat} {e : xE} {o : Option xE} (h : b ≠ a) (hb : P.1 b = o) : (xs P a e).1 b = o := by simp [xs, va_up, h, hb]
theorem xs_xs {P : xH} {a : Nat} {e e' : xE} : xs (xs P a e) a e' = xs P a e' := by
  unfold xs
  refine Prod.ext ?_ rfl
  funext q
  by_cases h : q = a <;> simp [va_up, h]
theorem xs_id {P : xH} {a : Nat} {e : xE} (h : P.1 a = some e) : xs P a e = P := by
  unfold xs
  refine Prod.ext ?_ rfl
  funext q
  by_cases h9 : q = a
  · subst h9; simp [va_up, h]
  · simp [va_up, h9]
end Xs
section Tok
/-- blanks -/
def skp (t : Nat → Int32) : Nat → Nat → Nat
  | 0, p => p
  | m + 1, p => if t p = 32 ∨ t p = 10 then skp t m (p + 1) else p
def dgs (t : Nat → Int32) : Nat → Nat → Nat
  | 0, p => p
  | m + 1, p => if bDg (t p) = 0 then p else dgs t m (p + 1)
def lts (t : Nat → Int32) : Nat → Nat → Nat
  | 0, p => p
  | m + 1, p => if bLt (t p) = 0 ∧ bDg (t p) = 0 then p else lts t m (p + 1)
def tkS (t : Nat → Int32) (n p : Nat) : Nat := skp t (n - p) p
def tkE (t : Nat → Int32) (n s : Nat) : Nat := if n ≤ s then s else if ¬ bDg (t s) = 0 then dgs t (n - s) s else if ¬ bLt (t s) = 0 then lts t (n - s) s else s + 1
def tkK (t : Nat → Int32) (n s e : Nat) : Nat := if n ≤ s then 0 else if ¬ bDg (t s) = 0 then (if 6 < e - s then 4 else 2) else if ¬ bLt (t s) = 0 then (if 8 < e - s then 4 else 1) else 3
theorem skp_le (t : Nat → Int32) : ∀ m p, p ≤ skp t m p ∧ skp t m p ≤ p + m := by
  intro m
  induction m with
  | zero => intro p; simp [skp]
  | succ m ih =>
    intro p
    have := ih (p + 1)
    unfold skp
    split <;> omega
theorem dgs_le (t : Nat → Int32) : ∀ m p, p ≤ dgs t m p ∧ dgs t m p ≤ p + m := by
  intro m
  induction m with
  | zero => intro p; simp [dgs]
  | succ m ih =>
    intro p
    have := ih (p + 1)
    unfold dgs
    split <;> omega
theorem lts_le (t : Nat → Int32) : ∀ m p, p ≤ lts t m p ∧ lts t m p ≤ p + m := by
  intro m
  induction m with
  | zero => intro p; simp [lts]
  | succ m ih =>
    intro p
    have := ih (p + 1)
    unfold lts
    split <;> omega
theorem tkS_le (t : Nat → Int32) {n p : Nat} (h : p ≤ n) : p ≤ tkS t n p ∧ tkS t n p ≤ n := by
  have := skp_le t (n - p) p
  unfold tkS; omega
theorem tkE_le (t : Nat → Int32) {n s : Nat} (h : s ≤ n) : s ≤ tkE t n s ∧ tkE t n s ≤ n := by
  have h1 := dgs_le t (n - s) s
  have h2 := lts_le t (n - s) s
  unfold tkE
  split
  · omega
  · split
    · omega
    · split <;> omega
end Tok
section Words
variable {w : xWd} {d : Nat} {P : xH} {Q : Outcome → xH → Prop}
/-- the object Words -/
abbrev wO (ta n : Nat) (s e k : Int32) : xE := xO 7 [.ref ta, .int (nI n), .int s, .int e, .int k]


theorem l_skp {wa ta n m0 : Nat} {t : Nat → Int32} {e k : Int32} (hT : P.1 ta = some (xA 2 m0 t)) (hne : ta ≠ wa) (hn : n ≤ m0) (hm : m0 < 2 ^ 31) : ∀ m p, p + m = n → X w mX9_step d Q 60 [some (.ref wa)] [] (xs P wa (wO ta n (nI (skp t m p)) e k)) → X w mX9_step d Q 8 [some (.ref wa)] [] (xs P wa (wO ta n (nI p) e k)) := by
  intro m
  induction m with
  | zero =>
    intro p hp K
    refine sX9_step_8 (sX9_step_9 xs_s rfl (sX9_step_12 (sX9_step_13 xs_s rfl (sX9_step_16 (fun _ => K) (fun h => absurd (nI_le (by omega) (by omega)) h)))))
  | succ m ih =>
    intro p hp K
    refine sX9_step_8 (sX9_step_9 xs_s rfl (sX9_step_12 (sX9_step_13 xs_s rfl (sX9_step_16 (fun h => absurd h (nI_ge (by omega) (by omega))) (fun _ => ?_)))))
    refine sX9_step_19 (sX9_step_20 xs_s rfl (sX9_step_23 (sX9_step_24 xs_s rfl (sX9_step_27 (xs_n hne hT) (vp_in_nI (by omega) hm) ?_))))
    rw [nI_clamp (by omega)]
    have G : (t p = 32 ∨ t p = 10) → X w mX9_step d Q 47 [some (.ref wa)] [] (xs P wa (wO ta n (nI p) e k)) := by
      intro hb
      refine sX9_step_47 (sX9_step_48 rfl (sX9_step_49 xs_s rfl (sX9_step_52 (sX9_step_53 (sX9_step_54 xs_s (ble rfl) ?_)))))
      rw [xs_xs, nI_1]
      refine sX9_step_57 ?_
      refine ih (p + 1) (by omega) ?_
      rw [show skp t m (p + 1) = skp t (m + 1) p by simp [skp, hb]]
      exact K
    refine sX9_step_28 (sX9_step_30 (fun h => G (Or.inl h)) (fun h1 => ?_))
    refine sX9_step_33 (sX9_step_34 xs_s rfl (sX9_step_37 (sX9_step_38 xs_s rfl (sX9_step_41 (xs_n hne hT) (vp_in_nI (by omega) hm) ?_))))
    rw [nI_clamp (by omega)]
    refine sX9_step_42 (sX9_step_44 (fun h => ?_) (fun h => G (Or.inr h)))
    rw [show skp t (m + 1) p = p by simp [skp, h1, h]] at K
    exact K
theorem l_dgs {wa ta n m0 : Nat} {t : Nat → Int32} {s k : Int32} (hT : P.1 ta = some (xA 2 m0 t)) (hne : ta ≠ wa) (hn : n ≤ m0) (hm : m0 < 2 ^ 31) : ∀ m p, p + m = n → X w mX9_step (d + 1) Q 141 [some (.ref wa)] [] (xs P wa (wO ta n s (nI (dgs t m p)) k)) → X w mX9_step (d + 1) Q 102 [some (.ref wa)] [] (xs P wa (wO ta n s (nI p) k)) := by
  intro m
  induction m with
  | zero =>
    intro p hp K
    refine sX9_step_102 (sX9_step_103 xs_s rfl (sX9_step_106 (sX9_step_107 xs_s rfl (sX9_step_110 (fun _ => K) (fun h => absurd (nI_le (by omega) (by omega)) h)))))
  | succ m ih =>
    intro p hp K
    refine sX9_step_102 (sX9_step_103 xs_s rfl (sX9_step_106 (sX9_step_107 xs_s rfl (sX9_step_110 (fun h => absurd h (nI_ge (by omega) (by omega))) (fun _ => ?_)))))
    refine sX9_step_113 (sX9_step_114 xs_s rfl (sX9_step_117 (sX9_step_118 xs_s rfl (sX9_step_121 (xs_n hne hT) (vp_in_nI (by omega) hm) ?_))))
    rw [nI_clamp (by omega)]
    refine sX9_step_122 (ble rfl) (c_isDigit _) (sX9_step_125 (fun h => ?_) (fun h => ?_))
    · rw [show dgs t (m + 1) p = p by simp [dgs, h]] at K
      exact K
    · refine sX9_step_128 (sX9_step_129 rfl (sX9_step_130 xs_s rfl (sX9_step_133 (sX9_step_134 (sX9_step_135 xs_s (ble rfl) ?_)))))
      rw [xs_xs, nI_1]
      refine sX9_step_138 ?_
      refine ih (p + 1) (by omega) ?_
      rw [show dgs t m (p + 1) = dgs t (m + 1) p by simp [dgs, h]]
      exact K
theorem l_lts {wa ta n m0 : Nat} {t : Nat → Int32} {s k : Int32} (hT : P.1 ta = some (xA 2 m0 t)) (hne : ta ≠ wa) (hn : n ≤ m0) (hm : m0 < 2 ^ 31) : ∀ m p, p + m = n → X w mX9_step (d + 1) Q 236 [some (.ref wa)] [] (xs P wa (wO ta n s (nI (lts t m p)) k)) → X w mX9_step (d + 1) Q 182 [some (.ref wa)] [] (xs P wa (wO ta n s (nI p) k)) := by
  intro m
  induction m with
  | zero =>
    intro p hp K
    refine sX9_step_182 (sX9_step_183 xs_s rfl (sX9_step_186 (sX9_step_187 xs_s rfl (sX9_step_190 (fun _ => K) (fun h => absurd (nI_le (by omega) (by omega)) h)))))
  | succ m ih =>
    intro p hp K
    refine sX9_step_182 (sX9_step_183 xs_s rfl (sX9_step_186 (sX9_step_187 xs_s rfl (sX9_step_190 (fun h => absurd h (nI_ge (by omega) (by omega))) (fun _ => ?_)))))
    refine sX9_step_193 (sX9_step_194 xs_s rfl (sX9_step_197 (sX9_step_198 xs_s rfl (sX9_step_201 (xs_n hne hT) (vp_in_nI (by omega) hm) ?_))))
    rw [nI_clamp (by omega)]
    have G : ¬ (bLt (t p) = 0 ∧ bDg (t p) = 0) → X w mX9_step (d + 1) Q 223 [some (.ref wa)] [] (xs P wa (wO ta n s (nI p) k)) := by
      intro hb
      refine sX9_step_223 (sX9_step_224 rfl (sX9_step_225 xs_s rfl (sX9_step_228 (sX9_step_229 (sX9_step_230 xs_s (ble rfl) ?_)))))
      rw [xs_xs, nI_1]
      refine sX9_step_233 ?_
      refine ih (p + 1) (by omega) ?_
      rw [show lts t m (p + 1) = lts t (m + 1) p by simp only [lts, if_neg hb]]
      exact K
    refine sX9_step_202 (ble rfl) (c_isLetter _) (sX9_step_205 (fun h => G (fun q => h q.1)) (fun h1 => ?_))
    refine sX9_step_208 (sX9_step_209 xs_s rfl (sX9_step_212 (sX9_step_213 xs_s rfl (sX9_step_216 (xs_n hne hT) (vp_in_nI (by omega) hm) ?_))))
    rw [nI_clamp (by omega)]
    refine sX9_step_217 (ble rfl) (c_isDigit _) (sX9_step_220 (fun h => ?_) (fun h => G (fun q => h q.2)))
    rw [show lts t (m + 1) p = p by simp [lts, h1, h]] at K
    exact K
theorem nI_sub_le {a b c : Nat} (h : b ≤ a) (ha : a < 2 ^ 31) (hc : c < 2 ^ 31) : nI a - nI b ≤ nI c ↔ a - b ≤ c := by
  rw [pk_sub h, nI_leI (by omega) hc]
/-- step: the next word -/
theorem c_step {wa ta n m0 p : Nat} {t : Nat → Int32} {s0 k0 : Int32} (hW : P.1 wa = some (wO ta n s0 (nI p) k0)) (hT : P.1 ta = some (xA 2 m0 t)) (hn : n ≤ m0) (hm : m0 < 2 ^ 31) (hp : p ≤ n) :
    xC w (d + 1) mX9_step [.ref wa] P (xRet none (xs P wa (wO ta n (nI (tkS t n p)) (nI (tkE t n (tkS t n p))) (nI (tkK t n (tkS t n p) (tkE t n (tkS t n p))))))) := by
  have hne : ta ≠ wa := by rintro rfl; rw [hT] at hW; cases hW
  obtain ⟨h1, h2⟩ := tkS_le t hp
  obtain ⟨h3, h4⟩ := tkE_le t h2
  refine xC_of (by decide) (ble rfl) (ls := [some (.ref wa)]) rfl ?_
  refine sX9_step_0 (sX9_step_1 (sX9_step_2 hW rfl (sX9_step_5 hW (ble rfl) ?_)))
  refine l_skp hT hne hn hm (n - p) p (by omega) ?_
  show X w mX9_step (d + 1) _ 60 [some (.ref wa)] [] (xs P wa (wO ta n (nI (tkS t n p)) (nI p) k0))
  generalize tkS t n p = s at h1 h2 h3 h4
  refine sX9_step_60 (sX9_step_61 (sX9_step_62 xs_s rfl (sX9_step_65 xs_s (ble rfl) ?_)))
  rw [xs_xs]
  refine sX9_step_68 (sX9_step_69 xs_s rfl (sX9_step_72 (sX9_step_73 xs_s rfl (sX9_step_76 (fun h => ?_) (fun h => ?_)))))
  · have hlt : s < n := by
      rcases Nat.lt_or_ge s n with h9 | h9
      · exact h9
      · exact absurd h (nI_nlt h9 (by omega))
    refine sX9_step_87 (sX9_step_88 xs_s rfl (sX9_step_91 (sX9_step_92 xs_s rfl (sX9_step_95 (xs_n hne hT) (vp_in_nI (by omega) hm) ?_))))
    rw [nI_clamp (by omega)]
    refine sX9_step_96 (ble rfl) (c_isDigit _) (sX9_step_99 (fun hd => ?_) (fun hd => ?_))
    · refine sX9_step_167 (sX9_step_168 xs_s rfl (sX9_step_171 (sX9_step_172 xs_s rfl (sX9_step_175 (xs_n hne hT) (vp_in_nI (by omega) hm) ?_))))
      rw [nI_clamp (by omega)]
      refine sX9_step_176 (ble rfl) (c_isLetter _) (sX9_step_179 (fun hl => ?_) (fun hl => ?_))
      · refine sX9_step_262 (sX9_step_263 rfl (sX9_step_264 xs_s rfl (sX9_step_267 (sX9_step_268 (sX9_step_269 xs_s (ble rfl) ?_)))))
        rw [xs_xs]
        refine sX9_step_272 (sX9_step_273 (sX9_step_274 xs_s (ble rfl) ?_))
        rw [xs_xs, nI_1]
        refine sX9_step_277 ⟨rfl, ?_⟩
        have e1 : tkE t n s = s + 1 := by simp [tkE, hd, hl]; omega
        have e2 : tkK t n s (s + 1) = 3 := by simp [tkK, hd, hl]; omega
        rw [e1, e2]; rfl
      · refine l_lts hT hne hn hm (n - s) s (by omega) ?_
        have e1 : tkE t n s = lts t (n - s) s := by simp [tkE, hd, hl]; omega
        rw [← e1]
        refine sX9_step_236 (sX9_step_237 (sX9_step_238 xs_s rfl (sX9_step_241 (sX9_step_242 xs_s rfl (sX9_step_245 (sX9_step_246 (sX9_step_248 (fun h9 => ?_) (fun h9 => ?_))))))))
        · refine sX9_step_255 (sX9_step_256 xs_s (ble rfl) ?_)
          rw [xs_xs]
          refine sX9_step_259 (sX9_step_277 ⟨rfl, ?_⟩)
          have e2 : tkK t n s (tkE t n s) = 1 := by
            have := (nI_sub_le (c := 8) h3 (by omega) (by omega)).mp h9
            unfold tkK; rw [if_neg (by omega : ¬ n ≤ s), if_neg (fun q => q hd), if_pos hl, if_neg (by omega)]
          rw [e2]; rfl
        · refine sX9_step_251 (sX9_step_252 (sX9_step_256 xs_s (ble rfl) ?_))
          rw [xs_xs]
          refine sX9_step_259 (sX9_step_277 ⟨rfl, ?_⟩)
          have e2 : tkK t n s (tkE t n s) = 4 := by
            have := (not_congr (nI_sub_le (c := 8) h3 (by omega) (by omega))).mp h9
            unfold tkK; rw [if_neg (by omega : ¬ n ≤ s), if_neg (fun q => q hd), if_pos hl, if_pos (by omega)]
          rw [e2]; rfl
    · refine l_dgs hT hne hn hm (n - s) s (by omega) ?_
      have e1 : tkE t n s = dgs t (n - s) s := by simp [tkE, hd]; omega
      rw [← e1]
      refine sX9_step_141 (sX9_step_142 (sX9_step_143 xs_s rfl (sX9_step_146 (sX9_step_147 xs_s rfl (sX9_step_150 (sX9_step_151 (sX9_step_153 (fun h9 => ?_) (fun h9 => ?_))))))))
      · refine sX9_step_160 (sX9_step_161 xs_s (ble rfl) ?_)
        rw [xs_xs]
        refine sX9_step_164 (sX9_step_277 ⟨rfl, ?_⟩)
        have e2 : tkK t n s (tkE t n s) = 2 := by
          have := (nI_sub_le (c := 6) h3 (by omega) (by omega)).mp h9
          unfold tkK; rw [if_neg (by omega : ¬ n ≤ s), if_pos hd, if_neg (by omega)]
        rw [e2]; rfl
      · refine sX9_step_156 (sX9_step_157 (sX9_step_161 xs_s (ble rfl) ?_))
        rw [xs_xs]
        refine sX9_step_164 (sX9_step_277 ⟨rfl, ?_⟩)
        have e2 : tkK t n s (tkE t n s) = 4 := by
          have := (not_congr (nI_sub_le (c := 6) h3 (by omega) (by omega))).mp h9
          unfold tkK; rw [if_neg (by omega : ¬ n ≤ s), if_pos hd, if_pos (by omega)]
        rw [e2]; rfl
  · have hge : n ≤ s := by
      rcases Nat.lt_or_ge s n with h9 | h9
      · exact absurd (nI_lt h9 (by omega)) h
      · exact h9
    refine sX9_step_79 (sX9_step_80 (sX9_step_81 xs_s (ble rfl) ?_))
    rw [xs_xs]
    refine sX9_step_84 (sX9_step_277 ⟨rfl, ?_⟩)
    have e1 : tkE t n s = s := by simp [tkE, hge]
    have e2 : tkK t n s s = 0 := by simp [tkK, hge]
    rw [e1, e2]; rfl
end Words
