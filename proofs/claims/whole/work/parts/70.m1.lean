section M1
variable {w : xWd} {d o : Nat} {F : mF}
/-- the fields of the word: start, end, name, number, kind -/
def tk4 (F : mF) (s e : Int32) (nm : Int64) (nu k : Int32) : mF := (fun j => if j = 23 then s else if j = 24 then e else if j = 27 then nu else if j = 25 then k else F.1 j, nm, F.2.2)
theorem tk4_id (F : mF) : tk4 F (F.s 23) (F.s 24) F.nm (F.s 27) (F.s 25) = F := by
  refine Prod.ext (funext fun j => ?_) rfl
  show (if j = 23 then F.1 23 else if j = 24 then F.1 24 else if j = 27 then F.1 27 else if j = 25 then F.1 25 else F.1 j) = F.1 j
  split
  · subst_vars; rfl
  · split
    · subst_vars; rfl
    · split
      · subst_vars; rfl
      · split
        · subst_vars; rfl
        · rfl
variable {s e nu k v : Int32} {nm x : Int64}
theorem tk4_s : (tk4 F s e nm nu k).uS 23 v = tk4 F v e nm nu k := by
  refine Prod.ext (funext fun j => ?_) rfl
  show (if j = 23 then v else (if j = 23 then s else _)) = (if j = 23 then v else _)
  split <;> rfl
theorem tk4_e : (tk4 F s e nm nu k).uS 24 v = tk4 F s v nm nu k := by
  refine Prod.ext (funext fun j => ?_) rfl
  show (if j = 24 then v else (if j = 23 then s else (if j = 24 then e else _))) = (if j = 23 then s else (if j = 24 then v else _))
  split
  · subst_vars; rfl
  · rfl
theorem tk4_nu : (tk4 F s e nm nu k).uS 27 v = tk4 F s e nm v k := by
  refine Prod.ext (funext fun j => ?_) rfl
  show (if j = 27 then v else (if j = 23 then s else (if j = 24 then e else (if j = 27 then nu else _)))) = (if j = 23 then s else (if j = 24 then e else (if j = 27 then v else _)))
  split
  · subst_vars; rfl
  · rfl
theorem tk4_k : (tk4 F s e nm nu k).uS 25 v = tk4 F s e nm nu v := by
  refine Prod.ext (funext fun j => ?_) rfl
  show (if j = 25 then v else (if j = 23 then s else (if j = 24 then e else (if j = 27 then nu else (if j = 25 then k else _))))) = (if j = 23 then s else (if j = 24 then e else (if j = 27 then nu else (if j = 25 then v else _))))
  split
  · subst_vars; rfl
  · rfl
theorem tk4_n : (tk4 F s e nm nu k).uN x = tk4 F s e x nu k := rfl
theorem m_isLetter (c : Int32) : yC w d mX11_isLetter [.int c] o F (yR (some (.int (bLt c))) F) := by
  refine yC_of (by decide) (ble rfl) (ls := [some (.int c)]) rfl ?_
  refine yX11_isLetter_0 (yX11_isLetter_1 (yX11_isLetter_3 (fun h3 => ?_) (fun h3 => ?_)))
  · refine yX11_isLetter_12 (yX11_isLetter_13 (yX11_isLetter_15 (fun h15 => ?_) (fun h15 => ?_)))
    · refine yX11_isLetter_24 (yX11_isLetter_25 (yX11_isLetter_27 (fun h27 => ?_) (fun h27 => ?_)))
      · refine yX11_isLetter_34 (yX11_isLetter_35 (by first | exact Or.inl rfl | exact Or.inr rfl) ?_)
        refine ⟨?_, rfl⟩; unfold bLt; grind
      · refine yX11_isLetter_30 (yX11_isLetter_31 (yX11_isLetter_35 (by first | exact Or.inl rfl | exact Or.inr rfl) ?_))
        refine ⟨?_, rfl⟩; unfold bLt; grind
    · refine yX11_isLetter_18 (yX11_isLetter_19 (yX11_isLetter_21 (fun h21 => ?_) (fun h21 => ?_)))
      · refine yX11_isLetter_30 (yX11_isLetter_31 (yX11_isLetter_35 (by first | exact Or.inl rfl | exact Or.inr rfl) ?_))
        refine ⟨?_, rfl⟩; unfold bLt; grind
      · refine yX11_isLetter_24 (yX11_isLetter_25 (yX11_isLetter_27 (fun h27 => ?_) (fun h27 => ?_)))
        · refine yX11_isLetter_34 (yX11_isLetter_35 (by first | exact Or.inl rfl | exact Or.inr rfl) ?_)
          refine ⟨?_, rfl⟩; unfold bLt; grind
        · refine yX11_isLetter_30 (yX11_isLetter_31 (yX11_isLetter_35 (by first | exact Or.inl rfl | exact Or.inr rfl) ?_))
          refine ⟨?_, rfl⟩; unfold bLt; grind
  · refine yX11_isLetter_6 (yX11_isLetter_7 (yX11_isLetter_9 (fun h9 => ?_) (fun h9 => ?_)))
    · refine yX11_isLetter_30 (yX11_isLetter_31 (yX11_isLetter_35 (by first | exact Or.inl rfl | exact Or.inr rfl) ?_))
      refine ⟨?_, rfl⟩; unfold bLt; grind
    · refine yX11_isLetter_12 (yX11_isLetter_13 (yX11_isLetter_15 (fun h15 => ?_) (fun h15 => ?_)))
      · refine yX11_isLetter_24 (yX11_isLetter_25 (yX11_isLetter_27 (fun h27 => ?_) (fun h27 => ?_)))
        · refine yX11_isLetter_34 (yX11_isLetter_35 (by first | exact Or.inl rfl | exact Or.inr rfl) ?_)
          refine ⟨?_, rfl⟩; unfold bLt; grind
        · refine yX11_isLetter_30 (yX11_isLetter_31 (yX11_isLetter_35 (by first | exact Or.inl rfl | exact Or.inr rfl) ?_))
          refine ⟨?_, rfl⟩; unfold bLt; grind
      · refine yX11_isLetter_18 (yX11_isLetter_19 (yX11_isLetter_21 (fun h21 => ?_) (fun h21 => ?_)))
        · refine yX11_isLetter_30 (yX11_isLetter_31 (yX11_isLetter_35 (by first | exact Or.inl rfl | exact Or.inr rfl) ?_))
          refine ⟨?_, rfl⟩; unfold bLt; grind
        · refine yX11_isLetter_24 (yX11_isLetter_25 (yX11_isLetter_27 (fun h27 => ?_) (fun h27 => ?_)))
          · refine yX11_isLetter_34 (yX11_isLetter_35 (by first | exact Or.inl rfl | exact Or.inr rfl) ?_)
            refine ⟨?_, rfl⟩; unfold bLt; grind
          · refine yX11_isLetter_30 (yX11_isLetter_31 (yX11_isLetter_35 (by first | exact Or.inl rfl | exact Or.inr rfl) ?_))
            refine ⟨?_, rfl⟩; unfold bLt; grind
theorem m_isDigit (c : Int32) : yC w d mX11_isDigit [.int c] o F (yR (some (.int (bDg c))) F) := by
  refine yC_of (by decide) (ble rfl) (ls := [some (.int c)]) rfl ?_
  refine yX11_isDigit_0 (yX11_isDigit_1 (yX11_isDigit_3 (fun h3 => ?_) (fun h3 => ?_)))
  · refine yX11_isDigit_16 (yX11_isDigit_17 (by first | exact Or.inl rfl | exact Or.inr rfl) ?_)
    refine ⟨?_, rfl⟩; unfold bDg; grind
  · refine yX11_isDigit_6 (yX11_isDigit_7 (yX11_isDigit_9 (fun h9 => ?_) (fun h9 => ?_)))
    · refine yX11_isDigit_16 (yX11_isDigit_17 (by first | exact Or.inl rfl | exact Or.inr rfl) ?_)
      refine ⟨?_, rfl⟩; unfold bDg; grind
    · refine yX11_isDigit_12 (yX11_isDigit_13 (yX11_isDigit_17 (by first | exact Or.inl rfl | exact Or.inr rfl) ?_))
      refine ⟨?_, rfl⟩; unfold bDg; grind
theorem m_isCharacter (c : Int32) : yC w d mX11_isCharacter [.int c] o F (yR (some (.int (bMay c))) F) := by
  refine yC_of (by decide) (ble rfl) (ls := [some (.int c)]) rfl ?_
  refine yX11_isCharacter_0 (yX11_isCharacter_1 (yX11_isCharacter_3 (fun h3 => ?_) (fun h3 => ?_)))
  · refine yX11_isCharacter_18 (yX11_isCharacter_19 (yX11_isCharacter_23 (by first | exact Or.inl rfl | exact Or.inr rfl) ?_))
    refine ⟨?_, rfl⟩; unfold bMay; grind
  · refine yX11_isCharacter_6 (yX11_isCharacter_7 (yX11_isCharacter_9 (fun h9 => ?_) (fun h9 => ?_)))
    · refine yX11_isCharacter_22 (yX11_isCharacter_23 (by first | exact Or.inl rfl | exact Or.inr rfl) ?_)
      refine ⟨?_, rfl⟩; unfold bMay; grind
    · refine yX11_isCharacter_12 (yX11_isCharacter_13 (yX11_isCharacter_15 (fun h15 => ?_) (fun h15 => ?_)))
      · refine yX11_isCharacter_22 (yX11_isCharacter_23 (by first | exact Or.inl rfl | exact Or.inr rfl) ?_)
        refine ⟨?_, rfl⟩; unfold bMay; grind
      · refine yX11_isCharacter_18 (yX11_isCharacter_19 (yX11_isCharacter_23 (by first | exact Or.inl rfl | exact Or.inr rfl) ?_))
        refine ⟨?_, rfl⟩; unfold bMay; grind
theorem m_thrown : yC w d mX11_thrown [.ref o] o F (yR (some (.int (F.s 0))) F) := by
  refine yC_of (by decide) (ble rfl) (ls := [some (.ref o)]) rfl ?_
  refine yX11_thrown_0 (yX11_thrown_1 (yX11_thrown_4 ⟨rfl, rfl⟩))
theorem m_need (hv : v = 0 ∨ v = 1) : yC w d mX11_need [.ref o, .int v] o F (yR none (F.uS 28 (if F.s 28 = 0 ∨ v = 0 then 0 else 1))) := by
  refine yC_of (by decide) (ble rfl) (ls := [some (.ref o), some (.int v)]) rfl ?_
  refine yX11_need_0 (yX11_need_1 (yX11_need_2 (yX11_need_5 (fun h5 => ?_) (fun h5 => ?_))))
  · refine yX11_need_16 (yX11_need_17 (by first | exact Or.inl rfl | exact Or.inr rfl) (yX11_need_20 ?_))
    refine ⟨rfl, ?_⟩; simp_all
  · refine yX11_need_8 (yX11_need_9 (fun h9 => ?_) (fun h9 => ?_))
    · refine yX11_need_16 (yX11_need_17 (by first | exact Or.inl rfl | exact Or.inr rfl) (yX11_need_20 ?_))
      refine ⟨rfl, ?_⟩; simp_all
    · refine yX11_need_12 (yX11_need_13 (yX11_need_17 (by first | exact Or.inl rfl | exact Or.inr rfl) (yX11_need_20 ?_)))
      refine ⟨rfl, ?_⟩; simp_all
/-- the name, as the model gathers it -/
def mnm (T : Nat → Int32) (s : Nat) : Nat → Nat → Int64 → Int64
  | 0, _, a => a
  | m + 1, p, a => mnm T s m (p + 1) (if p - s < 8 then a ||| (T p).toInt64 <<< ((56 - 8 * nI (p - s)).toInt64 &&& 63) else a)
def mnu (T : Nat → Int32) (s : Nat) : Nat → Nat → Int32 → Int32
  | 0, _, a => a
  | m + 1, p, a => mnu T s m (p + 1) (if p - s < 6 then 10 * a + T p - 48 else a)
theorem q_skp {QF : Option Value → mF → Prop} {n : Nat} {T : Nat → Int32} (hT : F.a 1 = T) (hn : F.s 1 = nI n) (h14 : n ≤ 1400) : ∀ m p, p + m = n → Y w mX11_look d QF o 52 [some (.ref o)] [] (tk4 F (nI (skp T m p)) e nm nu k) → Y w mX11_look d QF o 0 [some (.ref o)] [] (tk4 F (nI p) e nm nu k) := by
  intro m
  induction m with
  | zero =>
    intro p hp K
    refine yX11_look_0 (yX11_look_1 (yX11_look_4 (yX11_look_5 (yX11_look_8 (fun _ => K) (fun h => absurd (by show F.s 1 ≤ nI p; rw [hn]; exact nI_le (by omega) (by omega)) h)))))
  | succ m ih =>
    intro p hp K
    have hT' : (tk4 F (nI p) e nm nu k).a 1 = T := hT
    refine yX11_look_0 (yX11_look_1 (yX11_look_4 (yX11_look_5 (yX11_look_8 (fun h => absurd (by rw [← hn]; exact h) (nI_ge (a := p) (b := n) (by omega) (by omega))) (fun _ => ?_)))))
    refine yX11_look_11 (yX11_look_12 (yX11_look_15 (yX11_look_16 (yX11_look_19 (ble rfl) rfl (i := p) rfl (by omega) ?_))))
    have G : (T p = 32 ∨ T p = 10) → Y w mX11_look d QF o 39 [some (.ref o)] [] (tk4 F (nI p) e nm nu k) := by
      intro hb
      refine yX11_look_39 (yX11_look_40 rfl (yX11_look_41 (yX11_look_44 (yX11_look_45 (yX11_look_46 ?_)))))
      rw [tk4_s, show (tk4 F (nI p) e nm nu k).s 23 + 1 = nI (p + 1) from nI_1 p]
      refine yX11_look_49 ?_
      refine ih (p + 1) (by omega) ?_
      rw [show skp T m (p + 1) = skp T (m + 1) p by simp [skp, hb]]
      exact K
    refine yX11_look_20 (yX11_look_22 (fun h => G (Or.inl (by rw [← hT']; exact h))) (fun h1 => ?_))
    refine yX11_look_25 (yX11_look_26 (yX11_look_29 (yX11_look_30 (yX11_look_33 (ble rfl) rfl (i := p) rfl (by omega) ?_))))
    refine yX11_look_34 (yX11_look_36 (fun h => ?_) (fun h => G (Or.inr (by rw [← hT']; exact h))))
    rw [show skp T (m + 1) p = p by rw [← hT'] ; simp only [skp]; rw [if_neg]; rintro (h9 | h9); exact h1 h9; exact h h9] at K
    exact K
theorem q_lts {QF : Option Value → mF → Prop} {n q : Nat} {T : Nat → Int32} (hT : F.a 1 = T) (hn : F.s 1 = nI n) (h14 : n ≤ 1400) : ∀ m p nm, p + m = n → q ≤ p → Y w mX11_look (d + 1) QF o 212 [some (.ref o)] [] (tk4 F (nI q) (nI (lts T m p)) (mnm T q (lts T m p - p) p nm) nu k) → Y w mX11_look (d + 1) QF o 102 [some (.ref o)] [] (tk4 F (nI q) (nI p) nm nu k) := by
  intro m
  induction m with
  | zero =>
    intro p nm hp hq K
    rw [show lts T 0 p = p from rfl, Nat.sub_self] at K
    refine yX11_look_102 (yX11_look_103 (yX11_look_106 (yX11_look_107 (yX11_look_110 (fun _ => K) (fun h => absurd (by show F.s 1 ≤ nI p; rw [hn]; exact nI_le (by omega) (by omega)) h)))))
  | succ m ih =>
    intro p nm hp hq K
    have hT' : (tk4 F (nI q) (nI p) nm nu k).a 1 = T := hT
    refine yX11_look_102 (yX11_look_103 (yX11_look_106 (yX11_look_107 (yX11_look_110 (fun h => absurd (by rw [← hn]; exact h) (nI_ge (a := p) (b := n) (by omega) (by omega))) (fun _ => ?_)))))
    have G : ¬ (bLt (T p) = 0 ∧ bDg (T p) = 0) → Y w mX11_look (d + 1) QF o 143 [some (.ref o)] [] (tk4 F (nI q) (nI p) nm nu k) := by
      intro hb
      have e0 : lts T (m + 1) p = lts T m (p + 1) := by simp only [lts, if_neg hb]
      have e1 := (lts_le T m (p + 1)).1
      have es : (tk4 F (nI q) (nI p) nm nu k).s 24 - (tk4 F (nI q) (nI p) nm nu k).s 23 = nI (p - q) := pk_sub hq
      have G2 : ∀ x : Int64, x = (if p - q < 8 then nm ||| (T p).toInt64 <<< ((56 - 8 * nI (p - q)).toInt64 &&& 63) else nm) → Y w mX11_look (d + 1) QF o 196 [some (.ref o)] [.long x, .ref o] (tk4 F (nI q) (nI p) nm nu k) := by
        intro x hx
        refine yX11_look_196 ?_
        rw [tk4_n]
        refine yX11_look_199 (yX11_look_200 rfl (yX11_look_201 (yX11_look_204 (yX11_look_205 (yX11_look_206 ?_)))))
        rw [tk4_e, show (tk4 F (nI q) (nI p) x nu k).s 24 + 1 = nI (p + 1) from nI_1 p]
        refine yX11_look_209 ?_
        refine ih (p + 1) x (by omega) (by omega) ?_
        rw [e0, show lts T m (p + 1) - p = (lts T m (p + 1) - (p + 1)) + 1 by omega] at K
        rw [hx]
        exact K
      refine yX11_look_143 (yX11_look_144 (yX11_look_145 (yX11_look_148 (yX11_look_149 (yX11_look_152 ?_)))))
      rw [es]
      refine yX11_look_153 (yX11_look_155 (fun h => ?_) (fun h => ?_))
      · have hp8 : ¬ p - q < 8 := by
          have : (8 : Int32) = nI 8 := rfl
          rw [this, nI_leI (by omega) (by omega)] at h
          omega
        refine yX11_look_192 (yX11_look_193 ?_)
        exact G2 _ (by rw [if_neg hp8]; rfl)
      · have hp8 : p - q < 8 := by
          have : (8 : Int32) = nI 8 := rfl
          rw [this, nI_leI (by omega) (by omega)] at h
          omega
        refine yX11_look_158 (yX11_look_159 (yX11_look_162 (yX11_look_163 (yX11_look_166 (yX11_look_167 (yX11_look_170 (ble rfl) rfl (i := p) rfl (by omega) (yX11_look_171 (yX11_look_172 (yX11_look_174 (yX11_look_176 (yX11_look_177 (yX11_look_180 (yX11_look_181 (yX11_look_184 ?_))))))))))))))
        rw [es]
        refine yX11_look_185 (yX11_look_186 (yX11_look_187 (yX11_look_188 (yX11_look_189 ?_))))
        exact G2 _ (by rw [if_pos hp8, ← hT']; rfl)
    refine yX11_look_113 (yX11_look_114 (yX11_look_117 (yX11_look_118 (yX11_look_121 (ble rfl) rfl (i := p) rfl (by omega) (yX11_look_122 (ble rfl) (m_isLetter _) (yX11_look_125 (fun h => G (fun z => h (by rw [hT']; exact z.1))) (fun h1 => ?_)))))))
    refine yX11_look_128 (yX11_look_129 (yX11_look_132 (yX11_look_133 (yX11_look_136 (ble rfl) rfl (i := p) rfl (by omega) (yX11_look_137 (ble rfl) (m_isDigit _) (yX11_look_140 (fun h => ?_) (fun h => G (fun z => h (by rw [hT']; exact z.2)))))))))
    rw [hT'] at h h1
    rw [show lts T (m + 1) p = p by simp only [lts]; rw [if_pos ⟨h1, h⟩], Nat.sub_self] at K
    exact K
theorem q_dgs {QF : Option Value → mF → Prop} {n q : Nat} {T : Nat → Int32} (hT : F.a 1 = T) (hn : F.s 1 = nI n) (h14 : n ≤ 1400) : ∀ m p nu, p + m = n → q ≤ p → Y w mX11_look (d + 1) QF o 335 [some (.ref o)] [] (tk4 F (nI q) (nI (dgs T m p)) nm (mnu T q (dgs T m p - p) p nu) k) → Y w mX11_look (d + 1) QF o 251 [some (.ref o)] [] (tk4 F (nI q) (nI p) nm nu k) := by
  intro m
  induction m with
  | zero =>
    intro p nu hp hq K
    rw [show dgs T 0 p = p from rfl, Nat.sub_self] at K
    refine yX11_look_251 (yX11_look_252 (yX11_look_255 (yX11_look_256 (yX11_look_259 (fun _ => K) (fun h => absurd (by show F.s 1 ≤ nI p; rw [hn]; exact nI_le (by omega) (by omega)) h)))))
  | succ m ih =>
    intro p nu hp hq K
    have hT' : (tk4 F (nI q) (nI p) nm nu k).a 1 = T := hT
    refine yX11_look_251 (yX11_look_252 (yX11_look_255 (yX11_look_256 (yX11_look_259 (fun h => absurd (by rw [← hn]; exact h) (nI_ge (a := p) (b := n) (by omega) (by omega))) (fun _ => ?_)))))
    refine yX11_look_262 (yX11_look_263 (yX11_look_266 (yX11_look_267 (yX11_look_270 (ble rfl) rfl (i := p) rfl (by omega) (yX11_look_271 (ble rfl) (m_isDigit _) (yX11_look_274 (fun h => ?_) (fun h => ?_)))))))
    · rw [hT'] at h
      rw [show dgs T (m + 1) p = p by simp only [dgs]; rw [if_pos h], Nat.sub_self] at K
      exact K
    · rw [hT'] at h
      have e0 : dgs T (m + 1) p = dgs T m (p + 1) := by simp only [dgs, if_neg h]
      have e1 := (dgs_le T m (p + 1)).1
      have es : (tk4 F (nI q) (nI p) nm nu k).s 24 - (tk4 F (nI q) (nI p) nm nu k).s 23 = nI (p - q) := pk_sub hq
      have G2 : ∀ x : Int32, x = (if p - q < 6 then 10 * nu + T p - 48 else nu) → Y w mX11_look (d + 1) QF o 319 [some (.ref o)] [.int x, .ref o] (tk4 F (nI q) (nI p) nm nu k) := by
        intro x hx
        refine yX11_look_319 ?_
        rw [tk4_nu]
        refine yX11_look_322 (yX11_look_323 rfl (yX11_look_324 (yX11_look_327 (yX11_look_328 (yX11_look_329 ?_)))))
        rw [tk4_e, show (tk4 F (nI q) (nI p) nm x k).s 24 + 1 = nI (p + 1) from nI_1 p]
        refine yX11_look_332 ?_
        refine ih (p + 1) x (by omega) (by omega) ?_
        rw [e0, show dgs T m (p + 1) - p = (dgs T m (p + 1) - (p + 1)) + 1 by omega] at K
        rw [hx]
        exact K
      refine yX11_look_277 (yX11_look_278 (yX11_look_279 (yX11_look_282 (yX11_look_283 (yX11_look_286 ?_)))))
      rw [es]
      refine yX11_look_287 (yX11_look_289 (fun h => ?_) (fun h => ?_))
      · have hp8 : ¬ p - q < 6 := by
          have : (6 : Int32) = nI 6 := rfl
          rw [this, nI_leI (by omega) (by omega)] at h
          omega
        refine yX11_look_315 (yX11_look_316 ?_)
        exact G2 _ (by rw [if_neg hp8]; rfl)
      · have hp8 : p - q < 6 := by
          have : (6 : Int32) = nI 6 := rfl
          rw [this, nI_leI (by omega) (by omega)] at h
          omega
        refine yX11_look_292 (yX11_look_294 (yX11_look_295 (yX11_look_298 (yX11_look_299 (yX11_look_300 (yX11_look_303 (yX11_look_304 (yX11_look_307 (ble rfl) rfl (i := p) rfl (by omega) (yX11_look_308 (yX11_look_309 (yX11_look_311 (yX11_look_312 ?_))))))))))))
        exact G2 _ (by rw [if_pos hp8, ← hT']; rfl)
/-- name and number as the model has them -/
def mNm (T : Nat → Int32) (n s e : Nat) : Int64 := if n ≤ s then 0 else if bLt (T s) = 0 then 0 else mnm T s (e - s) s 0
def mNu (T : Nat → Int32) (n s e : Nat) : Int32 := if n ≤ s then 0 else if bLt (T s) = 0 then (if bDg (T s) = 0 then 0 else mnu T s (e - s) s 0) else 0
theorem not_both {c : Int32} (h : ¬ bLt c = 0) : bDg c = 0 := by
  unfold bLt at h
  unfold bDg
  grind
theorem m_look {n p : Nat} {T : Nat → Int32} (hT : F.a 1 = T) (hn : F.s 1 = nI n) (h14 : n ≤ 1400) (hat : F.s 23 = nI p) (hp : p ≤ n) :
    yC w (d + 1) mX11_look [.ref o] o F (yR none (tk4 F (nI (sS T n p)) (nI (sE T n p)) (mNm T n (sS T n p) (sE T n p)) (mNu T n (sS T n p) (sE T n p)) (nI (sK T n p)))) := by
  refine yC_of (by decide) (ble rfl) (ls := [some (.ref o)]) rfl ?_
  rw [← tk4_id F, hat]
  generalize F.s 24 = e
  generalize F.nm = nm
  generalize F.s 27 = nu
  generalize F.s 25 = k
  refine q_skp hT hn h14 (n - p) p (by omega) ?_
  obtain ⟨h1, h2⟩ := tkS_le T hp
  obtain ⟨h3, h4⟩ := tkE_le T h2
  have e4 : ∀ s e nm nu k s' e' nm' nu' k', tk4 (tk4 F s e nm nu k) s' e' nm' nu' k' = tk4 F s' e' nm' nu' k' := by
    intro s e nm nu k s' e' nm' nu' k'
    refine Prod.ext (funext fun j => ?_) rfl
    show (if j = 23 then s' else if j = 24 then e' else if j = 27 then nu' else if j = 25 then k' else (if j = 23 then s else if j = 24 then e else if j = 27 then nu else if j = 25 then k else F.1 j)) = (if j = 23 then s' else if j = 24 then e' else if j = 27 then nu' else if j = 25 then k' else F.1 j)
    by_cases a1 : j = 23
    · rw [if_pos a1, if_pos a1]
    · by_cases a2 : j = 24
      · subst a2; rfl
      · by_cases a3 : j = 27
        · subst a3; rfl
        · by_cases a4 : j = 25
          · subst a4; rfl
          · simp only [if_neg a1, if_neg a2, if_neg a3, if_neg a4]
  rw [e4]
  show Y w mX11_look (d + 1) (yR none (tk4 F (nI (tkS T n p)) (nI (tkE T n (tkS T n p))) (mNm T n (tkS T n p) (tkE T n (tkS T n p))) (mNu T n (tkS T n p) (tkE T n (tkS T n p))) (nI (tkK T n (tkS T n p) (tkE T n (tkS T n p)))))) o 52 [some (.ref o)] [] (tk4 F (nI (tkS T n p)) e nm nu k)
  generalize tkS T n p = s at h1 h2 h3 h4
  have hT' : ∀ a b c d' f, (tk4 F a b c d' f).a 1 = T := fun _ _ _ _ _ => hT
  refine yX11_look_52 (yX11_look_53 (yX11_look_54 (yX11_look_57 ?_)))
  rw [tk4_e]
  refine yX11_look_60 (yX11_look_61 (yX11_look_62 ?_))
  rw [tk4_n]
  refine yX11_look_65 (yX11_look_66 (yX11_look_67 ?_))
  rw [tk4_nu]
  show Y w mX11_look (d + 1) _ o 70 [some (.ref o)] [] (tk4 F (nI s) (nI s) 0 0 k)
  refine yX11_look_70 (yX11_look_71 (yX11_look_74 (yX11_look_75 (yX11_look_78 (fun h => ?_) (fun h => ?_)))))
  · have hlt : s < n := by
      rcases Nat.lt_or_ge s n with h9 | h9
      · exact h9
      · have : s = n := by omega
        subst this
        exact absurd hn.symm h
    refine yX11_look_87 (yX11_look_88 (yX11_look_91 (yX11_look_92 (yX11_look_95 (ble rfl) rfl (i := s) rfl (by omega) (yX11_look_96 (ble rfl) (m_isLetter _) (yX11_look_99 (fun hl => ?_) (fun hl => ?_)))))))
    · rw [hT'] at hl
      refine yX11_look_236 (yX11_look_237 (yX11_look_240 (yX11_look_241 (yX11_look_244 (ble rfl) rfl (i := s) rfl (by omega) (yX11_look_245 (ble rfl) (m_isDigit _) (yX11_look_248 (fun hd => ?_) (fun hd => ?_)))))))
      · rw [hT'] at hd
        refine yX11_look_359 (yX11_look_360 (yX11_look_361 (yX11_look_364 (yX11_look_365 (yX11_look_366 ?_)))))
        rw [tk4_e, show (tk4 F (nI s) (nI s) 0 0 k).s 23 + 1 = nI (s + 1) from nI_1 s]
        refine yX11_look_369 (yX11_look_370 (yX11_look_371 ?_))
        rw [tk4_k]
        have e1 : tkE T n s = s + 1 := by simp [tkE, hd, hl]; omega
        have e2 : tkK T n s (s + 1) = 3 := by simp [tkK, hd, hl]; omega
        have e5 : mNm T n s (s + 1) = 0 := by unfold mNm; rw [if_neg (by omega), if_pos hl]
        have e6 : mNu T n s (s + 1) = 0 := by unfold mNu; rw [if_neg (by omega), if_pos hl, if_pos hd]
        refine yX11_look_374 ⟨rfl, ?_⟩
        rw [e1, e2, e5, e6]; rfl
      · rw [hT'] at hd
        refine q_dgs hT hn h14 (n - s) s 0 (by omega) (Nat.le_refl _) ?_
        have e1 : tkE T n s = dgs T (n - s) s := by simp [tkE, hd]; omega
        rw [← e1]
        have e5 : mNm T n s (tkE T n s) = 0 := by unfold mNm; rw [if_neg (by omega), if_pos hl]
        have e6 : mNu T n s (tkE T n s) = mnu T s (tkE T n s - s) s 0 := by unfold mNu; rw [if_neg (by omega), if_pos hl, if_neg hd]
        rw [e5, e6]
        generalize mnu T s (tkE T n s - s) s 0 = nu9
        refine yX11_look_335 (yX11_look_336 (yX11_look_337 (yX11_look_340 (yX11_look_341 (yX11_look_344 ?_)))))
        rw [show (tk4 F (nI s) (nI (tkE T n s)) 0 nu9 k).s 24 - (tk4 F (nI s) (nI (tkE T n s)) 0 nu9 k).s 23 = nI (tkE T n s - s) from pk_sub h3]
        refine yX11_look_345 (yX11_look_347 (fun h9 => ?_) (fun h9 => ?_))
        · rw [show (6 : Int32) = nI 6 from rfl, nI_leI (by omega) (by omega)] at h9
          refine yX11_look_354 (yX11_look_355 ?_)
          rw [tk4_k]
          refine yX11_look_358 ⟨rfl, ?_⟩
          have e2 : tkK T n s (tkE T n s) = 2 := by unfold tkK; rw [if_neg (by omega : ¬ n ≤ s), if_pos hd, if_neg (by omega)]
          rw [e2]; rfl
        · rw [show (6 : Int32) = nI 6 from rfl, nI_leI (by omega) (by omega)] at h9
          refine yX11_look_350 (yX11_look_351 (yX11_look_355 ?_))
          rw [tk4_k]
          refine yX11_look_358 ⟨rfl, ?_⟩
          have e2 : tkK T n s (tkE T n s) = 4 := by unfold tkK; rw [if_neg (by omega : ¬ n ≤ s), if_pos hd, if_pos (by omega)]
          rw [e2]; rfl
    · rw [hT'] at hl
      have hd := not_both hl
      refine q_lts hT hn h14 (n - s) s 0 (by omega) (Nat.le_refl _) ?_
      have e1 : tkE T n s = lts T (n - s) s := by simp [tkE, hd, hl]; omega
      rw [← e1]
      have e5 : mNm T n s (tkE T n s) = mnm T s (tkE T n s - s) s 0 := by unfold mNm; rw [if_neg (by omega), if_neg hl]
      have e6 : mNu T n s (tkE T n s) = 0 := by unfold mNu; rw [if_neg (by omega), if_neg hl]
      rw [e5, e6]
      generalize mnm T s (tkE T n s - s) s 0 = nm9
      refine yX11_look_212 (yX11_look_213 (yX11_look_214 (yX11_look_217 (yX11_look_218 (yX11_look_221 ?_)))))
      rw [show (tk4 F (nI s) (nI (tkE T n s)) nm9 0 k).s 24 - (tk4 F (nI s) (nI (tkE T n s)) nm9 0 k).s 23 = nI (tkE T n s - s) from pk_sub h3]
      refine yX11_look_222 (yX11_look_224 (fun h9 => ?_) (fun h9 => ?_))
      · rw [show (8 : Int32) = nI 8 from rfl, nI_leI (by omega) (by omega)] at h9
        refine yX11_look_231 (yX11_look_232 ?_)
        rw [tk4_k]
        refine yX11_look_235 ⟨rfl, ?_⟩
        have e2 : tkK T n s (tkE T n s) = 1 := by unfold tkK; rw [if_neg (by omega : ¬ n ≤ s), if_neg (fun q => q hd), if_pos hl, if_neg (by omega)]
        rw [e2]; rfl
      · rw [show (8 : Int32) = nI 8 from rfl, nI_leI (by omega) (by omega)] at h9
        refine yX11_look_227 (yX11_look_228 (yX11_look_232 ?_))
        rw [tk4_k]
        refine yX11_look_235 ⟨rfl, ?_⟩
        have e2 : tkK T n s (tkE T n s) = 4 := by unfold tkK; rw [if_neg (by omega : ¬ n ≤ s), if_neg (fun q => q hd), if_pos hl, if_pos (by omega)]
        rw [e2]; rfl
  · have hge : s = n := by
      have : nI s = nI n := h.trans hn
      rwa [nI_eq (by omega) (by omega)] at this
    subst hge
    refine yX11_look_81 (yX11_look_82 (yX11_look_83 ?_))
    rw [tk4_k]
    refine yX11_look_86 ⟨rfl, ?_⟩
    have e1 : tkE T s s = s := by simp [tkE]
    have e2 : tkK T s s s = 0 := by simp [tkK]
    have e5 : mNm T s s s = 0 := by simp [mNm]
    have e6 : mNu T s s s = 0 := by simp [mNu]
    rw [e1, e2, e5, e6]; rfl
end M1
