section Lev
variable {M : Int64}
/-- one operator waits, with its left side, or none -/
def pk1 (M v e : Int64) (c : Int32) (L : List Int32) (V : List Int64) : Prop := (L = [] ∧ V = [] ∧ v = e) ∨ (L = [c] ∧ V = [v &&& M])
theorem pk1.len {v e : Int64} {c : Int32} {L : List Int32} {V : List Int64} (h : pk1 M v e c L V) : L.length = V.length ∧ V.length ≤ 1 := by
  rcases h with ⟨rfl, rfl, _⟩ | ⟨rfl, rfl⟩ <;> exact ⟨rfl, by simp⟩
theorem pk1.mem {v e : Int64} {c : Int32} {L : List Int32} {V : List Int64} (h : pk1 M v e c L V) : ∀ x ∈ L, x = c := by
  rcases h with ⟨rfl, rfl, _⟩ | ⟨rfl, rfl⟩
  · intro x hx; cases hx
  · intro x hx; simpa using hx
def pend (M o x a : Int64) (A X O : List Int32) (VA VX VO : List Int64) : Prop := pk1 M a (-1) 38 A VA ∧ pk1 M x 0 94 X VX ∧ pk1 M o 0 124 O VO
theorem fS_app : ∀ (A : List Int32) (VA : List Int64) (L : List Int32) (V : List Int64) (v : Int64), A.length = VA.length → fS (A ++ L) (VA ++ V) v = fS L V (fS A VA v) := by
  intro A
  induction A with
  | nil =>
    intro VA L V v h
    match VA, h with
    | [], _ => rfl
  | cons c A ih =>
    intro VA L V v h
    match VA, h with
    | a :: VA, h => exact ih VA L V (ap c a v) (by simpa using h)
theorem fS_A {a : Int64} {A : List Int32} {VA : List Int64} (h : pk1 M a (-1) 38 A VA) (z : Int64) : fS A VA (z &&& M) = (a &&& z) &&& M := by
  rcases h with ⟨rfl, rfl, rfl⟩ | ⟨rfl, rfl⟩
  · rw [i_7]; rfl
  · show ap 38 (a &&& M) (z &&& M) = _
    unfold ap
    rw [if_neg (by decide), if_neg (by decide), i_4]
theorem fS_X {a : Int64} {A : List Int32} {VA : List Int64} (h : pk1 M a 0 94 A VA) (z : Int64) : fS A VA (z &&& M) = (a ^^^ z) &&& M := by
  rcases h with ⟨rfl, rfl, rfl⟩ | ⟨rfl, rfl⟩
  · rw [i_8]; rfl
  · show ap 94 (a &&& M) (z &&& M) = _
    unfold ap
    rw [if_neg (by decide), if_pos rfl, i_5]
theorem fS_O {a : Int64} {A : List Int32} {VA : List Int64} (h : pk1 M a 0 124 A VA) (z : Int64) : fS A VA (z &&& M) = (a ||| z) &&& M := by
  rcases h with ⟨rfl, rfl, rfl⟩ | ⟨rfl, rfl⟩
  · rw [i_9]; rfl
  · show ap 124 (a &&& M) (z &&& M) = _
    unfold ap
    rw [if_pos rfl, i_6]
/-- the levels below j, each with its ( -/
def low (t : tSt) (M : Int64) : Nat → List Int32 → List Int64 → Prop
  | 0, wl, vl => wl = [] ∧ vl = []
  | j + 1, wl, vl => ∃ b wl' vl' A X O VA VX VO, wl = 40 :: (List.replicate b 33 ++ (A ++ (X ++ (O ++ wl')))) ∧ vl = VA ++ (VX ++ (VO ++ vl')) ∧ pend M (t.2.1 j) (t.2.2.1 j) (t.2.2.2.1 j) A X O VA VX VO ∧ par b (t.2.2.2.2 j) ∧ low t M j wl' vl'
theorem low_len {t : tSt} : ∀ j wl vl, low t M j wl vl → vl.length ≤ 3 * j := by
  intro j
  induction j with
  | zero => rintro wl vl ⟨_, rfl⟩; exact Nat.le_refl _
  | succ j ih =>
    rintro wl vl ⟨b, wl', vl', A, X, O, VA, VX, VO, _, rfl, ⟨p1, p2, p3⟩, _, hl⟩
    have := ih _ _ hl
    have q1 := p1.len
    have q2 := p2.len
    have q3 := p3.len
    simp only [List.length_append]
    omega
theorem low_cg {t t' : tSt} : ∀ j wl vl, (∀ i, i < j → t.2.1 i = t'.2.1 i ∧ t.2.2.1 i = t'.2.2.1 i ∧ t.2.2.2.1 i = t'.2.2.2.1 i ∧ t.2.2.2.2 i = t'.2.2.2.2 i) → low t M j wl vl → low t' M j wl vl := by
  intro j
  induction j with
  | zero => intro wl vl _ h; exact h
  | succ j ih =>
    rintro wl vl he ⟨b, wl', vl', A, X, O, VA, VX, VO, h1, h2, h3, h4, hl⟩
    obtain ⟨e1, e2, e3, e4⟩ := he j (Nat.lt_succ_self j)
    refine ⟨b, wl', vl', A, X, O, VA, VX, VO, h1, h2, ?_, ?_, ih _ _ (fun i hi => he i (by omega)) hl⟩
    · rw [← e1, ← e2, ← e3]; exact h3
    · rw [← e4]; exact h4
theorem low_hd {t : tSt} : ∀ j wl vl, low t M j wl vl → ∀ c l, wl = c :: l → c = 40 := by
  intro j
  cases j with
  | zero => rintro wl vl ⟨rfl, _⟩ c l h; cases h
  | succ j =>
    rintro wl vl ⟨b, wl', vl', A, X, O, VA, VX, VO, rfl, _⟩ c l h
    cases h
    rfl
/-- the head of what waits on a level -/
theorem pend_hd {o x a : Int64} {A X O wl : List Int32} {VA VX VO : List Int64} (h : pend M o x a A X O VA VX VO) (hw : ∀ c l, wl = c :: l → c = 40) : ∀ c l, A ++ (X ++ (O ++ wl)) = c :: l → c = 38 ∨ c = 94 ∨ c = 124 ∨ c = 40 := by
  obtain ⟨h1, h2, h3⟩ := h
  intro c l e
  rcases h1 with ⟨rfl, _⟩ | ⟨rfl, _⟩
  · rcases h2 with ⟨rfl, _⟩ | ⟨rfl, _⟩
    · rcases h3 with ⟨rfl, _⟩ | ⟨rfl, _⟩
      · exact Or.inr (Or.inr (Or.inr (hw c l e)))
      · cases e; exact Or.inr (Or.inr (Or.inl rfl))
    · cases e; exact Or.inr (Or.inl rfl)
  · cases e; exact Or.inl rfl
end Lev
section Cont
variable (K : tkT) (c : ceT)
def SB (f m : Nat) (t : tSt) (q : Nat) : Except Nat (tSt × Nat) :=
  if (rOp K (rCloses K f t q).1 (rCloses K f t q).2).1 = 0 then .ok (rOp K (rCloses K f t q).1 (rCloses K f t q).2).2 else rFun K c m (rOp K (rCloses K f t q).1 (rCloses K f t q).2).2.1 (rOp K (rCloses K f t q).1 (rCloses K f t q).2).2.2
def SA (f m : Nat) (t : tSt) (q : Nat) : Except Nat (tSt × Nat) := bnd (rOpens K f t q) (fun x => bnd (rPrim K c x.2) (fun v => SB K c 1400 m (tPut x.1 v.1) v.2))
theorem rFun_SA (m : Nat) (t : tSt) (q : Nat) : rFun K c (m + 1) t q = SA K c 1400 m t q := rfl
variable {K c} {f m : Nat} {t : tSt} {q : Nat}
theorem SA_bang (h : ¬ K.W q 10 = 0) : SA K c (f + 1) m t q = SA K c f m (tTurn t) (K.E q) := by
  unfold SA
  rw [show rOpens K (f + 1) t q = rOpens K f (tTurn t) (K.E q) by simp only [rOpens]; rw [if_pos h]]
theorem SA_par (h0 : K.W q 10 = 0) (h : ¬ K.W q 11 = 0) (ho : t.1 < 16) : SA K c (f + 1) m t q = SA K c f m (tOpen t) (K.E q) := by
  unfold SA
  rw [show rOpens K (f + 1) t q = rOpens K f (tOpen t) (K.E q) by simp only [rOpens]; rw [if_neg (fun z => z h0), if_pos h, dmd_t ho]]
theorem SA_par_e (h0 : K.W q 10 = 0) (h : ¬ K.W q 11 = 0) (ho : ¬ t.1 < 16) : SA K c (f + 1) m t q = .error (K.S q) := by
  unfold SA
  rw [show rOpens K (f + 1) t q = .error (K.S q) by simp only [rOpens]; rw [if_neg (fun z => z h0), if_pos h, dmd_f ho]]
  rfl
theorem SA_prim (h0 : K.W q 10 = 0) (h : K.W q 11 = 0) : SA K c f m t q = bnd (rPrim K c q) (fun v => SB K c 1400 m (tPut t v.1) v.2) := by
  unfold SA
  have : rOpens K f t q = .ok (t, q) := by
    cases f with
    | zero => rfl
    | succ f => simp only [rOpens]; rw [if_neg (fun z => z h0), if_neg (fun z => z h)]
  rw [this]
  rfl
theorem rCl_0 (h : ¬ (0 < t.1 ∧ ¬ K.W q 14 = 0)) : rCloses K f t q = (t, q) := by
  cases f with
  | zero => rfl
  | succ f => simp only [rCloses]; rw [if_neg h]
theorem SB_or (h14 : K.W q 14 = 0) (h : ¬ K.W q 15 = 0) : SB K c f m t q = rFun K c m (tXor t) (K.E q) := by
  unfold SB
  rw [rCl_0 (fun z => z.2 h14)]
  have : rOp K t q = (1, tXor t, K.E q) := by unfold rOp; rw [if_pos h]
  rw [this]
  exact if_neg (show ¬ (1 : Int32) = 0 by decide)
theorem SB_xor (h14 : K.W q 14 = 0) (h15 : K.W q 15 = 0) (h : ¬ K.W q 16 = 0) : SB K c f m t q = rFun K c m (tAnd t) (K.E q) := by
  unfold SB
  rw [rCl_0 (fun z => z.2 h14)]
  have : rOp K t q = (1, tAnd t, K.E q) := by unfold rOp; rw [if_neg (fun z => z h15), if_pos h]
  rw [this]
  exact if_neg (show ¬ (1 : Int32) = 0 by decide)
theorem SB_and (h14 : K.W q 14 = 0) (h15 : K.W q 15 = 0) (h16 : K.W q 16 = 0) (h : ¬ K.W q 17 = 0) : SB K c f m t q = rFun K c m t (K.E q) := by
  unfold SB
  rw [rCl_0 (fun z => z.2 h14)]
  have : rOp K t q = (1, t, K.E q) := by unfold rOp; rw [if_neg (fun z => z h15), if_neg (fun z => z h16), if_pos h]
  rw [this]
  exact if_neg (show ¬ (1 : Int32) = 0 by decide)
theorem SB_close (ho : 0 < t.1) (h14 : ¬ K.W q 14 = 0) : SB K c (f + 1) m t q = SB K c f m (tClose t) (K.E q) := by
  have : rCloses K (f + 1) t q = rCloses K f (tClose t) (K.E q) := by simp only [rCloses]; rw [if_pos ⟨ho, h14⟩]
  unfold SB
  rw [this]
theorem SB_end (h14 : ¬ (0 < t.1 ∧ ¬ K.W q 14 = 0)) (h15 : K.W q 15 = 0) (h16 : K.W q 16 = 0) (h17 : K.W q 17 = 0) : SB K c f m t q = .ok (t, q) := by
  unfold SB
  rw [rCl_0 h14]
  have : rOp K t q = (0, t, q) := by unfold rOp; rw [if_neg (fun z => z h15), if_neg (fun z => z h16), if_neg (fun z => z h17)]
  rw [this]
  exact if_pos rfl
end Cont
section M11
variable {w : xWd} {d o : Nat} {F F0 : mF} {T : Nat → Int32} {n : Nat}
variable {q tc cc : Nat} {c : ceT}
/-- an operand is wanted -/
def stA (F : mF) (t : tSt) (M : Int64) (q : Nat) : Prop := ∃ b wl vl A X O VA VX VO, stk F (List.replicate b 33 ++ (A ++ (X ++ (O ++ wl)))) (VA ++ (VX ++ (VO ++ vl))) ∧ pend M (t.2.1 t.1) (t.2.2.1 t.1) (t.2.2.2.1 t.1) A X O VA VX VO ∧ par b (t.2.2.2.2 t.1) ∧ low t M t.1 wl vl ∧ (List.replicate b (33 : Int32) ++ (A ++ (X ++ (O ++ wl)))).length ≤ q
/-- an operand has come -/
def stB (F : mF) (t : tSt) (M : Int64) (q : Nat) : Prop := ∃ a0 y wl vl A X O VA VX VO, stk F (A ++ (X ++ (O ++ wl))) ((y &&& M) :: (VA ++ (VX ++ (VO ++ vl)))) ∧ pend M (t.2.1 t.1) (t.2.2.1 t.1) a0 A X O VA VX VO ∧ t.2.2.2.1 t.1 = a0 &&& y ∧ t.2.2.2.2 t.1 = 0 ∧ low t M t.1 wl vl ∧ (A ++ (X ++ (O ++ wl))).length ≤ q
/-- how an expression ends -/
def qX (F0 : mF) (T : Nat → Int32) (n : Nat) (M : Int64) (r : Except Nat (tSt × Nat)) : Option Value → mF → Prop := fun v F' => eK F0 F' ∧ match r with
  | .ok x => if x.1.1 = 0 then v = some (.long (tTot x.1 &&& M)) ∧ al F' T n x.2 else (∃ z, v = some (.long z)) ∧ de F' T n (sS T n x.2)
  | .error p => (∃ z, v = some (.long z)) ∧ de F' T n p
theorem ex_D {QF : Option Value → mF → Prop} {x1 x2 x3 : Int32} (h : F.s 28 = 0) (hq : QF (some (.long 0)) F) : Y w mX11_expression d QF o 16 [some (.ref o), some (.int x1), some (.int x2), some (.int x3)] [] F := by
  refine yX11_expression_16 (yX11_expression_17 (yX11_expression_20 (fun _ => ?_) (fun h9 => absurd h h9)))
  refine yX11_expression_192 (yX11_expression_193 (yX11_expression_196 (fun _ => ?_) (fun h9 => absurd h h9)))
  refine yX11_expression_204 (yX11_expression_205 (yX11_expression_208 (fun _ => ?_) (fun h9 => absurd h h9)))
  refine yX11_expression_220 (yX11_expression_221 hq)
theorem m_settleC {least : Int32} {ops rest : List Int32} {vals vl : List Int64} {v : Int64} (h1 : ops.length = vals.length) (h2 : stk F (ops ++ rest) (v :: (vals ++ vl))) (h3 : ∀ c ∈ ops, cnd least c) (h4 : ∀ c l, rest = c :: l → ¬ cnd least c) : yC w (d + 1) mX11_settle [.ref o, .int least] o F (fun r F' => r = none ∧ stk F' rest (fS ops vals v :: vl) ∧ xK F F') :=
  yC_of (by decide) (ble rfl) (ls := [some (.ref o), some (.int least), none, none, none, none, none]) rfl (m_settle ops rest vals vl v F none none none none none h1 h2 h3 h4)
/-- signs exclude each other -/
theorem sW_x {i j : Nat} (hq : q ≤ n) (hi : sgOK i) (hj : sgOK j) (hne : ¬ chr i 0 = chr j 0) (h : ¬ sW T n q i = 0) : sW T n q j = 0 := by
  rcases sW_01 T n q j with h2 | h2
  · exact h2
  · have a := (sign_iff T hq hi.1 hi.2.1 hi.2.2).mp h
    have b := (sign_iff T hq hj.1 hj.2.1 hj.2.2).mp (by rw [h2]; decide)
    exact absurd (a.2.symm.trans b.2) hne
theorem sE_gt (hq : q ≤ n) (h : ¬ sK T n q = 0) : q < sE T n q := by
  have := sS_le T hq
  rcases kcase T hq with h1 | h1 | h1 | h1 | h1 <;> omega
end M11
