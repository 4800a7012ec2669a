section YBase
/-! THE MODEL'S PURE STATE: scalars by field, the long name, int rows and long rows by their place behind the object. -/
abbrev mF : Type := (Nat → Int32) × Int64 × (Nat → Nat → Int32) × (Nat → Nat → Int64)
abbrev mF.s (F : mF) : Nat → Int32 := F.1
abbrev mF.nm (F : mF) : Int64 := F.2.1
abbrev mF.a (F : mF) : Nat → Nat → Int32 := F.2.2.1
abbrev mF.l (F : mF) : Nat → Nat → Int64 := F.2.2.2
def mF.uS (F : mF) (j : Nat) (v : Int32) : mF := (fun k => if k = j then v else F.1 k, F.2)
def mF.uN (F : mF) (v : Int64) : mF := (F.1, v, F.2.2)
def mF.uA (F : mF) (r : Nat) (f : Nat → Int32) : mF := (F.1, F.2.1, fun k => if k = r then f else F.2.2.1 k, F.2.2.2)
def mF.uL (F : mF) (r : Nat) (f : Nat → Int64) : mF := (F.1, F.2.1, F.2.2.1, fun k => if k = r then f else F.2.2.2 k)
def mFs (o : Nat) (F : mF) : List Value := [.int (F.s 0), .int (F.s 1), .ref (o + 1), .int (F.s 3), .ref (o + 2), .ref (o + 3), .ref (o + 4), .ref (o + 5), .ref (o + 6), .ref (o + 7), .ref (o + 8), .ref (o + 9), .ref (o + 10), .ref (o + 11), .ref (o + 12), .ref (o + 13), .ref (o + 14), .ref (o + 15), .ref (o + 16), .ref (o + 17), .ref (o + 18), .ref (o + 19), .ref (o + 20), .int (F.s 23), .int (F.s 24), .int (F.s 25), .long F.nm, .int (F.s 27), .int (F.s 28), .int (F.s 29), .int (F.s 30), .ref (o + 21), .int (F.s 32), .ref (o + 22), .int (F.s 34), .ref (o + 23), .ref (o + 24)]
def mE (o : Nat) (F : mF) (r : Nat) : xE := match r with
  | 0 => xO 9 (mFs o F)
  | 1 => xA 0 1400 (F.a 1)
  | 2 => xA 0 2 (F.a 2)
  | 3 => xJ 24 (F.l 3)
  | 4 => xA 0 24 (F.a 4)
  | 5 => xA 0 24 (F.a 5)
  | 6 => xA 0 96 (F.a 6)
  | 7 => xA 0 96 (F.a 7)
  | 8 => xA 0 384 (F.a 8)
  | 9 => xA 0 2 (F.a 9)
  | 10 => xJ 24 (F.l 10)
  | 11 => xA 0 24 (F.a 11)
  | 12 => xJ 216 (F.l 12)
  | 13 => xA 0 24 (F.a 13)
  | 14 => xA 0 24 (F.a 14)
  | 15 => xA 0 72 (F.a 15)
  | 16 => xA 3 96 (F.a 16)
  | 17 => xJ 72 (F.l 17)
  | 18 => xA 0 24 (F.a 18)
  | 19 => xA 0 1200 (F.a 19)
  | 20 => xA 0 1536 (F.a 20)
  | 21 => xA 0 1500 (F.a 21)
  | 22 => xJ 200 (F.l 22)
  | 23 => xA 0 6 (F.a 23)
  | 24 => xA 0 12 (F.a 24)
  | _ => xA 0 0 (fun _ => 0)
def pM (P : xH) (o : Nat) (F : mF) : Prop := ∀ r, r < 25 → P.1 (o + r) = some (mE o F r)
def xSz : xE → Nat
  | .inl _ => 0
  | .inr (.inl (_, n, _)) => n
  | .inr (.inr (.inl (n, _))) => n
  | .inr (.inr (.inr (_, n, _))) => n
theorem mE_sz (o : Nat) (F : mF) (r : Nat) : xSz (mE o F r) ≤ 1536 := by
  unfold mE
  split <;> (unfold xSz; dsimp only; omega)
theorem mE_S {o : Nat} {F : mF} {j : Nat} {v : Int32} {r : Nat} (h : 0 < r) : mE o (F.uS j v) r = mE o F r := by
  unfold mE
  split <;> first | rfl | exact absurd h (Nat.lt_irrefl 0)
theorem mE_N {o : Nat} {F : mF} {v : Int64} {r : Nat} (h : 0 < r) : mE o (F.uN v) r = mE o F r := by
  unfold mE
  split <;> first | rfl | exact absurd h (Nat.lt_irrefl 0)
theorem uA_n {F : mF} {r k : Nat} {f : Nat → Int32} (h : k ≠ r) : (F.uA r f).a k = F.a k := by show (if k = r then f else F.2.2.1 k) = _; rw [if_neg h]
theorem uL_n {F : mF} {r k : Nat} {f : Nat → Int64} (h : k ≠ r) : (F.uL r f).l k = F.l k := by show (if k = r then f else F.2.2.2 k) = _; rw [if_neg h]
theorem mE_A {o : Nat} {F : mF} {r k : Nat} {f : Nat → Int32} (h : k < 25) (hk : k ≠ r) : mE o (F.uA r f) k = mE o F k := by
  unfold mE
  split <;> first | rfl | exact congrArg (fun f => xA _ _ f) (uA_n hk)
theorem mE_L {o : Nat} {F : mF} {r k : Nat} {f : Nat → Int64} (h : k < 25) (hk : k ≠ r) : mE o (F.uL r f) k = mE o F k := by
  unfold mE
  split <;> first | rfl | exact congrArg (fun f => xJ _ f) (uL_n hk)
variable {P : xH} {o : Nat} {F : mF}
theorem pM_obj {F' : mF} {e : xE} (h : pM P o F) (he : e = mE o F' 0) (hr : ∀ r, 0 < r → mE o F' r = mE o F r) : pM (xs P o e) o F' := by
  intro r h25
  by_cases h0 : r = 0
  · subst h0; rw [he]; exact xs_s
  · rw [hr r (by omega)]; exact xs_n (by omega) (h r h25)
theorem pM_A {r n t : Nat} {f : Nat → Int32} (h : pM P o F) (hr : r < 25) (hE : ∀ F : mF, mE o F r = xA t n (F.a r)) : pM (xs P (o + r) (xA t n f)) o (F.uA r f) := by
  intro k hk
  by_cases h0 : k = r
  · subst h0; rw [hE, show (F.uA k f).a k = f by show (if k = k then f else F.2.2.1 k) = _; rw [if_pos rfl]]; exact xs_s
  · rw [mE_A hk h0]; exact xs_n (by omega) (h k hk)
theorem pM_L {r n : Nat} {f : Nat → Int64} (h : pM P o F) (hr : r < 25) (hE : ∀ F : mF, mE o F r = xJ n (F.l r)) : pM (xs P (o + r) (xJ n f)) o (F.uL r f) := by
  intro k hk
  by_cases h0 : k = r
  · subst h0; rw [hE, show (F.uL k f).l k = f by show (if k = k then f else F.2.2.2 k) = _; rw [if_pos rfl]]; exact xs_s
  · rw [mE_L hk h0]; exact xs_n (by omega) (h k hk)
theorem pM.same {P P1 : xH} {o lo hi : Nat} {F : mF} (h : pM P o F) (hs : same P P1 lo hi) (hd : o + 24 < lo ∨ hi ≤ o) : pM P1 o F := fun r hr => hs.get (by omega) (h r hr)
/-- THE JUDGEMENT OVER THE MODEL: the object lies at o, its state is F; what a method returns and the state at its end satisfy QF -/
def Y (w : xWd) (M : xM) (d : Nat) (QF : Option Value → mF → Prop) (o pc : Nat) (ls : List (Option Value)) (st : List Value) (F : mF) : Prop :=
  ∀ (P : xH) (QX : Outcome → xH → Prop), pM P o F → (∀ v F' P', QF v F' → pM P' o F' → same P P' o (o + 25) → QX (.returned v) P') → X w M d QX pc ls st P
def yC (w : xWd) (d : Nat) (M : xM) (As : List Value) (o : Nat) (F : mF) (QF : Option Value → mF → Prop) : Prop :=
  ∀ P : xH, pM P o F → xC w d M As P (fun oc P' => ∃ v F', oc = .returned v ∧ QF v F' ∧ pM P' o F' ∧ same P P' o (o + 25))
def yR (v : Option Value) (F : mF) : Option Value → mF → Prop := fun v' F' => v' = v ∧ F' = F
variable {w : xWd} {M : xM} {d pc : Nat} {QF : Option Value → mF → Prop} {ls : List (Option Value)} {st : List Value}
theorem yC_of {As : List Value} (hy : plainFor M.1 = true) (hl : (lg_sl As).length ≤ M.2.2.1) (hls : xl ls 0 = lv_args 0 As) (k : Y w M d QF o 0 ls [] F) : yC w d M As o F QF :=
  fun P h => xC_of hy hl hls (k P _ h (fun v F' _ q p s => ⟨v, F', rfl, q, p, s⟩))
theorem xC_imp {As : List Value} {Q Q2 : Outcome → xH → Prop} (h : xC w d M As P Q) (hq : ∀ oc P', Q oc P' → Q2 oc P') : xC w d M As P Q2 := by
  intro ok p e h1 h2 h3 s m args below h4 h5 h6 h7
  obtain ⟨n, oc, a1, a2, a3, P', q, r⟩ := h ok p e h1 h2 h3 s m args below h4 h5 h6 h7
  exact ⟨n, oc, a1, a2, a3, P', hq oc P' q, r⟩
theorem yC_c {As : List Value} {v : Option Value} (h : ∀ P : xH, xC w d M As P (xRet v P)) : yC w d M As o F (yR v F) := by
  intro P hP
  refine xC_imp (h P) ?_
  rintro oc P' ⟨rfl, rfl⟩
  exact ⟨v, F, rfl, ⟨rfl, rfl⟩, hP, same.rf⟩
theorem yC_imp {As : List Value} {Q2 : Option Value → mF → Prop} (h : yC w d M As o F QF) (hq : ∀ v F', QF v F' → Q2 v F') : yC w d M As o F Q2 := by
  intro P hP
  refine xC_imp (h P hP) ?_
  rintro oc P' ⟨v, F', e, q, r⟩
  exact ⟨v, F', e, hq v F' q, r⟩
theorem Y_imp {Q2 : Option Value → mF → Prop} (h : Y w M d QF o pc ls st F) (hq : ∀ v F', QF v F' → Q2 v F') : Y w M d Q2 o pc ls st F := fun P QX hP hQ => h P QX hP (fun v F' P' q => hQ v F' P' (hq v F' q))
theorem Y_put {F1 : mF} {P1 : xH} {pc2 : Nat} {ls2 : List (Option Value)} {st2 : List Value} {QX : Outcome → xH → Prop} (k : Y w M d QF o pc2 ls2 st2 F1) (h1 : pM P1 o F1) (hs : same P P1 o (o + 25)) (hQ : ∀ v F' P', QF v F' → pM P' o F' → same P P' o (o + 25) → QX (.returned v) P') : X w M d QX pc2 ls2 st2 P1 := k P1 QX h1 (fun v F' P' q p s => hQ v F' P' q p (hs.tr s))
theorem vin {x : Int32} {i n r : Nat} {e : xE} (he : mE o F r = e) (hn : xSz e = n) (hx : x = nI i) (hi : i < n) : vp_in x n ∧ x.toNatClampNeg = i := by
  have h1 := mE_sz o F r
  rw [he, hn] at h1
  subst hx
  exact ⟨vp_in_nI hi (by omega), nI_clamp (by omega)⟩
end YBase
