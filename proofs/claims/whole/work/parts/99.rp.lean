section RP
variable {T T' : Nat → Int32} {n : Nat}
def tEq (T T' : Nat → Int32) (n : Nat) : Prop := ∀ j, j < n → T j = T' j
theorem skp_cg : ∀ m p, p + m ≤ n ∨ m = 0 → tEq T T' n → skp T m p = skp T' m p := by
  intro m
  induction m with
  | zero => intro p _ _; rfl
  | succ m ih =>
    intro p hp h
    unfold skp
    rw [h p (by omega), ih (p + 1) (by omega) h]
theorem dgs_cg : ∀ m p, p + m ≤ n ∨ m = 0 → tEq T T' n → dgs T m p = dgs T' m p := by
  intro m
  induction m with
  | zero => intro p _ _; rfl
  | succ m ih =>
    intro p hp h
    unfold dgs
    rw [h p (by omega), ih (p + 1) (by omega) h]
theorem lts_cg : ∀ m p, p + m ≤ n ∨ m = 0 → tEq T T' n → lts T m p = lts T' m p := by
  intro m
  induction m with
  | zero => intro p _ _; rfl
  | succ m ih =>
    intro p hp h
    unfold lts
    rw [h p (by omega), ih (p + 1) (by omega) h]
theorem eqT_cg {s i : Nat} : ∀ m j, (∀ k, j ≤ k → k < j + m → T (s + k) = T' (s + k)) → eqT T s i m j = eqT T' s i m j := by
  intro m
  induction m with
  | zero => intro j _; rfl
  | succ m ih =>
    intro j h
    unfold eqT
    rw [h j (by omega) (by omega), ih (j + 1) (fun k a c => h k (by omega) (by omega))]
theorem pck_cg {s e : Nat} (h : ∀ k, s ≤ k → k < e → T k = T' k) : ∀ m i a, pck T s e m i a = pck T' s e m i a := by
  intro m
  induction m with
  | zero => intro i a; rfl
  | succ m ih =>
    intro i a
    unfold pck
    rw [show (if s + i < e then T (s + i) else 0) = (if s + i < e then T' (s + i) else 0) by
      by_cases z : s + i < e
      · rw [if_pos z, if_pos z, h _ (by omega) z]
      · rw [if_neg z, if_neg z], ih]
theorem nmb_cg : ∀ m i a, (∀ k, i ≤ k → k < i + m → T k = T' k) → nmb T m i a = nmb T' m i a := by
  intro m
  induction m with
  | zero => intro i a _; rfl
  | succ m ih =>
    intro i a h
    unfold nmb
    rw [h i (by omega) (by omega), ih (i + 1) _ (fun k a c => h k (by omega) (by omega))]
theorem tkE_ge {s : Nat} (h : n ≤ s) : tkE T n s = s := if_pos h
theorem tk_cg (h : tEq T T' n) : tkOf T n = tkOf T' n := by
  have eS : sS T n = sS T' n := by
    funext q
    exact skp_cg (n := n) (n - q) q (by omega) h
  have eE : sE T n = sE T' n := by
    funext q
    unfold sE
    rw [eS]
    generalize sS T' n q = s
    unfold tkE
    by_cases z : n ≤ s
    · rw [if_pos z, if_pos z]
    · rw [if_neg z, if_neg z, h s (by omega), dgs_cg (n := n) (n - s) s (by omega) h, lts_cg (n := n) (n - s) s (by omega) h]
  have eK : sK T n = sK T' n := by
    funext q
    unfold sK
    rw [eS, eE]
    generalize sS T' n q = s
    generalize sE T' n q = e
    unfold tkK
    by_cases z : n ≤ s
    · rw [if_pos z, if_pos z]
    · rw [if_neg z, if_neg z, h s (by omega)]
  -- what a word reads lies below n
  have hr : ∀ q k, sS T' n q ≤ k → k < sE T' n q → T k = T' k := by
    intro q k h1 h2
    by_cases z : n ≤ sS T' n q
    · have : sE T' n q = sS T' n q := tkE_ge z
      omega
    · have := (tkE_le T' (show sS T' n q ≤ n by omega)).2
      have e : sE T' n q = tkE T' n (sS T' n q) := rfl
      exact h k (by omega)
  have eN : sN T n = sN T' n := by
    funext q
    unfold sN
    rw [eS, eE, eK]
    by_cases z : sK T' n q = 1
    · rw [if_pos z, if_pos z]
      exact pck_cg (fun k a c => hr q k a c) 8 0 0
    · rw [if_neg z, if_neg z]
  have eV : sV T n = sV T' n := by
    funext q
    unfold sV numW
    rw [eS, eE]
    exact nmb_cg _ _ _ (fun k a c => hr q k a (by omega))
  have eW : sW T n = sW T' n := by
    funext q i
    unfold sW isW
    rw [eS, eE]
    by_cases z : xSl.getD i 0 = sE T' n q - sS T' n q
    · rw [if_pos z, if_pos z]
      exact eqT_cg _ _ (fun k a c => hr q _ (by omega) (by omega))
    · rw [if_neg z, if_neg z]
  unfold tkOf
  rw [eS, eE, eK, eN, eV, eW]
theorem unS_cg {u : Int32} (h : tEq T T' n) : (unS T n u).2 = (unS T' n u).2 ∧ tEq (unS T n u).1 (unS T' n u).1 (unS T n u).2 := by
  unfold unS
  by_cases z : bMay u = 0 ∨ n = 1400
  · rw [if_pos z, if_pos z]; exact ⟨rfl, h⟩
  · rw [if_neg z, if_neg z]
    refine ⟨rfl, fun j hj => ?_⟩
    have hj : j < n + 1 := hj
    show upd T n u j = upd T' n u j
    by_cases e : j = n
    · subst e; rw [pk_us, pk_us]
    · rw [pk_un e, pk_un e]; exact h j (by omega)
theorem ust_cg {x : Int32} : ∀ m i n T T', tEq T T' n → (ust x m i T n = none ∧ ust x m i T' n = none) ∨ ∃ U U' k, ust x m i T n = some (U, k) ∧ ust x m i T' n = some (U', k) ∧ tEq U U' k := by
  intro m
  induction m with
  | zero => intro i n T T' h; exact Or.inr ⟨T, T', n, rfl, rfl, h⟩
  | succ m ih =>
    intro i n T T' h
    unfold ust
    by_cases z : uby x i = 0
    · rw [if_pos z, if_pos z]; exact ih _ _ _ _ h
    · rw [if_neg z, if_neg z]
      by_cases y : bMay (uby x i) = 0 ∨ 1400 ≤ n
      · rw [if_pos y, if_pos y]; exact Or.inl ⟨rfl, rfl⟩
      · rw [if_neg y, if_neg y]
        refine ih _ _ _ _ (fun j hj => ?_)
        by_cases e : j = n
        · subst e; rw [pk_us, pk_us]
        · rw [pk_un e, pk_un e]; exact h j (by omega)
end RP
section RQ
variable {w : xWd} {d : Nat} {P P1 : xH} {b S S' n out : Nat} {T : Nat → Int32} {t : tSt} {L L2 : liT} {f : Nat → Int32} {g : Nat → Int64}
def mL (r : Except Nat Int32) : Except Nat Int64 := match r with
  | .ok v => .ok v.toInt64
  | .error e => .error e
def lF (P P' : xH) (b out : Nat) : Prop := (∀ a, a < P.2.1 → ¬ (b ≤ a ∧ a < b + 335) → a ≠ out → P'.1 a = P.1 a) ∧ P.2.1 ≤ P'.2.1 ∧ P'.2.1 ≤ P.2.1 + 1 ∧ P'.2.2 ≤ P.2.2 + 6
def lO (b S S' : Nat) (T : Nat → Int32) (n : Nat) (L : liT) (t : tSt) (L2 : liT) (f : Nat → Int32) (out : Nat) (P : xH) (r : Except Nat Int64) : Outcome → xH → Prop := fun oc P' => oc = .returned (some (.int (eN r))) ∧ cZ P' b S S' T n L t L2 f ∧ (∃ g', P'.1 out = some (xJ 1 g') ∧ ∀ v, r = .ok v → g' 0 = v) ∧ lF P P' b out
theorem lO_1 {v : Int64} (h1 : b + 335 ≤ out) (h2 : out < P.2.1) (hc : cZ P1 b S S' T n L t L2 f) (hF : cF P P1 b) : lO b S S' T n L t L2 f out P (.ok v) (.returned (some (.int 0))) (xs P1 out (xJ 1 (vp_updL g 0 v))) := by
  refine ⟨rfl, hc.cg (fun a p q => xs_n (by omega) rfl) (by show b + 335 ≤ P1.2.1; have := hF.2.1; omega), ⟨_, xs_s, fun v' e => ?_⟩, fun a p q r => (xs_n r rfl).trans (hF.1 a p q), hF.2.1, hF.2.2.1, hF.2.2.2⟩
  cases e
  exact pk_uLs
theorem lO_2 {e : Nat} (ho : P.1 out = some (xJ 1 g)) (h1 : b + 335 ≤ out) (h2 : out < P.2.1) (hc : cZ P1 b S S' T n L t L2 f) (hF : cF P P1 b) : lO b S S' T n L t L2 f out P (.error e) (.returned (some (.int (nI e)))) P1 :=
  ⟨rfl, hc, ⟨g, (hF.1 out h2 (by omega)).trans ho, fun v z => by cases z⟩, fun a p q _ => hF.1 a p q, hF.2.1, hF.2.2.1, hF.2.2.2⟩
theorem v01 : vp_in (0 : Int32) 1 := vp_in_nI (n := 0) (by omega) (by omega)
theorem er_cell {x y : Int32} {e : Nat} (h : aCell L x y = .error e) : e = 1 := by
  unfold aCell celV at h
  (repeat' split at h) <;> cases h <;> first | rfl | exact Or.inl rfl | exact Or.inr rfl
theorem l_cell (hr : P.2.1 + 1 ≤ w.z + 601024 ∧ P.2.2 + 6 ≤ 7293034) (h : cZ P b S S' T n L t L2 f) (hw : wL L) (ho : P.1 out = some (xJ 1 g)) (h1 : b + 335 ≤ out) (h2 : out < P.2.1) (x y : Int32) : xC w (d + 18) mL_cell [.ref b, .int x, .int y, .ref out] P (lO b S S' T n L t L2 f out P (mL (aCell L x y))) := by
  have hO := h.1
  refine xC_of (by decide) (ble rfl) (ls := [some (.ref b), some (.int x), some (.int y), some (.ref out), none]) rfl ?_
  have kk := k_cell (w := w) (d := d + 14) hr h hw x y
  match hR : aCell L x y with
  | .ok v0 =>
    rw [hR] at kk
    refine sL_cell_0 (sL_cell_1 (sL_cell_2 (sL_cell_3 (sL_cell_4 (sL_cell_5_g (ble rfl) hO kk (fun _ P1 q => ?_) (fun q9 P1 q => by cases q.1))))))
    obtain ⟨q, c1, c2⟩ := q
    cases q
    have o1 := (c2.1 out h2 (by omega)).trans ho
    show X w mL_cell (d + 18) _ 8 _ [.int v0, .int 0, .ref out] P1
    refine sL_cell_8 (sL_cell_9 o1 v01 (sL_cell_10 (sL_cell_17 (sL_cell_18 (lO_1 h1 h2 c1 c2)))))
  | .error e0 =>
    rw [hR] at kk
    obtain rfl := er_cell hR
    refine sL_cell_0 (sL_cell_1 (sL_cell_2 (sL_cell_3 (sL_cell_4 (sL_cell_5_g (ble rfl) hO kk (fun _ P1 q => by obtain ⟨_, q, _⟩ := q; cases q) (fun q9 P1 q => ?_))))))
    obtain ⟨q9, q, q2, c1, c2⟩ := q
    cases q
    refine Xt_catch (k := 11) (x := (0, 10, 13, 13)) (suf := []) rfl (by decide) (by decide) xk_3 xk_4 q2 rfl ?_
    refine sL_cell_13 rfl (sL_cell_15 (sL_cell_16 (lO_2 ho h1 h2 c1 c2)))
theorem er_truth {x y : Int32} {e : Nat} (h : aTruth L x y = .error e) : e = 1 := by
  unfold aTruth at h
  (repeat' split at h) <;> cases h <;> first | rfl | exact Or.inl rfl | exact Or.inr rfl
theorem l_truth (hr : P.2.1 + 1 ≤ w.z + 601024 ∧ P.2.2 + 6 ≤ 7293034) (h : cZ P b S S' T n L t L2 f) (ho : P.1 out = some (xJ 1 g)) (h1 : b + 335 ≤ out) (h2 : out < P.2.1) (x y : Int32) : xC w (d + 18) mL_truth [.ref b, .int x, .int y, .ref out] P (lO b S S' T n L t L2 f out P (aTruth L x y)) := by
  have hO := h.1
  refine xC_of (by decide) (ble rfl) (ls := [some (.ref b), some (.int x), some (.int y), some (.ref out), none]) rfl ?_
  have kk := k_truth (w := w) (d := d + 15) hr h x y
  match hR : aTruth L x y with
  | .ok v0 =>
    rw [hR] at kk
    refine sL_truth_0 (sL_truth_1 (sL_truth_2 (sL_truth_3 (sL_truth_4 (sL_truth_5_g (ble rfl) hO kk (fun _ P1 q => ?_) (fun q9 P1 q => by cases q.1))))))
    obtain ⟨q, c1, c2⟩ := q
    cases q
    have o1 := (c2.1 out h2 (by omega)).trans ho
    show X w mL_truth (d + 18) _ 8 _ [.long v0, .int 0, .ref out] P1
    refine sL_truth_8 o1 v01 (sL_truth_9 (sL_truth_16 (sL_truth_17 (lO_1 h1 h2 c1 c2))))
  | .error e0 =>
    rw [hR] at kk
    obtain rfl := er_truth hR
    refine sL_truth_0 (sL_truth_1 (sL_truth_2 (sL_truth_3 (sL_truth_4 (sL_truth_5_g (ble rfl) hO kk (fun _ P1 q => by obtain ⟨_, q, _⟩ := q; cases q) (fun q9 P1 q => ?_))))))
    obtain ⟨q9, q, q2, c1, c2⟩ := q
    cases q
    refine Xt_catch (k := 11) (x := (0, 9, 12, 13)) (suf := []) rfl (by decide) (by decide) xk_3 xk_4 q2 rfl ?_
    refine sL_truth_12 rfl (sL_truth_14 (sL_truth_15 (lO_2 ho h1 h2 c1 c2)))
theorem er_sense {x y z : Int32} {e : Nat} (h : aSense L x y z = .error e) : e = 1 := by
  unfold aSense at h
  (repeat' split at h) <;> cases h <;> first | rfl | exact Or.inl rfl | exact Or.inr rfl
theorem l_sense (hr : P.2.1 + 1 ≤ w.z + 601024 ∧ P.2.2 + 6 ≤ 7293034) (h : cZ P b S S' T n L t L2 f) (ho : P.1 out = some (xJ 1 g)) (h1 : b + 335 ≤ out) (h2 : out < P.2.1) (x y z : Int32) : xC w (d + 18) mL_sense [.ref b, .int x, .int y, .int z, .ref out] P (lO b S S' T n L t L2 f out P (mL (aSense L x y z))) := by
  have hO := h.1
  refine xC_of (by decide) (ble rfl) (ls := [some (.ref b), some (.int x), some (.int y), some (.int z), some (.ref out), none]) rfl ?_
  have kk := k_sense (w := w) (d := d + 15) hr h x y z
  match hR : aSense L x y z with
  | .ok v0 =>
    rw [hR] at kk
    refine sL_sense_0 (sL_sense_2 (sL_sense_3 (sL_sense_4 (sL_sense_5 (sL_sense_6 (sL_sense_7_g (ble rfl) hO kk (fun _ P1 q => ?_) (fun q9 P1 q => by cases q.1)))))))
    obtain ⟨q, c1, c2⟩ := q
    cases q
    have o1 := (c2.1 out h2 (by omega)).trans ho
    show X w mL_sense (d + 18) _ 10 _ [.int v0, .int 0, .ref out] P1
    refine sL_sense_10 (sL_sense_11 o1 v01 (sL_sense_12 (sL_sense_19 (sL_sense_20 (lO_1 h1 h2 c1 c2)))))
  | .error e0 =>
    rw [hR] at kk
    obtain rfl := er_sense hR
    refine sL_sense_0 (sL_sense_2 (sL_sense_3 (sL_sense_4 (sL_sense_5 (sL_sense_6 (sL_sense_7_g (ble rfl) hO kk (fun _ P1 q => by obtain ⟨_, q, _⟩ := q; cases q) (fun q9 P1 q => ?_)))))))
    obtain ⟨q9, q, q2, c1, c2⟩ := q
    cases q
    refine Xt_catch (k := 11) (x := (0, 12, 15, 13)) (suf := []) rfl (by decide) (by decide) xk_3 xk_4 q2 rfl ?_
    refine sL_sense_15 rfl (sL_sense_17 (sL_sense_18 (lO_2 ho h1 h2 c1 c2)))
theorem er_arc {x y z : Int32} {e : Nat} (h : aArc L x y z = .error e) : e = 1 := by
  unfold aArc at h
  (repeat' split at h) <;> cases h <;> first | rfl | exact Or.inl rfl | exact Or.inr rfl
theorem l_arc (hr : P.2.1 + 1 ≤ w.z + 601024 ∧ P.2.2 + 6 ≤ 7293034) (h : cZ P b S S' T n L t L2 f) (hw : wL L) (ho : P.1 out = some (xJ 1 g)) (h1 : b + 335 ≤ out) (h2 : out < P.2.1) (x y z : Int32) : xC w (d + 18) mL_arc [.ref b, .int x, .int y, .int z, .ref out] P (lO b S S' T n L t L2 f out P (mL (aArc L x y z))) := by
  have hO := h.1
  refine xC_of (by decide) (ble rfl) (ls := [some (.ref b), some (.int x), some (.int y), some (.int z), some (.ref out), none]) rfl ?_
  have kk := k_arc (w := w) (d := d + 14) hr h hw x y z
  match hR : aArc L x y z with
  | .ok v0 =>
    rw [hR] at kk
    refine sL_arc_0 (sL_arc_2 (sL_arc_3 (sL_arc_4 (sL_arc_5 (sL_arc_6 (sL_arc_7_g (ble rfl) hO kk (fun _ P1 q => ?_) (fun q9 P1 q => by cases q.1)))))))
    obtain ⟨q, c1, c2⟩ := q
    cases q
    have o1 := (c2.1 out h2 (by omega)).trans ho
    show X w mL_arc (d + 18) _ 10 _ [.int v0, .int 0, .ref out] P1
    refine sL_arc_10 (sL_arc_11 o1 v01 (sL_arc_12 (sL_arc_19 (sL_arc_20 (lO_1 h1 h2 c1 c2)))))
  | .error e0 =>
    rw [hR] at kk
    obtain rfl := er_arc hR
    refine sL_arc_0 (sL_arc_2 (sL_arc_3 (sL_arc_4 (sL_arc_5 (sL_arc_6 (sL_arc_7_g (ble rfl) hO kk (fun _ P1 q => by obtain ⟨_, q, _⟩ := q; cases q) (fun q9 P1 q => ?_)))))))
    obtain ⟨q9, q, q2, c1, c2⟩ := q
    cases q
    refine Xt_catch (k := 11) (x := (0, 12, 15, 13)) (suf := []) rfl (by decide) (by decide) xk_3 xk_4 q2 rfl ?_
    refine sL_arc_15 rfl (sL_arc_17 (sL_arc_18 (lO_2 ho h1 h2 c1 c2)))
theorem er_delay {x y z u v : Int32} {e : Nat} (h : aDelay L x y z u v = .error e) : e = 1 ∨ e = 2 := by
  unfold aDelay at h
  (repeat' split at h) <;> cases h <;> first | rfl | exact Or.inl rfl | exact Or.inr rfl
theorem l_delay (hr : P.2.1 + 1 ≤ w.z + 601024 ∧ P.2.2 + 6 ≤ 7293034) (h : cZ P b S S' T n L t L2 f) (hw : wL L) (ho : P.1 out = some (xJ 1 g)) (h1 : b + 335 ≤ out) (h2 : out < P.2.1) (x y z u v : Int32) : xC w (d + 18) mL_delay [.ref b, .int x, .int y, .int z, .int u, .int v, .ref out] P (lO b S S' T n L t L2 f out P (mL (aDelay L x y z u v))) := by
  have hO := h.1
  refine xC_of (by decide) (ble rfl) (ls := [some (.ref b), some (.int x), some (.int y), some (.int z), some (.int u), some (.int v), some (.ref out), none]) rfl ?_
  have kk := k_delay (w := w) (d := d + 12) hr h hw x y z u v
  match hR : aDelay L x y z u v with
  | .ok v0 =>
    rw [hR] at kk
    refine sL_delay_0 (sL_delay_2 (sL_delay_3 (sL_delay_4 (sL_delay_5 (sL_delay_6 (sL_delay_7 (sL_delay_9 (sL_delay_11_g (ble rfl) hO kk (fun _ P1 q => ?_) (fun q9 P1 q => by cases q.1)))))))))
    obtain ⟨q, c1, c2⟩ := q
    cases q
    have o1 := (c2.1 out h2 (by omega)).trans ho
    show X w mL_delay (d + 18) _ 14 _ [.int v0, .int 0, .ref out] P1
    refine sL_delay_14 (sL_delay_15 o1 v01 (sL_delay_16 (sL_delay_27 (sL_delay_28 (lO_1 h1 h2 c1 c2)))))
  | .error e0 =>
    rw [hR] at kk
    rcases er_delay hR with rfl | rfl
    · refine sL_delay_0 (sL_delay_2 (sL_delay_3 (sL_delay_4 (sL_delay_5 (sL_delay_6 (sL_delay_7 (sL_delay_9 (sL_delay_11_g (ble rfl) hO kk (fun _ P1 q => by obtain ⟨_, q, _⟩ := q; cases q) (fun q9 P1 q => ?_)))))))))
      obtain ⟨q9, q, q2, c1, c2⟩ := q
      cases q
      refine Xt_catch (k := 11) (x := (0, 16, 19, 13)) (suf := [(0, 16, 23, 30)]) rfl (by decide) (by decide) xk_3 xk_4 q2 rfl ?_
      refine sL_delay_19 rfl (sL_delay_21 (sL_delay_22 (lO_2 ho h1 h2 c1 c2)))
    · refine sL_delay_0 (sL_delay_2 (sL_delay_3 (sL_delay_4 (sL_delay_5 (sL_delay_6 (sL_delay_7 (sL_delay_9 (sL_delay_11_g (ble rfl) hO kk (fun _ P1 q => by obtain ⟨_, q, _⟩ := q; cases q) (fun q9 P1 q => ?_)))))))))
      obtain ⟨q9, q, q2, c1, c2⟩ := q
      cases q
      refine Xt_catch2 (nm1 := xIOE) (x1 := (0, 16, 19, 13)) (x := (0, 16, 23, 30)) (suf := []) rfl (by decide) xk_3 (by decide) (by decide) xk_5 xk_6 q2 ?_
      refine sL_delay_23 rfl (sL_delay_25 (sL_delay_26 (lO_2 ho h1 h2 c1 c2)))
theorem er_power {x y : Int32} {e : Nat} (h : aPower L x y = .error e) : e = 1 := by
  unfold aPower at h
  (repeat' split at h) <;> cases h <;> first | rfl | exact Or.inl rfl | exact Or.inr rfl
theorem l_power (hr : P.2.1 + 1 ≤ w.z + 601024 ∧ P.2.2 + 6 ≤ 7293034) (h : cZ P b S S' T n L t L2 f) (ho : P.1 out = some (xJ 1 g)) (h1 : b + 335 ≤ out) (h2 : out < P.2.1) (x y : Int32) : xC w (d + 18) mL_power [.ref b, .int x, .int y, .ref out] P (lO b S S' T n L t L2 f out P (mL (aPower L x y))) := by
  have hO := h.1
  refine xC_of (by decide) (ble rfl) (ls := [some (.ref b), some (.int x), some (.int y), some (.ref out), none]) rfl ?_
  have kk := k_power (w := w) (d := d + 15) hr h x y
  match hR : aPower L x y with
  | .ok v0 =>
    rw [hR] at kk
    refine sL_power_0 (sL_power_1 (sL_power_2 (sL_power_3 (sL_power_4 (sL_power_5_g (ble rfl) hO kk (fun _ P1 q => ?_) (fun q9 P1 q => by cases q.1))))))
    obtain ⟨q, c1, c2⟩ := q
    cases q
    have o1 := (c2.1 out h2 (by omega)).trans ho
    show X w mL_power (d + 18) _ 8 _ [.int v0, .int 0, .ref out] P1
    refine sL_power_8 (sL_power_9 o1 v01 (sL_power_10 (sL_power_17 (sL_power_18 (lO_1 h1 h2 c1 c2)))))
  | .error e0 =>
    rw [hR] at kk
    obtain rfl := er_power hR
    refine sL_power_0 (sL_power_1 (sL_power_2 (sL_power_3 (sL_power_4 (sL_power_5_g (ble rfl) hO kk (fun _ P1 q => by obtain ⟨_, q, _⟩ := q; cases q) (fun q9 P1 q => ?_))))))
    obtain ⟨q9, q, q2, c1, c2⟩ := q
    cases q
    refine Xt_catch (k := 11) (x := (0, 10, 13, 13)) (suf := []) rfl (by decide) (by decide) xk_3 xk_4 q2 rfl ?_
    refine sL_power_13 rfl (sL_power_15 (sL_power_16 (lO_2 ho h1 h2 c1 c2)))
theorem er_alike {x y : Int32} {e : Nat} (h : aAlike L x y = .error e) : e = 1 := by
  unfold aAlike at h
  (repeat' split at h) <;> cases h <;> first | rfl | exact Or.inl rfl | exact Or.inr rfl
theorem l_alike (hr : P.2.1 + 1 ≤ w.z + 601024 ∧ P.2.2 + 6 ≤ 7293034) (h : cZ P b S S' T n L t L2 f) (hw : wL L) (ho : P.1 out = some (xJ 1 g)) (h1 : b + 335 ≤ out) (h2 : out < P.2.1) (x y : Int32) : xC w (d + 18) mL_alike [.ref b, .int x, .int y, .ref out] P (lO b S S' T n L t L2 f out P (mL (aAlike L x y))) := by
  have hO := h.1
  refine xC_of (by decide) (ble rfl) (ls := [some (.ref b), some (.int x), some (.int y), some (.ref out), none]) rfl ?_
  have kk := k_alike (w := w) (d := d + 1) hr h hw x y
  match hR : aAlike L x y with
  | .ok v0 =>
    rw [hR] at kk
    refine sL_alike_0 (sL_alike_1 (sL_alike_2 (sL_alike_3 (sL_alike_4 (sL_alike_5_g (ble rfl) hO kk (fun _ P1 q => ?_) (fun q9 P1 q => by cases q.1))))))
    obtain ⟨q, c1, c2⟩ := q
    cases q
    have o1 := (c2.1 out h2 (by omega)).trans ho
    show X w mL_alike (d + 18) _ 8 _ [.int v0, .int 0, .ref out] P1
    have e01 : v0 = 0 ∨ v0 = 1 := by
      unfold aAlike at hR
      (repeat' split at hR) <;> cases hR
      exact mtB_01 _ _
    refine sL_alike_8 (fun z => ?_) (fun z => ?_)
    · refine sL_alike_15 (sL_alike_16 o1 v01 (sL_alike_17 (sL_alike_24 (sL_alike_25 (by rw [z]; exact lO_1 h1 h2 c1 c2)))))
    · refine sL_alike_11 (sL_alike_12 (sL_alike_16 o1 v01 (sL_alike_17 (sL_alike_24 (sL_alike_25 (by rw [e01.resolve_left z]; exact lO_1 h1 h2 c1 c2))))))
  | .error e0 =>
    rw [hR] at kk
    obtain rfl := er_alike hR
    refine sL_alike_0 (sL_alike_1 (sL_alike_2 (sL_alike_3 (sL_alike_4 (sL_alike_5_g (ble rfl) hO kk (fun _ P1 q => by obtain ⟨_, q, _⟩ := q; cases q) (fun q9 P1 q => ?_))))))
    obtain ⟨q9, q, q2, c1, c2⟩ := q
    cases q
    refine Xt_catch (k := 11) (x := (0, 17, 20, 13)) (suf := []) rfl (by decide) (by decide) xk_3 xk_4 q2 rfl ?_
    refine sL_alike_20 rfl (sL_alike_22 (sL_alike_23 (lO_2 ho h1 h2 c1 c2)))
theorem er_order {x y z : Int32} {e : Nat} (h : aOrder L x y z = .error e) : e = 1 := by
  unfold aOrder at h
  (repeat' split at h) <;> cases h <;> first | rfl | exact Or.inl rfl | exact Or.inr rfl
theorem l_order (hr : P.2.1 + 1 ≤ w.z + 601024 ∧ P.2.2 + 6 ≤ 7293034) (h : cZ P b S S' T n L t L2 f) (hw : wL L) (ho : P.1 out = some (xJ 1 g)) (h1 : b + 335 ≤ out) (h2 : out < P.2.1) (x y z : Int32) : xC w (d + 18) mL_order [.ref b, .int x, .int y, .int z, .ref out] P (lO b S S' T n L t L2 f out P (mL (aOrder L x y z))) := by
  have hO := h.1
  refine xC_of (by decide) (ble rfl) (ls := [some (.ref b), some (.int x), some (.int y), some (.int z), some (.ref out), none]) rfl ?_
  have kk := k_order (w := w) (d := d + 1) hr h hw x y z
  match hR : aOrder L x y z with
  | .ok v0 =>
    rw [hR] at kk
    refine sL_order_0 (sL_order_2 (sL_order_3 (sL_order_4 (sL_order_5 (sL_order_6 (sL_order_7_g (ble rfl) hO kk (fun _ P1 q => ?_) (fun q9 P1 q => by cases q.1)))))))
    obtain ⟨q, c1, c2⟩ := q
    cases q
    have o1 := (c2.1 out h2 (by omega)).trans ho
    show X w mL_order (d + 18) _ 10 _ [.int v0, .int 0, .ref out] P1
    refine sL_order_10 (sL_order_11 o1 v01 (sL_order_12 (sL_order_19 (sL_order_20 (lO_1 h1 h2 c1 c2)))))
  | .error e0 =>
    rw [hR] at kk
    obtain rfl := er_order hR
    refine sL_order_0 (sL_order_2 (sL_order_3 (sL_order_4 (sL_order_5 (sL_order_6 (sL_order_7_g (ble rfl) hO kk (fun _ P1 q => by obtain ⟨_, q, _⟩ := q; cases q) (fun q9 P1 q => ?_)))))))
    obtain ⟨q9, q, q2, c1, c2⟩ := q
    cases q
    refine Xt_catch (k := 11) (x := (0, 12, 15, 13)) (suf := []) rfl (by decide) (by decide) xk_3 xk_4 q2 rfl ?_
    refine sL_order_15 rfl (sL_order_17 (sL_order_18 (lO_2 ho h1 h2 c1 c2)))
theorem er_family {x y : Int32} {e : Nat} (h : aFamily L x y f = .error e) : e = 1 := by
  unfold aFamily at h
  (repeat' split at h) <;> cases h <;> first | rfl | exact Or.inl rfl | exact Or.inr rfl
theorem l_family (hr : P.2.1 + 1 ≤ w.z + 601024 ∧ P.2.2 + 6 ≤ 7293034) (h : cZ P b S S' T n L t L2 f) (hw : wL L) (ho : P.1 out = some (xJ 1 g)) (h1 : b + 335 ≤ out) (h2 : out < P.2.1) (x y : Int32) : xC w (d + 18) mL_family [.ref b, .int x, .int y, .ref out] P (lO b S S' T n L t L2 (gaF L x (0 ≤ y) f) out P (mL (aFamily L x y f))) := by
  have hO := h.1
  refine xC_of (by decide) (ble rfl) (ls := [some (.ref b), some (.int x), some (.int y), some (.ref out), none]) rfl ?_
  have kk := k_family (w := w) (d := d + 0) hr h hw x y
  match hR : aFamily L x y f with
  | .ok v0 =>
    rw [hR] at kk
    refine sL_family_0 (sL_family_1 (sL_family_2 (sL_family_3 (sL_family_4 (sL_family_5_g (ble rfl) hO kk (fun _ P1 q => ?_) (fun q9 P1 q => by cases q.1))))))
    obtain ⟨q, c1, c2⟩ := q
    cases q
    have o1 := (c2.1 out h2 (by omega)).trans ho
    show X w mL_family (d + 18) _ 8 _ [.int v0, .int 0, .ref out] P1
    refine sL_family_8 (sL_family_9 o1 v01 (sL_family_10 (sL_family_17 (sL_family_18 (lO_1 h1 h2 c1 c2)))))
  | .error e0 =>
    rw [hR] at kk
    obtain rfl := er_family hR
    refine sL_family_0 (sL_family_1 (sL_family_2 (sL_family_3 (sL_family_4 (sL_family_5_g (ble rfl) hO kk (fun _ P1 q => by obtain ⟨_, q, _⟩ := q; cases q) (fun q9 P1 q => ?_))))))
    obtain ⟨q9, q, q2, c1, c2⟩ := q
    cases q
    refine Xt_catch (k := 11) (x := (0, 10, 13, 13)) (suf := []) rfl (by decide) (by decide) xk_3 xk_4 q2 rfl ?_
    refine sL_family_13 rfl (sL_family_15 (sL_family_16 (lO_2 ho h1 h2 c1 c2)))
theorem er_best {x y : Int32} {e : Nat} (h : aBest L x y f = .error e) : e = 1 ∨ e = 2 := by
  unfold aBest at h
  (repeat' split at h) <;> cases h <;> first | rfl | exact Or.inl rfl | exact Or.inr rfl
theorem l_best (hr : P.2.1 + 1 ≤ w.z + 601024 ∧ P.2.2 + 6 ≤ 7293034) (h : cZ P b S S' T n L t L2 f) (hw : wL L) (ho : P.1 out = some (xJ 1 g)) (h1 : b + 335 ≤ out) (h2 : out < P.2.1) (x y : Int32) : xC w (d + 18) mL_best [.ref b, .int x, .int y, .ref out] P (lO b S S' T n L t L2 (gaF L x (¬ y < 0) f) out P (mL (aBest L x y f))) := by
  have hO := h.1
  refine xC_of (by decide) (ble rfl) (ls := [some (.ref b), some (.int x), some (.int y), some (.ref out), none]) rfl ?_
  have kk := k_best (w := w) (d := d + 0) hr h hw x y
  match hR : aBest L x y f with
  | .ok v0 =>
    rw [hR] at kk
    refine sL_best_0 (sL_best_1 (sL_best_2 (sL_best_3 (sL_best_4 (sL_best_5_g (ble rfl) hO kk (fun _ P1 q => ?_) (fun q9 P1 q => by cases q.1))))))
    obtain ⟨q, c1, c2⟩ := q
    cases q
    have o1 := (c2.1 out h2 (by omega)).trans ho
    show X w mL_best (d + 18) _ 8 _ [.int v0, .int 0, .ref out] P1
    refine sL_best_8 (sL_best_9 o1 v01 (sL_best_10 (sL_best_21 (sL_best_22 (lO_1 h1 h2 c1 c2)))))
  | .error e0 =>
    rw [hR] at kk
    rcases er_best hR with rfl | rfl
    · refine sL_best_0 (sL_best_1 (sL_best_2 (sL_best_3 (sL_best_4 (sL_best_5_g (ble rfl) hO kk (fun _ P1 q => by obtain ⟨_, q, _⟩ := q; cases q) (fun q9 P1 q => ?_))))))
      obtain ⟨q9, q, q2, c1, c2⟩ := q
      cases q
      refine Xt_catch (k := 11) (x := (0, 10, 13, 13)) (suf := [(0, 10, 17, 30)]) rfl (by decide) (by decide) xk_3 xk_4 q2 rfl ?_
      refine sL_best_13 rfl (sL_best_15 (sL_best_16 (lO_2 ho h1 h2 c1 c2)))
    · refine sL_best_0 (sL_best_1 (sL_best_2 (sL_best_3 (sL_best_4 (sL_best_5_g (ble rfl) hO kk (fun _ P1 q => by obtain ⟨_, q, _⟩ := q; cases q) (fun q9 P1 q => ?_))))))
      obtain ⟨q9, q, q2, c1, c2⟩ := q
      cases q
      refine Xt_catch2 (nm1 := xIOE) (x1 := (0, 10, 13, 13)) (x := (0, 10, 17, 30)) (suf := []) rfl (by decide) xk_3 (by decide) (by decide) xk_5 xk_6 q2 ?_
      refine sL_best_17 rfl (sL_best_19 (sL_best_20 (lO_2 ho h1 h2 c1 c2)))
theorem er_letter {x y z : Int32} {e : Nat} (h : aLetter L x y z = .error e) : e = 1 := by
  unfold aLetter at h
  (repeat' split at h) <;> cases h <;> first | rfl | exact Or.inl rfl | exact Or.inr rfl
theorem l_letter (hr : P.2.1 + 1 ≤ w.z + 601024 ∧ P.2.2 + 6 ≤ 7293034) (h : cZ P b S S' T n L t L2 f) (ho : P.1 out = some (xJ 1 g)) (h1 : b + 335 ≤ out) (h2 : out < P.2.1) (x y z : Int32) : xC w (d + 18) mL_letter [.ref b, .int x, .int y, .int z, .ref out] P (lO b S S' T n L t L2 f out P (mL (aLetter L x y z))) := by
  have hO := h.1
  refine xC_of (by decide) (ble rfl) (ls := [some (.ref b), some (.int x), some (.int y), some (.int z), some (.ref out), none]) rfl ?_
  have kk := k_letter (w := w) (d := d + 15) hr h x y z
  match hR : aLetter L x y z with
  | .ok v0 =>
    rw [hR] at kk
    refine sL_letter_0 (sL_letter_2 (sL_letter_3 (sL_letter_4 (sL_letter_5 (sL_letter_6 (sL_letter_7_g (ble rfl) hO kk (fun _ P1 q => ?_) (fun q9 P1 q => by cases q.1)))))))
    obtain ⟨q, c1, c2⟩ := q
    cases q
    have o1 := (c2.1 out h2 (by omega)).trans ho
    show X w mL_letter (d + 18) _ 10 _ [.int v0, .int 0, .ref out] P1
    refine sL_letter_10 (sL_letter_11 o1 v01 (sL_letter_12 (sL_letter_19 (sL_letter_20 (lO_1 h1 h2 c1 c2)))))
  | .error e0 =>
    rw [hR] at kk
    obtain rfl := er_letter hR
    refine sL_letter_0 (sL_letter_2 (sL_letter_3 (sL_letter_4 (sL_letter_5 (sL_letter_6 (sL_letter_7_g (ble rfl) hO kk (fun _ P1 q => by obtain ⟨_, q, _⟩ := q; cases q) (fun q9 P1 q => ?_)))))))
    obtain ⟨q9, q, q2, c1, c2⟩ := q
    cases q
    refine Xt_catch (k := 11) (x := (0, 12, 15, 13)) (suf := []) rfl (by decide) (by decide) xk_3 xk_4 q2 rfl ?_
    refine sL_letter_15 rfl (sL_letter_17 (sL_letter_18 (lO_2 ho h1 h2 c1 c2)))
theorem er_count {x : Int32} {e : Nat} (h : aCount L n x = .error e) : e = 1 := by
  unfold aCount at h
  (repeat' split at h) <;> cases h <;> first | rfl | exact Or.inl rfl | exact Or.inr rfl
theorem l_count (hr : P.2.1 + 1 ≤ w.z + 601024 ∧ P.2.2 + 6 ≤ 7293034) (h : cZ P b S S' T n L t L2 f) (ho : P.1 out = some (xJ 1 g)) (h1 : b + 335 ≤ out) (h2 : out < P.2.1) (x : Int32) : xC w (d + 18) mL_count [.ref b, .int x, .ref out] P (lO b S S' T n L t L2 f out P (mL (aCount L n x))) := by
  have hO := h.1
  refine xC_of (by decide) (ble rfl) (ls := [some (.ref b), some (.int x), some (.ref out), none]) rfl ?_
  have kk := k_count (w := w) (d := d + 16) hr h x
  match hR : aCount L n x with
  | .ok v0 =>
    rw [hR] at kk
    refine sL_count_0 (sL_count_1 (sL_count_2 (sL_count_3 (sL_count_4_g (ble rfl) hO kk (fun _ P1 q => ?_) (fun q9 P1 q => by cases q.1)))))
    obtain ⟨q, c1, c2⟩ := q
    cases q
    have o1 := (c2.1 out h2 (by omega)).trans ho
    show X w mL_count (d + 18) _ 7 _ [.int v0, .int 0, .ref out] P1
    refine sL_count_7 (sL_count_8 o1 v01 (sL_count_9 (sL_count_15 (sL_count_16 (lO_1 h1 h2 c1 c2)))))
  | .error e0 =>
    rw [hR] at kk
    obtain rfl := er_count hR
    refine sL_count_0 (sL_count_1 (sL_count_2 (sL_count_3 (sL_count_4_g (ble rfl) hO kk (fun _ P1 q => by obtain ⟨_, q, _⟩ := q; cases q) (fun q9 P1 q => ?_)))))
    obtain ⟨q9, q, q2, c1, c2⟩ := q
    cases q
    refine Xt_catch (k := 11) (x := (0, 9, 12, 13)) (suf := []) rfl (by decide) (by decide) xk_3 xk_4 q2 rfl ?_
    refine sL_count_12 rfl (sL_count_13 (sL_count_14 (lO_2 ho h1 h2 c1 c2)))
end RQ
