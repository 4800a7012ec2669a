section Q1
variable {w : xWd} {d o : Nat} {F : mF} {T : Nat → Int32} {n b : Nat} {L : liT}
/-! ANSWERS: a value, or which exception -/
abbrev ix (k : Int32) (n : Nat) : Prop := ¬ k < 0 ∧ k < nI n
def eN {α : Type} (r : Except Nat α) : Int32 := match r with
  | .ok _ => 0
  | .error e => nI e
def vI (r : Except Nat Int32) : Int32 := match r with
  | .ok v => v
  | .error _ => 0
def vJ (r : Except Nat Int64) : Int64 := match r with
  | .ok v => v
  | .error _ => 0
theorem ix_of {k : Int32} {n : Nat} (hn : n < 2 ^ 31) (h : ix k n) : ∃ j, j < n ∧ k = nI j := by
  obtain ⟨j, h1, rfl⟩ := nI_of2 (x := k) (M := 2147483647) (n := 2147483647) (by decide) h.1 (le_mx k)
  refine ⟨j, ?_, rfl⟩
  rcases Nat.lt_or_ge j n with z | z
  · exact z
  · have := nI_le z (by omega : j < 2 ^ 31)
    have := h.2
    grind
theorem ix_nI {j n : Nat} (h : j < n) (hn : n < 2 ^ 31) : ix (nI j) n := by
  have h1 := nI_ge h hn
  have h2 : nI 0 ≤ nI j := nI_le (Nat.zero_le _) (by omega)
  have h2 : (0 : Int32) ≤ nI j := h2
  exact ⟨by grind, by grind⟩
def aTruth (L : liT) (k x : Int32) : Except Nat Int64 := if ix k L.cc then (if ix x (L.cs k.toNatClampNeg).o then .ok ((L.cs k.toNatClampNeg).tr x.toNatClampNeg) else .error 1) else .error 1
def aSense (L : liT) (k x y : Int32) : Except Nat Int32 := if ix k L.cc then (if ix x (L.cs k.toNatClampNeg).i then (if ix y (L.cs k.toNatClampNeg).o then .ok (sns ((L.cs k.toNatClampNeg).tr y.toNatClampNeg) x.toNatClampNeg) else .error 1) else .error 1) else .error 1
def aArc (L : liT) (k a x : Int32) : Except Nat Int32 := if ix k L.cc then (if ix a (L.cs k.toNatClampNeg).ac then (if ix x 6 then (if x < 5 then .ok ((L.cs k.toNatClampNeg).arcs (a.toNatClampNeg * 5 + x.toNatClampNeg)) else .ok (agr (L.cs k.toNatClampNeg).arcs (L.cs k.toNatClampNeg).tr a.toNatClampNeg)) else .error 1) else .error 1) else .error 1
def aPower (L : liT) (k s : Int32) : Except Nat Int32 := if ix k L.cc then (if ix s (2 ^ (L.cs k.toNatClampNeg).i) then .ok (if (L.cs k.toNatClampNeg).pt = 0 then 0 else (L.cs k.toNatClampNeg).pw s.toNatClampNeg) else .error 1) else .error 1
def aCount (L : liT) (n : Nat) (x : Int32) : Except Nat Int32 := if x = 0 then .ok (nI L.cc) else if x = 1 then .ok (nI L.tc) else if x = 2 then .ok (nI n) else .error 1
def aLetter (L : liT) (k p i : Int32) : Except Nat Int32 := if ix k L.cc then (if p = -1 ∨ ix p ((L.cs k.toNatClampNeg).i + (L.cs k.toNatClampNeg).o) then (if 0 ≤ i then .ok (chO (if p = -1 then (L.cs k.toNatClampNeg).nm else (L.cs k.toNatClampNeg).pins p.toNatClampNeg) i) else .error 1) else .error 1) else .error 1
def celV (c : ceT) (x : Int32) : Except Nat Int32 := if x = 0 then .ok (nI c.i) else if x = 1 then .ok (nI c.o) else if x = 2 then .ok (nI c.ac) else if x = 3 then .ok (c.am 0) else if x = 4 then .ok (c.am 1) else if x = 5 then .ok (c.am 2) else if x = 6 then .ok (dsg c.arcs c.tr c.ac 0 0) else if x = 7 then .ok c.pl else .error 1
def aCell (L : liT) (k x : Int32) : Except Nat Int32 := if ix k L.cc then celV (L.cs k.toNatClampNeg) x else .error 1
/-! the model answers so -/
theorem m_isCell (h : mZ F T n b L) (k : Int32) : yC w d mX11_isCell [.ref o, .int k] o F (yR (some (.int (if ix k L.cc then 1 else 0))) F) := by
  obtain ⟨_, _, _, s3, hb, hL, hw⟩ := h
  refine yC_of (by decide) (ble rfl) (ls := [some (.ref o), some (.int k)]) rfl ?_
  refine yX11_isCell_0 (yX11_isCell_1 (fun h1 => ?_) (fun h1 => ?_))
  · refine yX11_isCell_21 (yX11_isCell_22 (Or.inl rfl) ⟨?_, rfl⟩)
    rw [if_neg (fun z => z.1 h1)]
  · refine yX11_isCell_4 (yX11_isCell_5 (yX11_isCell_6 (yX11_isCell_9 (yX11_isCell_10 (yX11_isCell_13 (ble rfl) rfl (i := b) s3 hb ?_)))))
    rw [hL.2.1]
    refine yX11_isCell_14 (fun h2 => ?_) (fun h2 => ?_)
    · refine yX11_isCell_21 (yX11_isCell_22 (Or.inl rfl) ⟨?_, rfl⟩)
      rw [if_neg (fun z => by have := z.2; grind)]
    · refine yX11_isCell_17 (yX11_isCell_18 (yX11_isCell_22 (Or.inr rfl) ⟨?_, rfl⟩))
      rw [if_pos ⟨h1, by grind⟩]
theorem mZ.cell {j : Nat} (h : mZ F T n b L) (hj : j < L.cc) : celR F (12 * b + j) (L.cs j) ∧ wC L.tc (L.cs j) ∧ 0 < (L.cs j).o ∧ 12 * b + j < 24 ∧ (12 : Int32) * F.s 3 + nI j = nI (12 * b + j) ∧ j < 2 ^ 31 := by
  obtain ⟨_, _, _, s3, hb, hL, hw⟩ := h
  have := hw.2.1
  exact ⟨hL.2.2.2 j hj, (hw.2.2.2.2.2 j hj).1, (hw.2.2.2.2.2 j hj).2, by omega, by rw [s3]; exact ixm 12 _ _, by omega⟩
theorem mZ.cc (h : mZ F T n b L) : L.cc < 2 ^ 31 := by
  have := h.2.2.2.2.2.2.2.1
  omega
theorem b1_0 {p : Prop} [Decidable p] (h : (if p then (1 : Int32) else 0) = 0) : ¬ p := fun z => by rw [if_pos z] at h; exact absurd h (by decide)
theorem b1_1 {p : Prop} [Decidable p] (h : ¬ (if p then (1 : Int32) else 0) = 0) : p := by
  by_cases z : p
  · exact z
  · rw [if_neg z] at h; exact absurd rfl h
theorem n10 : ¬ (1 : Int32) ≤ 0 := by decide
theorem n20 : ¬ (2 : Int32) ≤ 0 := by decide
theorem z00 : (0 : Int32) ≤ 0 := by decide
theorem q_truth (hz : mZ F T n b L) (k x : Int32) : yC w (d + 1) mX11_truth [.ref o, .int k, .int x] o F (yR (some (.long (vJ (aTruth L k x)))) (F.uS 0 (eN (aTruth L k x)))) := by
  refine yC_of (by decide) (ble rfl) (ls := [some (.ref o), some (.int k), some (.int x)]) rfl ?_
  have E : aTruth L k x = .error 1 → Y w mX11_truth (d + 1) (yR (some (.long (vJ (aTruth L k x)))) (F.uS 0 (eN (aTruth L k x)))) o 31 [some (.ref o), some (.int k), some (.int x)] [.ref o] F := by
    intro e
    rw [e]
    refine yX11_truth_31 (yX11_truth_32 (yX11_truth_36 (yX11_truth_39 (yX11_truth_40 (yX11_truth_43 (fun h => absurd h n10) (fun _ => ?_))))))
    refine yX11_truth_46 (yX11_truth_47 (yX11_truth_68 ⟨rfl, rfl⟩))
  refine yX11_truth_0 (yX11_truth_1 (yX11_truth_2 (yX11_truth_3 (ble rfl) (m_isCell hz k) (yX11_truth_6 (fun h6 => ?_) (fun h6 => ?_)))))
  · exact E (if_neg (b1_0 h6))
  have h6 := b1_1 h6
  obtain ⟨j, hj, rfl⟩ := ix_of hz.cc h6
  obtain ⟨rc, wc, _, c24, hc, j31⟩ := hz.cell hj
  have e1 : aTruth L (nI j) x = if ix x (L.cs j).o then .ok ((L.cs j).tr x.toNatClampNeg) else .error 1 := by unfold aTruth; rw [if_pos h6, nI_clamp j31]
  refine yX11_truth_9 (yX11_truth_10 (fun h10 => ?_) (fun h10 => ?_))
  · exact E (e1.trans (if_neg (fun z => z.1 h10)))
  refine yX11_truth_13 (yX11_truth_14 (yX11_truth_15 (yX11_truth_18 (yX11_truth_20 (yX11_truth_21 (yX11_truth_24 (yX11_truth_25 (yX11_truth_26 (yX11_truth_27 (ble rfl) rfl (i := 12 * b + j) hc c24 ?_)))))))))
  rw [rc.2.2.2.1]
  refine yX11_truth_28 (fun h28 => ?_) (fun h28 => ?_)
  · obtain ⟨i, hi, rfl⟩ := ix_of (n := (L.cs j).o) (by have := wc.2.1; omega) ⟨h10, h28⟩
    rw [e1, if_pos ⟨h10, h28⟩, nI_clamp (by have := wc.2.1; omega)]
    refine yX11_truth_35 (yX11_truth_36 (yX11_truth_39 (yX11_truth_40 (yX11_truth_43 (fun _ => ?_) (fun h => absurd z00 h)))))
    refine yX11_truth_50 (yX11_truth_51 (yX11_truth_54 (yX11_truth_55 (yX11_truth_57 (yX11_truth_58 (yX11_truth_61 (yX11_truth_62 (yX11_truth_63 (yX11_truth_64 (yX11_truth_65 (yX11_truth_66 (yX11_truth_67 (ble rfl) rfl (i := 3 * (12 * b + j) + i) (by show (3 : Int32) * (12 * F.s 3 + nI j) + nI i = _; rw [hc]; exact ixm 3 _ _) (by have := wc.2.1; omega) (yX11_truth_68 ⟨congrArg (fun z => some (Value.long z)) (rc.2.2.2.2.2.2.2.2.2.2.1 i hi), rfl⟩)))))))))))))
  · exact E (e1.trans (if_neg (fun z => h28 z.2)))
theorem q_power (hz : mZ F T n b L) (k x : Int32) : yC w (d + 1) mX11_power [.ref o, .int k, .int x] o F (yR (some (.int (vI (aPower L k x)))) (F.uS 0 (eN (aPower L k x)))) := by
  refine yC_of (by decide) (ble rfl) (ls := [some (.ref o), some (.int k), some (.int x)]) rfl ?_
  have E : aPower L k x = .error 1 → Y w mX11_power (d + 1) (yR (some (.int (vI (aPower L k x)))) (F.uS 0 (eN (aPower L k x)))) o 33 [some (.ref o), some (.int k), some (.int x)] [.ref o] F := by
    intro e
    rw [e]
    refine yX11_power_33 (yX11_power_34 (yX11_power_38 (yX11_power_41 (yX11_power_42 (yX11_power_45 (fun h => absurd h n10) (fun _ => ?_))))))
    refine yX11_power_48 (yX11_power_49 (yX11_power_71 ⟨rfl, rfl⟩))
  refine yX11_power_0 (yX11_power_1 (yX11_power_2 (yX11_power_3 (ble rfl) (m_isCell hz k) (yX11_power_6 (fun h6 => ?_) (fun h6 => ?_)))))
  · exact E (if_neg (b1_0 h6))
  have h6 := b1_1 h6
  obtain ⟨j, hj, rfl⟩ := ix_of hz.cc h6
  obtain ⟨rc, wc, _, c24, hc, j31⟩ := hz.cell hj
  have p2 : 2 ^ (L.cs j).i ≤ 64 := Nat.pow_le_pow_right (n := 2) (by omega) wc.1
  have e1 : aPower L (nI j) x = if ix x (2 ^ (L.cs j).i) then .ok (if (L.cs j).pt = 0 then 0 else (L.cs j).pw x.toNatClampNeg) else .error 1 := by unfold aPower; rw [if_pos h6, nI_clamp j31]
  refine yX11_power_9 (yX11_power_10 (fun h10 => ?_) (fun h10 => ?_))
  · exact E (e1.trans (if_neg (fun z => z.1 h10)))
  refine yX11_power_13 (yX11_power_14 (yX11_power_15 (yX11_power_16 (yX11_power_19 (yX11_power_21 (yX11_power_22 (yX11_power_25 (yX11_power_26 (yX11_power_27 (yX11_power_28 (ble rfl) rfl (i := 12 * b + j) hc c24 ?_))))))))))
  rw [rc.2.2.1]
  refine yX11_power_29 ?_
  rw [sh1 ⟨(L.cs j).i, by have := wc.1; omega⟩]
  refine yX11_power_30 (fun h28 => ?_) (fun h28 => ?_)
  · obtain ⟨i, hi, rfl⟩ := ix_of (n := 2 ^ (L.cs j).i) (by omega) ⟨h10, h28⟩
    rw [e1, if_pos ⟨h10, h28⟩, nI_clamp (by omega)]
    refine yX11_power_37 (yX11_power_38 (yX11_power_41 (yX11_power_42 (yX11_power_45 (fun _ => ?_) (fun h => absurd z00 h)))))
    refine yX11_power_52 (yX11_power_53 (yX11_power_56 (yX11_power_58 (yX11_power_60 (yX11_power_61 (yX11_power_64 (yX11_power_65 (yX11_power_66 (yX11_power_67 (yX11_power_68 (yX11_power_69 (yX11_power_70 (ble rfl) rfl (i := 64 * (12 * b + j) + i) (by show (64 : Int32) * (12 * F.s 3 + nI j) + nI i = _; rw [hc]; exact ixm 64 _ _) (by omega) (yX11_power_71 ⟨congrArg (fun z => some (Value.int z)) ?_, rfl⟩)))))))))))))
    show F.a 20 (64 * (12 * b + j) + i) = if (L.cs j).pt = 0 then 0 else (L.cs j).pw i
    split
    · exact rc.2.2.2.2.2.2.2.2.2.2.2.2.1 (by assumption) i (by omega)
    · exact rc.2.2.2.2.2.2.2.2.2.2.2.2.2 (by assumption) i hi
  · exact E (e1.trans (if_neg (fun z => h28 z.2)))
theorem q_count (hz : mZ F T n b L) (x : Int32) : yC w (d + 1) mX11_count [.ref o, .int x] o F (yR (some (.int (vI (aCount L n x)))) (F.uS 0 (eN (aCount L n x)))) := by
  obtain ⟨_, s1, _, s3, hb, hL, hw⟩ := hz
  refine yC_of (by decide) (ble rfl) (ls := [some (.ref o), some (.int x)]) rfl ?_
  have E : aCount L n x = .error 1 → Y w mX11_count (d + 1) (yR (some (.int (vI (aCount L n x)))) (F.uS 0 (eN (aCount L n x)))) o 10 [some (.ref o), some (.int x)] [.ref o] F := by
    intro e
    rw [e]
    refine yX11_count_10 (yX11_count_11 (yX11_count_15 (yX11_count_18 (yX11_count_19 (yX11_count_22 (fun h => absurd h n10) (fun _ => ?_))))))
    refine yX11_count_25 (yX11_count_26 (yX11_count_66 ⟨rfl, rfl⟩))
  unfold aCount at E ⊢
  refine yX11_count_0 (yX11_count_1 (yX11_count_2 (fun h2 => ?_) (fun h2 => ?_)))
  · exact E (by rw [if_neg (by grind), if_neg (by grind), if_neg (by grind)])
  refine yX11_count_5 (yX11_count_6 (yX11_count_7 (fun h7 => ?_) (fun h7 => ?_)))
  rotate_left
  · exact E (by rw [if_neg (by grind), if_neg (by grind), if_neg (by grind)])
  clear E
  refine yX11_count_14 (yX11_count_15 (yX11_count_18 (yX11_count_19 (yX11_count_22 (fun _ => ?_) (fun h => absurd z00 h)))))
  refine yX11_count_29 (yX11_count_30 (fun h0 => ?_) (fun h0 => ?_))
  rotate_left
  · rw [if_pos (by grind)]
    refine yX11_count_33 (yX11_count_34 (yX11_count_37 (yX11_count_38 (yX11_count_41 (ble rfl) rfl (i := b) s3 hb (yX11_count_42 (yX11_count_66 ⟨congrArg (fun z => some (Value.int z)) hL.2.1, rfl⟩))))))
  rw [if_neg h0]
  refine yX11_count_45 (yX11_count_46 (yX11_count_47 (fun h1 => ?_) (fun h1 => ?_)))
  rotate_left
  · rw [if_pos h1]
    refine yX11_count_50 (yX11_count_51 (yX11_count_54 (yX11_count_55 (yX11_count_58 (ble rfl) rfl (i := b) s3 hb (yX11_count_59 (yX11_count_66 ⟨congrArg (fun z => some (Value.int z)) hL.1.1, rfl⟩))))))
  rw [if_neg h1]
  have h2 : x = 2 := by grind
  rw [if_pos h2]
  refine yX11_count_62 (yX11_count_63 (yX11_count_66 ⟨congrArg (fun z => some (Value.int z)) s1, rfl⟩))
/-! senses -/
theorem or_t : ∀ i : Fin 6, ∀ s : Fin 64, nI s.val ||| nI (2 ^ i.val) = if s.val.testBit i then nI s.val else nI (s.val + 2 ^ i.val) := by decide +kernel
theorem sh5 : ∀ i : Fin 6, (1 : Int32) <<< (nI i &&& 31) = nI (2 ^ i.val) := by decide +kernel
def bb (a : Bool) : Int64 := if a then 1 else 0
theorem bb_ge : ∀ a c : Bool, (0 ≤ lg_cmp (bb a) (bb c)) ↔ ¬ (a = false ∧ c = true) := by decide
theorem bb_le : ∀ a c : Bool, (lg_cmp (bb a) (bb c) ≤ 0) ↔ ¬ (a = true ∧ c = false) := by decide
theorem within_bt {x : Int64} {i : Nat} (hi : i ≤ 6) (h : wthn x (nI (2 ^ i)) = x) : ∀ s, 2 ^ i ≤ s → bt x s = false := by
  intro s hs
  rw [wthn_a hi] at h
  rw [← h, bt_and]
  by_cases h6 : s < 64
  · have : ∀ i : Fin 7, ∀ s : Fin 64, 2 ^ i.val ≤ s.val → bt (allM i) s = false := by decide +kernel
    rw [this ⟨i, by omega⟩ ⟨s, h6⟩ hs]
    exact Bool.and_false _
  · rw [bt_ge _ (by omega)]; rfl
def upS (x : Int64) (i s : Nat) : Prop := s.testBit i = false ∧ bt x s = false ∧ bt x (s + 2 ^ i) = true
def dnS (x : Int64) (i s : Nat) : Prop := s.testBit i = false ∧ bt x s = true ∧ bt x (s + 2 ^ i) = false
theorem m_senseOf {x : Int64} {i m : Nat} (hi : i < m) (hm : m ≤ 6) (hx : wthn x (nI (2 ^ m)) = x) : yC w d mX11_senseOf [.long x, .int (nI i), .int (nI m)] o F (yR (some (.int (sns x i))) F) := by
  have p2 : 2 ^ m ≤ 64 := Nat.pow_le_pow_right (n := 2) (by omega) hm
  have wb := within_bt hm hx
  refine yC_of (by decide) (ble rfl) (ls := [some (.long x), none, some (.int (nI i)), some (.int (nI m)), none, none, none, none]) rfl ?_
  have Z : ∀ (r f : Int32) (t : Option Value), (r = 0 ∨ r = 1) → (f = 0 ∨ f = 1) → (r = 1 ↔ ∃ s, s < 2 ^ m ∧ upS x i s) → (f = 1 ↔ ∃ s, s < 2 ^ m ∧ dnS x i s) → Y w mX11_senseOf d (yR (some (.int (sns x i))) F) o 94 [some (.long x), none, some (.int (nI i)), some (.int (nI m)), some (.int r), some (.int f), some (.int (nI (2 ^ m))), t] [] F := by
    intro r f t hr hf er ef
    have p1 := Nat.two_pow_pos i
    replace er : r = 1 ↔ ¬ (sW1 x i &&& (sW0 x i ^^^ -1)) = 0 := by
      rw [er, sns_r x (by omega)]
      constructor
      · rintro ⟨s, h1, h2⟩; exact ⟨s, by omega, h2⟩
      · rintro ⟨s, h1, h2, h3, h4⟩
        refine ⟨s, ?_, h2, h3, h4⟩
        rcases Nat.lt_or_ge s (2 ^ m) with z | z
        · exact z
        · rw [wb _ (by omega)] at h4; cases h4
    replace ef : f = 1 ↔ ¬ (sW0 x i &&& (sW1 x i ^^^ -1)) = 0 := by
      rw [ef, sns_f x (by omega)]
      constructor
      · rintro ⟨s, h1, h2⟩; exact ⟨s, by omega, h2⟩
      · rintro ⟨s, h1, h2, h3, h4⟩
        refine ⟨s, ?_, h2, h3, h4⟩
        rcases Nat.lt_or_ge s (2 ^ m) with z | z
        · exact z
        · rw [wb _ z] at h3; cases h3
    unfold sns
    generalize sW1 x i &&& (sW0 x i ^^^ -1) = A at er ⊢
    generalize sW0 x i &&& (sW1 x i ^^^ -1) = B at ef ⊢
    clear wb p2 hx
    refine yX11_senseOf_94 (yX11_senseOf_96 (fun h96 => ?_) (fun h96 => ?_))
    · refine yX11_senseOf_112 (yX11_senseOf_114 (fun h114 => ?_) (fun h114 => ?_))
      · refine yX11_senseOf_121 (yX11_senseOf_122 ?_)
        refine ⟨?_, rfl⟩; by_cases hA : A = 0 <;> by_cases hB : B = 0 <;> rcases hr with rfl | rfl <;> rcases hf with rfl | rfl <;> simp_all
      · refine yX11_senseOf_117 (yX11_senseOf_118 (yX11_senseOf_122 ?_))
        refine ⟨?_, rfl⟩; by_cases hA : A = 0 <;> by_cases hB : B = 0 <;> rcases hr with rfl | rfl <;> rcases hf with rfl | rfl <;> simp_all
    · refine yX11_senseOf_99 (yX11_senseOf_101 (fun h101 => ?_) (fun h101 => ?_))
      · refine yX11_senseOf_108 (yX11_senseOf_109 (yX11_senseOf_122 ?_))
        refine ⟨?_, rfl⟩; by_cases hA : A = 0 <;> by_cases hB : B = 0 <;> rcases hr with rfl | rfl <;> rcases hf with rfl | rfl <;> simp_all
      · refine yX11_senseOf_104 (yX11_senseOf_105 (yX11_senseOf_122 ?_))
        refine ⟨?_, rfl⟩; by_cases hA : A = 0 <;> by_cases hB : B = 0 <;> rcases hr with rfl | rfl <;> rcases hf with rfl | rfl <;> simp_all
  have Lp : ∀ k s (r f : Int32) (t : Option Value), s + k = 2 ^ m → (r = 0 ∨ r = 1) → (f = 0 ∨ f = 1) → (r = 1 ↔ ∃ s', s' < s ∧ upS x i s') → (f = 1 ↔ ∃ s', s' < s ∧ dnS x i s') → Y w mX11_senseOf d (yR (some (.int (sns x i))) F) o 9 [some (.long x), none, some (.int (nI i)), some (.int (nI m)), some (.int r), some (.int f), some (.int (nI s)), t] [] F := by
    intro k
    induction k with
    | zero =>
      intro s r f t hs hr hf er ef
      obtain rfl : s = 2 ^ m := by omega
      refine yX11_senseOf_9 (yX11_senseOf_11 (yX11_senseOf_12 (yX11_senseOf_13 ?_)))
      rw [sh1 ⟨m, by omega⟩]
      refine yX11_senseOf_14 (fun _ => ?_) (fun h9 => absurd (Int32.le_refl _) h9)
      exact Z r f t hr hf er ef
    | succ k ih =>
      intro s r f t hs hr hf er ef
      refine yX11_senseOf_9 (yX11_senseOf_11 (yX11_senseOf_12 (yX11_senseOf_13 ?_)))
      rw [sh1 ⟨m, by omega⟩]
      refine yX11_senseOf_14 (fun h9 => absurd h9 (nI_ge (by show s < 2 ^ m; omega) (by show 2 ^ m < _; omega))) (fun _ => ?_)
      refine yX11_senseOf_17 (yX11_senseOf_19 (yX11_senseOf_20 (yX11_senseOf_21 ?_)))
      rw [sh5 ⟨i, by omega⟩]
      refine yX11_senseOf_22 ?_
      rw [show nI s ||| nI (2 ^ (⟨i, by omega⟩ : Fin 6).val) = _ from or_t ⟨i, by omega⟩ ⟨s, by omega⟩]
      have G : ∀ (r' f' : Int32) (t' : Option Value), (r' = 0 ∨ r' = 1) → (f' = 0 ∨ f' = 1) → (r' = 1 ↔ (r = 1 ∨ upS x i s)) → (f' = 1 ↔ (f = 1 ∨ dnS x i s)) → Y w mX11_senseOf d (yR (some (.int (sns x i))) F) o 88 [some (.long x), none, some (.int (nI i)), some (.int (nI m)), some (.int r'), some (.int f'), some (.int (nI s)), t'] [] F := by
        intro r' f' t' hr' hf' er' ef'
        refine yX11_senseOf_88 rfl (yX11_senseOf_91 ?_)
        rw [nI_1]
        refine ih (s + 1) r' f' t' (by omega) hr' hf' ?_ ?_
        · rw [er', er]
          constructor
          · rintro (⟨s', a, c⟩ | c)
            · exact ⟨s', by omega, c⟩
            · exact ⟨s, by omega, c⟩
          · rintro ⟨s', a, c⟩
            rcases Nat.lt_or_eq_of_le (Nat.lt_succ_iff.mp a) with z | z
            · exact Or.inl ⟨s', z, c⟩
            · subst z; exact Or.inr c
        · rw [ef', ef]
          constructor
          · rintro (⟨s', a, c⟩ | c)
            · exact ⟨s', by omega, c⟩
            · exact ⟨s, by omega, c⟩
          · rintro ⟨s', a, c⟩
            rcases Nat.lt_or_eq_of_le (Nat.lt_succ_iff.mp a) with z | z
            · exact Or.inl ⟨s', z, c⟩
            · subst z; exact Or.inr c
      cases htb : s.testBit i
      · have h64 := lt_add ⟨i, by omega⟩ ⟨s, by omega⟩ htb
        have h64 : s + 2 ^ i < 64 := h64
        have pp : 0 < 2 ^ i := Nat.two_pow_pos i
        show Y w mX11_senseOf d _ o 23 _ [.int (nI (s + 2 ^ i))] F
        refine yX11_senseOf_23 rfl (yX11_senseOf_25 (yX11_senseOf_27 (yX11_senseOf_29 (fun h9 => absurd ((nI_eq (by omega) (by omega)).mp h9) (by omega)) (fun _ => ?_))))
        have uu : upS x i s ↔ (bt x s = false ∧ bt x (s + 2 ^ i) = true) := ⟨fun z => z.2, fun z => ⟨htb, z⟩⟩
        have dd : dnS x i s ↔ (bt x s = true ∧ bt x (s + 2 ^ i) = false) := ⟨fun z => z.2, fun z => ⟨htb, z⟩⟩
        have H : ∀ r' : Int32, (r' = 0 ∨ r' = 1) → (r' = 1 ↔ (r = 1 ∨ upS x i s)) → Y w mX11_senseOf d (yR (some (.int (sns x i))) F) o 58 [some (.long x), none, some (.int (nI i)), some (.int (nI m)), some (.int r), some (.int f), some (.int (nI s)), some (.int (nI (s + 2 ^ i)))] [.int r'] F := by
          intro r' hr' er'
          refine yX11_senseOf_58 rfl (yX11_senseOf_60 (yX11_senseOf_62 (fun h9 => ?_) (fun h9 => ?_)))
          · refine yX11_senseOf_81 (yX11_senseOf_82 (yX11_senseOf_86 rfl ?_))
            exact G r' 1 _ hr' (Or.inr rfl) er' ⟨fun _ => Or.inl (hf.resolve_left h9), fun _ => rfl⟩
          · refine yX11_senseOf_65 (yX11_senseOf_66 (yX11_senseOf_68 (yX11_senseOf_69 (yX11_senseOf_70 ?_))))
            rw [bt_sh x (show s < 64 by omega)]
            refine yX11_senseOf_71 (yX11_senseOf_72 (yX11_senseOf_74 (yX11_senseOf_75 (yX11_senseOf_76 ?_))))
            rw [bt_sh x h64]
            refine yX11_senseOf_77 ?_
            show Y w mX11_senseOf d _ o 78 _ [.int (lg_cmp (bb (bt x s)) (bb (bt x (s + 2 ^ i))))] F
            refine yX11_senseOf_78 (fun h8 => ?_) (fun h8 => ?_)
            · rw [bb_le] at h8
              refine yX11_senseOf_85 (yX11_senseOf_86 rfl ?_)
              exact G r' 0 _ hr' (Or.inl rfl) er' ⟨fun z => absurd z (by decide), fun z => z.elim (fun z => absurd (h9.symm.trans z) (by decide)) (fun z => absurd (dd.mp z) h8)⟩
            · rw [bb_le] at h8
              refine yX11_senseOf_81 (yX11_senseOf_82 (yX11_senseOf_86 rfl ?_))
              exact G r' 1 _ hr' (Or.inr rfl) er' ⟨fun _ => Or.inr (dd.mpr (Decidable.not_not.mp h8)), fun _ => rfl⟩
        refine yX11_senseOf_32 (yX11_senseOf_34 (fun h9 => ?_) (fun h9 => ?_))
        · refine yX11_senseOf_53 (yX11_senseOf_54 ?_)
          exact H 1 (Or.inr rfl) ⟨fun _ => Or.inl (hr.resolve_left h9), fun _ => rfl⟩
        · refine yX11_senseOf_37 (yX11_senseOf_38 (yX11_senseOf_40 (yX11_senseOf_41 (yX11_senseOf_42 ?_))))
          rw [bt_sh x (show s < 64 by omega)]
          refine yX11_senseOf_43 (yX11_senseOf_44 (yX11_senseOf_46 (yX11_senseOf_47 (yX11_senseOf_48 ?_))))
          rw [bt_sh x h64]
          refine yX11_senseOf_49 ?_
          show Y w mX11_senseOf d _ o 50 _ [.int (lg_cmp (bb (bt x s)) (bb (bt x (s + 2 ^ i))))] F
          refine yX11_senseOf_50 (fun h8 => ?_) (fun h8 => ?_)
          · rw [bb_ge] at h8
            refine yX11_senseOf_57 ?_
            exact H 0 (Or.inl rfl) ⟨fun z => absurd z (by decide), fun z => z.elim (fun z => absurd (h9.symm.trans z) (by decide)) (fun z => absurd (uu.mp z) h8)⟩
          · rw [bb_ge] at h8
            refine yX11_senseOf_53 (yX11_senseOf_54 ?_)
            exact H 1 (Or.inr rfl) ⟨fun _ => Or.inr (uu.mpr (Decidable.not_not.mp h8)), fun _ => rfl⟩
      · show Y w mX11_senseOf d _ o 23 _ [.int (nI s)] F
        refine yX11_senseOf_23 rfl (yX11_senseOf_25 (yX11_senseOf_27 (yX11_senseOf_29 (fun _ => ?_) (fun h9 => absurd rfl h9))))
        exact G r f _ hr hf ⟨Or.inl, fun z => z.elim id (fun z => absurd (htb.symm.trans z.1) (by decide))⟩ ⟨Or.inl, fun z => z.elim id (fun z => absurd (htb.symm.trans z.1) (by decide))⟩
  refine yX11_senseOf_0 (yX11_senseOf_1 rfl (yX11_senseOf_3 (yX11_senseOf_4 rfl (yX11_senseOf_6 (yX11_senseOf_7 rfl ?_)))))
  exact Lp (2 ^ m) 0 0 0 _ (by omega) (Or.inl rfl) (Or.inl rfl) ⟨fun z => absurd z (by decide), fun ⟨s', a, _⟩ => by omega⟩ ⟨fun z => absurd z (by decide), fun ⟨s', a, _⟩ => by omega⟩
end Q1
