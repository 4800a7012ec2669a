section Q7
variable {w : xWd} {d o : Nat} {F : mF} {T : Nat → Int32} {n b : Nat} {L : liT}
theorem q_family (hz : mZ F T n b L) (k i : Int32) : yC w (d + 3) mX11_family [.ref o, .int k, .int i] o F (fun r F' => r = some (.int (vI (aFamily L k i (F.a 24)))) ∧ vK (F.uS 0 (eN (aFamily L k i (F.a 24)))) F' ∧ F'.a 24 = gaF L k (0 ≤ i) (F.a 24)) := by
  refine yC_of (by decide) (ble rfl) (ls := [some (.ref o), some (.int k), some (.int i)]) rfl ?_
  have E : ¬ (ix k L.cc ∧ 0 ≤ i) → Y w mX11_family (d + 3) (fun r F' => r = some (.int (vI (aFamily L k i (F.a 24)))) ∧ vK (F.uS 0 (eN (aFamily L k i (F.a 24)))) F' ∧ F'.a 24 = gaF L k (0 ≤ i) (F.a 24)) o 13 [some (.ref o), some (.int k), some (.int i)] [.ref o] F := by
    intro h
    have e : aFamily L k i (F.a 24) = .error 1 := by
      unfold aFamily
      by_cases z : ix k L.cc
      · rw [if_pos z, if_neg (fun y => h ⟨z, y⟩)]
      · rw [if_neg z]
    rw [e, show gaF L k (0 ≤ i) (F.a 24) = F.a 24 from if_neg h]
    refine yX11_family_13 (yX11_family_14 (yX11_family_18 (yX11_family_21 (yX11_family_22 (yX11_family_25 (fun h => absurd h n10) (fun _ => ?_))))))
    refine yX11_family_28 (yX11_family_29 ⟨rfl, vK.rf, rfl⟩)
  refine yX11_family_0 (yX11_family_1 (yX11_family_2 (yX11_family_3 (ble rfl) (m_isCell hz k) (yX11_family_6 (fun h6 => ?_) (fun h6 => ?_)))))
  · exact E (fun z => b1_0 h6 z.1)
  have g6 := b1_1 h6
  refine yX11_family_9 (yX11_family_10 (fun h7 => ?_) (fun h7 => ?_))
  rotate_left
  · exact E (fun z => h7 z.2)
  obtain ⟨j, hj, rfl⟩ := ix_of hz.cc g6
  have j31 : j < 2 ^ 31 := (hz.cell hj).2.2.2.2.2
  have hok := gaG_ok (L := L) (k := j) hz.2.2.2.2.2.2.2.1 L.cc 0 (F.a 24) 0 (by omega) ⟨Nat.le_refl _, fun j hj => by omega⟩
  have h12 : L.cc ≤ 12 := hz.2.2.2.2.2.2.2.1
  rw [show aFamily L (nI j) i (F.a 24) = .ok (if i < nI (gaG L j L.cc 0 (F.a 24) 0).2 then (gaG L j L.cc 0 (F.a 24) 0).1 i.toNatClampNeg else -1) by unfold aFamily; rw [if_pos g6, if_pos h7, nI_clamp j31], show gaF L (nI j) (0 ≤ i) (F.a 24) = (gaG L j L.cc 0 (F.a 24) 0).1 by unfold gaF; rw [if_pos ⟨g6, h7⟩, nI_clamp j31]]
  refine yX11_family_17 (yX11_family_18 (yX11_family_21 (yX11_family_22 (yX11_family_25 (fun _ => ?_) (fun h => absurd z00 h)))))
  have mg := m_gather (w := w) (d := d) (o := o) (F := F.uS 0 0) hz.u0 hj
  rw [show (F.uS 0 0).a 24 = F.a 24 from rfl] at mg
  refine yX11_family_30 (yX11_family_31 (yX11_family_32 (yX11_family_33_g (ble rfl) mg (fun r F1 hF => ?_))))
  obtain ⟨rfl, hv, h24⟩ := hF
  generalize gaG L j L.cc 0 (F.a 24) 0 = G at hok h24 ⊢
  have hs := hok.1
  show Y w mX11_family (d + 3) _ o 36 _ [.int (nI G.2), .int i] _
  refine yX11_family_36 (fun h8 => ?_) (fun h8 => ?_)
  · rw [if_neg (by grind)]
    refine yX11_family_48 (yX11_family_49 ⟨rfl, hv, h24⟩)
  · rw [if_pos (by grind)]
    obtain ⟨q, hq, rfl⟩ := ix_of (k := i) (n := G.2) (by omega) ⟨by grind, by grind⟩
    rw [nI_clamp (by omega)]
    refine yX11_family_39 (yX11_family_40 (yX11_family_43 (yX11_family_44 (ble rfl) rfl (i := q) rfl (by omega) (yX11_family_45 (yX11_family_49 ⟨congrArg (fun z => some (Value.int z)) (by show F1.a 24 q = G.1 q; rw [h24]), hv, h24⟩)))))
theorem q_best (hz : mZ F T n b L) (k ld : Int32) : yC w (d + 3) mX11_best [.ref o, .int k, .int ld] o F (fun r F' => r = some (.int (vI (aBest L k ld (F.a 24)))) ∧ vK (F.uS 0 (eN (aBest L k ld (F.a 24)))) F' ∧ F'.a 24 = gaF L k (¬ ld < 0) (F.a 24)) := by
  refine yC_of (by decide) (ble rfl) (ls := [some (.ref o), some (.int k), some (.int ld), none, none, none, none]) rfl ?_
  refine yX11_best_0 (yX11_best_1 (yX11_best_2 (yX11_best_3 (ble rfl) (m_isCell hz k) (yX11_best_6 (fun h6 => ?_) (fun h6 => ?_)))))
  rotate_left
  · have g6 := b1_0 h6
    rw [show aBest L k ld (F.a 24) = .error 1 from if_neg g6, show gaF L k (¬ ld < 0) (F.a 24) = F.a 24 from if_neg (fun z => g6 z.1)]
    refine yX11_best_9 (yX11_best_10 (yX11_best_22 (yX11_best_25 (yX11_best_26 (yX11_best_29 (fun h => absurd h n10) (fun _ => ?_))))))
    refine yX11_best_32 (yX11_best_33 ⟨rfl, vK.rf, rfl⟩)
  have g6 := b1_1 h6
  refine yX11_best_13 (yX11_best_14 (fun h7 => ?_) (fun h7 => ?_))
  rotate_left
  · rw [show aBest L k ld (F.a 24) = .error 2 by unfold aBest; rw [if_pos g6, if_pos (by grind)], show gaF L k (¬ ld < 0) (F.a 24) = F.a 24 from if_neg (fun z => z.2 (by grind))]
    refine yX11_best_17 (yX11_best_18 (yX11_best_22 (yX11_best_25 (yX11_best_26 (yX11_best_29 (fun h => absurd h n20) (fun _ => ?_))))))
    refine yX11_best_32 (yX11_best_33 ⟨rfl, vK.rf, rfl⟩)
  have h7' : ¬ ld < 0 := by grind
  obtain ⟨j, hj, rfl⟩ := ix_of hz.cc g6
  have j31 : j < 2 ^ 31 := (hz.cell hj).2.2.2.2.2
  have h12 : L.cc ≤ 12 := hz.2.2.2.2.2.2.2.1
  have hok := gaG_ok (L := L) (k := j) h12 L.cc 0 (F.a 24) 0 (by omega) ⟨Nat.le_refl _, fun j hj => by omega⟩
  rw [show aBest L (nI j) ld (F.a 24) = .ok (bsG L (gaG L j L.cc 0 (F.a 24) 0).1 ld (gaG L j L.cc 0 (F.a 24) 0).2 0 (-1)) by unfold aBest; rw [if_pos g6, if_neg h7', nI_clamp j31], show gaF L (nI j) (¬ ld < 0) (F.a 24) = (gaG L j L.cc 0 (F.a 24) 0).1 by unfold gaF; rw [if_pos ⟨g6, h7'⟩, nI_clamp j31]]
  refine yX11_best_21 (yX11_best_22 (yX11_best_25 (yX11_best_26 (yX11_best_29 (fun _ => ?_) (fun h => absurd z00 h)))))
  have mg := m_gather (w := w) (d := d) (o := o) (F := F.uS 0 0) hz.u0 hj
  rw [show (F.uS 0 0).a 24 = F.a 24 from rfl] at mg
  refine yX11_best_34 (yX11_best_35 (yX11_best_36_g (ble rfl) mg (fun r F1 hF => ?_)))
  obtain ⟨rfl, hv, h24⟩ := hF
  generalize gaG L j L.cc 0 (F.a 24) 0 = G at hok h24 ⊢
  have hs := hok.1
  have z1 : mZ F1 T n b L := hz.u0.vK hv
  show Y w mX11_best (d + 3) _ o 39 _ [.int (nI G.2)] _
  have Lp : ∀ m i (x : Int32) (l6 : Option Value), i + m = G.2 → (x = -1 ∨ ∃ q, q < L.cc ∧ x = nI q) → Y w mX11_best (d + 3) (fun r F' => r = some (.int (bsG L G.1 ld m i x)) ∧ vK (F.uS 0 0) F' ∧ F'.a 24 = G.1) o 46 [some (.ref o), some (.int (nI j)), some (.int ld), some (.int (nI G.2)), some (.int x), some (.int (nI i)), l6] [] F1 := by
    intro m
    induction m with
    | zero =>
      intro i x l6 hi hx
      refine yX11_best_46 (yX11_best_48 (yX11_best_49 (fun _ => ?_) (fun h9 => absurd (nI_le (by omega) (by omega)) h9)))
      refine yX11_best_138 (yX11_best_140 ⟨rfl, hv, h24⟩)
    | succ m ih =>
      intro i x l6 hi hx
      obtain ⟨q, hq, eq⟩ := hok.2 i (by omega)
      obtain ⟨rc, wc, _, q24, ec, q31⟩ := z1.cell hq
      have g24 : F1.a 24 i = nI q := by rw [h24]; exact eq
      have a1 := rc.2.2.2.2.2.2.2.1 1 (by omega)
      have a2 := rc.2.2.2.2.2.2.2.1 2 (by omega)
      have st : bsG L G.1 ld (m + 1) i x = bsG L G.1 ld m (i + 1) (if ld ≤ (L.cs q).am 1 ∧ (x = -1 ∨ (L.cs q).am 2 < (L.cs x.toNatClampNeg).am 2) then nI q else x) := by rw [bsG, eq, nI_clamp q31]
      rw [st]
      clear st
      refine yX11_best_46 (yX11_best_48 (yX11_best_49 (fun h9 => absurd h9 (nI_ge (by omega) (by omega))) (fun _ => ?_)))
      refine yX11_best_52 (yX11_best_54 (yX11_best_55 (yX11_best_58 (yX11_best_59 (yX11_best_60 (yX11_best_63 (yX11_best_65 (ble rfl) rfl (i := i) rfl (by omega) ?_)))))))
      rw [g24]
      refine yX11_best_66 ?_
      rw [ec]
      have N : ∀ l6, ¬ (ld ≤ (L.cs q).am 1 ∧ (x = -1 ∨ (L.cs q).am 2 < (L.cs x.toNatClampNeg).am 2)) → Y w mX11_best (d + 3) (fun r F' => r = some (.int (bsG L G.1 ld m (i + 1) (if ld ≤ (L.cs q).am 1 ∧ (x = -1 ∨ (L.cs q).am 2 < (L.cs x.toNatClampNeg).am 2) then nI q else x))) ∧ vK (F.uS 0 0) F' ∧ F'.a 24 = G.1) o 132 [some (.ref o), some (.int (nI j)), some (.int ld), some (.int (nI G.2)), some (.int x), some (.int (nI i)), l6] [] F1 := by
        intro l6 h
        rw [if_neg h]
        refine yX11_best_132 rfl (yX11_best_135 ?_)
        rw [nI_1]
        exact ih (i + 1) x l6 (by omega) hx
      have S : ∀ l6, (ld ≤ (L.cs q).am 1 ∧ (x = -1 ∨ (L.cs q).am 2 < (L.cs x.toNatClampNeg).am 2)) → Y w mX11_best (d + 3) (fun r F' => r = some (.int (bsG L G.1 ld m (i + 1) (if ld ≤ (L.cs q).am 1 ∧ (x = -1 ∨ (L.cs q).am 2 < (L.cs x.toNatClampNeg).am 2) then nI q else x))) ∧ vK (F.uS 0 0) F' ∧ F'.a 24 = G.1) o 123 [some (.ref o), some (.int (nI j)), some (.int ld), some (.int (nI G.2)), some (.int x), some (.int (nI i)), l6] [] F1 := by
        intro l6 h
        rw [if_pos h]
        refine yX11_best_123 (yX11_best_124 (yX11_best_127 (yX11_best_129 (ble rfl) rfl (i := i) rfl (by omega) ?_)))
        rw [g24]
        refine yX11_best_130 rfl (yX11_best_132 rfl (yX11_best_135 ?_))
        rw [nI_1]
        exact ih (i + 1) (nI q) l6 (by omega) (Or.inr ⟨q, hq, rfl⟩)
      refine yX11_best_67 rfl (yX11_best_69 (yX11_best_70 (yX11_best_73 (yX11_best_74 (yX11_best_76 (yX11_best_77 (yX11_best_78 (yX11_best_79 (ble rfl) rfl (i := 3 * (12 * b + q) + 1) (ixm 3 _ 1) (by omega) ?_))))))))
      rw [a1]
      refine yX11_best_80 (yX11_best_81 (fun h9 => ?_) (fun h9 => ?_))
      · exact N _ (fun z => by have := z.1; grind)
      have h9 : ld ≤ (L.cs q).am 1 := by grind
      refine yX11_best_84 (yX11_best_86 (yX11_best_87 (fun h8 => ?_) (fun h8 => ?_)))
      · exact S _ ⟨h9, Or.inl h8⟩
      obtain ⟨p, hp, rfl⟩ := hx.resolve_left h8
      obtain ⟨rp, _, _, p24, ep, p31⟩ := z1.cell hp
      rw [nI_clamp p31] at N S ⊢
      refine yX11_best_90 (yX11_best_91 (yX11_best_94 (yX11_best_95 (yX11_best_97 (yX11_best_98 (yX11_best_99 (yX11_best_100 (ble rfl) rfl (i := 3 * (12 * b + q) + 2) (ixm 3 _ 2) (by omega) ?_)))))))
      rw [a2]
      refine yX11_best_101 (yX11_best_102 (yX11_best_105 (yX11_best_106 (yX11_best_108 (yX11_best_109 (yX11_best_112 (yX11_best_113 (yX11_best_115 (yX11_best_116 (yX11_best_117 (yX11_best_118 (yX11_best_119 (ble rfl) rfl (i := 3 * (12 * b + p) + 2) (by rw [ep]; exact ixm 3 _ 2) (by omega) ?_))))))))))))
      rw [rp.2.2.2.2.2.2.2.1 2 (by omega)]
      refine yX11_best_120 (fun h5 => ?_) (fun h5 => ?_)
      · exact N _ (fun z => by rcases z.2 with y | y; exact h8 y; grind)
      · exact S _ ⟨h9, Or.inr (by grind)⟩
  refine yX11_best_39 rfl (yX11_best_40 (yX11_best_41 rfl (yX11_best_43 (yX11_best_44 rfl ?_))))
  exact Lp G.2 0 (-1) none (by omega) (Or.inl rfl)
/-! the tape -/
def uB (n : Nat) (u : Int32) : Int32 := if bMay u = 0 ∨ n = 1400 then 0 else 1
def unS (T : Nat → Int32) (n : Nat) (u : Int32) : (Nat → Int32) × Nat := if bMay u = 0 ∨ n = 1400 then (T, n) else (upd T n u, n + 1)
theorem libR.u1 {f : Nat → Int32} (h : libR F b L) : libR (F.uA 1 f) b L := h
theorem q_unit (hz : mZ F T n b L) (u : Int32) : yC w (d + 1) mX11_unit [.ref o, .int u] o F (fun r F' => r = some (.int (uB n u)) ∧ F'.s 0 = 0 ∧ mZ F' (unS T n u).1 (unS T n u).2 b L ∧ F'.a 24 = F.a 24) := by
  obtain ⟨h1, h2, h3, h4, h5, h6, h7⟩ := id hz
  refine yC_of (by decide) (ble rfl) (ls := [some (.ref o), some (.int u)]) rfl ?_
  have E : (bMay u = 0 ∨ n = 1400) → Y w mX11_unit (d + 1) (fun r F' => r = some (.int (uB n u)) ∧ F'.s 0 = 0 ∧ mZ F' (unS T n u).1 (unS T n u).2 b L ∧ F'.a 24 = F.a 24) o 22 [some (.ref o), some (.int u)] [] (F.uS 0 0) := by
    intro e
    unfold uB unS
    rw [if_pos e, if_pos e]
    refine yX11_unit_22 (yX11_unit_23 (Or.inl rfl) ⟨rfl, rfl, hz, rfl⟩)
  refine yX11_unit_0 (yX11_unit_1 (yX11_unit_2 (yX11_unit_5 (yX11_unit_6 (ble rfl) (m_isCharacter u) (yX11_unit_9 (fun h => ?_) (fun h => ?_))))))
  · exact E (Or.inl h)
  refine yX11_unit_12 (yX11_unit_13 ?_)
  rw [show (F.uS 0 0).s 1 = nI n from h2]
  refine yX11_unit_16 (yX11_unit_19 (fun h8 => ?_) (fun h8 => ?_))
  rotate_left
  · exact E (Or.inr ((nI_eq (b := 1400) (by omega) (by omega)).mp h8))
  have hn : n ≠ 1400 := fun z => h8 (by rw [z]; rfl)
  unfold uB unS
  rw [if_neg (by rintro (z | z); exact h z; exact hn z), if_neg (by rintro (z | z); exact h z; exact hn z)]
  refine yX11_unit_24 (yX11_unit_25 (yX11_unit_28 (yX11_unit_29 (yX11_unit_32 (yX11_unit_33 (ble rfl) (fun _ => rfl) (i := n) h2 (by omega) (yX11_unit_34 (yX11_unit_35 rfl (yX11_unit_36 ?_))))))))
  rw [show ((F.uS 0 0).uA 1 (upd ((F.uS 0 0).a 1) n u)).s 1 = nI n from h2]
  refine yX11_unit_39 (yX11_unit_40 ?_)
  rw [nI_1]
  refine yX11_unit_41 (yX11_unit_44 (yX11_unit_45 (Or.inr rfl) ⟨rfl, rfl, ⟨by show upd (F.a 1) n u = upd T n u; rw [h1], rfl, by omega, h4, h5, h6, h7⟩, rfl⟩))
def sk (i : Nat) : Int32 := match i with
  | 0 => 24
  | 1 => 16
  | 2 => 8
  | 3 => 0
  | _ => -8
theorem sk_s : ∀ i : Fin 4, sk i.val + -8 = sk (i.val + 1) ∧ ¬ sk i.val < 0 := by decide
def uby (x : Int32) (i : Nat) : Int32 := (x >>> (sk i &&& 31)) &&& 255
/-- four units, one after another -/
def ust (x : Int32) : Nat → Nat → (Nat → Int32) → Nat → Option ((Nat → Int32) × Nat)
  | 0, _, T, n => some (T, n)
  | m + 1, i, T, n => if uby x i = 0 then ust x m (i + 1) T n else if bMay (uby x i) = 0 ∨ 1400 ≤ n then none else ust x m (i + 1) (upd T n (uby x i)) (n + 1)
def ctn (x : Int32) : Nat → Nat → Nat
  | 0, _ => 0
  | m + 1, i => (if uby x i = 0 then 0 else 1) + ctn x m (i + 1)
def wrt (x : Int32) : Nat → Nat → (Nat → Int32) → Nat → (Nat → Int32) × Nat
  | 0, _, T, n => (T, n)
  | m + 1, i, T, n => if uby x i = 0 then wrt x m (i + 1) T n else wrt x m (i + 1) (upd T n (uby x i)) (n + 1)
def okB (x : Int32) (m i : Nat) : Prop := ∀ j, i ≤ j → j < i + m → uby x j = 0 ∨ ¬ bMay (uby x j) = 0
theorem okB_s {x : Int32} {m i : Nat} : okB x (m + 1) i ↔ (uby x i = 0 ∨ ¬ bMay (uby x i) = 0) ∧ okB x m (i + 1) := by
  constructor
  · intro h
    exact ⟨h i (by omega) (by omega), fun j a c => h j (by omega) (by omega)⟩
  · rintro ⟨a, c⟩ j p q
    rcases Nat.eq_or_lt_of_le p with z | z
    · subst z; exact a
    · exact c j (by omega) (by omega)
theorem ust_c (x : Int32) : ∀ m i T n, ((okB x m i ∧ (ctn x m i = 0 ∨ n + ctn x m i ≤ 1400)) → ust x m i T n = some (wrt x m i T n)) ∧ (¬ (okB x m i ∧ (ctn x m i = 0 ∨ n + ctn x m i ≤ 1400)) → ust x m i T n = none) := by
  intro m
  induction m with
  | zero => intro i T n; exact ⟨fun _ => rfl, fun h => absurd ⟨fun j a c => by omega, Or.inl rfl⟩ h⟩
  | succ m ih =>
    intro i T n
    rw [okB_s]
    unfold ust ctn wrt
    by_cases h0 : uby x i = 0
    · rw [if_pos h0, if_pos h0, if_pos h0, Nat.zero_add]
      obtain ⟨a, c⟩ := ih (i + 1) T n
      exact ⟨fun h => a ⟨h.1.2, h.2⟩, fun h => c (fun z => h ⟨⟨Or.inl h0, z.1⟩, z.2⟩)⟩
    · rw [if_neg h0, if_neg h0, if_neg h0]
      obtain ⟨a, c⟩ := ih (i + 1) (upd T n (uby x i)) (n + 1)
      by_cases h1 : bMay (uby x i) = 0
      · rw [if_pos (Or.inl h1)]
        exact ⟨fun h => absurd h1 (h.1.1.resolve_left h0), fun _ => rfl⟩
      · by_cases h2 : 1400 ≤ n
        · rw [if_pos (Or.inr h2)]
          exact ⟨fun h => by rcases h.2 with z | z <;> omega, fun _ => rfl⟩
        · rw [if_neg (by rintro (z | z); exact h1 z; exact h2 z)]
          refine ⟨fun h => a ⟨h.1.2, ?_⟩, fun h => c (fun z => h ⟨⟨Or.inr h1, z.1⟩, ?_⟩)⟩
          · rcases h.2 with z | z <;> omega
          · rcases z.2 with y | y <;> omega
theorem ctn_le (x : Int32) : ∀ m i, ctn x m i ≤ m := by
  intro m
  induction m with
  | zero => intro i; exact Nat.le_refl _
  | succ m ih => intro i; have := ih (i + 1); unfold ctn; split <;> omega
theorem wrt_n (x : Int32) : ∀ m i T n, (wrt x m i T n).2 = n + ctn x m i := by
  intro m
  induction m with
  | zero => intro i T n; rfl
  | succ m ih =>
    intro i T n
    unfold wrt ctn
    split
    · rw [ih]; omega
    · rw [ih]; omega
def usV (r : Option ((Nat → Int32) × Nat)) : Int32 := match r with
  | some _ => 1
  | none => 0
def usS (T : Nat → Int32) (n : Nat) (r : Option ((Nat → Int32) × Nat)) : (Nat → Int32) × Nat := match r with
  | some z => z
  | none => (T, n)
theorem q_units (hz : mZ F T n b L) (x : Int32) : yC w (d + 1) mX11_units [.ref o, .int x] o F (fun r F' => r = some (.int (usV (ust x 4 0 T n))) ∧ F'.s 0 = 0 ∧ mZ F' (usS T n (ust x 4 0 T n)).1 (usS T n (ust x 4 0 T n)).2 b L ∧ F'.a 24 = F.a 24) := by
  obtain ⟨h1, h2, h3, h4, h5, h6, h7⟩ := id hz
  refine yC_of (by decide) (ble rfl) (ls := [some (.ref o), some (.int x), none, none, none]) rfl ?_
  obtain ⟨U1, U2⟩ := ust_c x 4 0 T n
  have c4 := ctn_le x 4 0
  -- refused
  have R : ¬ (okB x 4 0 ∧ (ctn x 4 0 = 0 ∨ n + ctn x 4 0 ≤ 1400)) → ((fun (r : Option Value) (F' : mF) => r = some (.int (usV (ust x 4 0 T n))) ∧ F'.s 0 = 0 ∧ mZ F' (usS T n (ust x 4 0 T n)).1 (usS T n (ust x 4 0 T n)).2 b L ∧ F'.a 24 = F.a 24)) (some (.int 0)) (F.uS 0 0) := by
    intro h
    show some (Value.int 0) = some (Value.int (usV (ust x 4 0 T n))) ∧ _
    rw [U2 h]
    exact ⟨rfl, rfl, hz, rfl⟩
  have W : ∀ m i (F1 : mF) (T1 : Nat → Int32) (n1 : Nat) (l4 : Option Value) (c : Int32), i + m = 4 → n1 + ctn x m i ≤ 1400 → wrt x m i T1 n1 = wrt x 4 0 T n → ust x 4 0 T n = some (wrt x 4 0 T n) → F1.s 0 = 0 → mZ F1 T1 n1 b L → F1.a 24 = F.a 24 → Y w mX11_units (d + 1) (fun r F' => r = some (.int (usV (ust x 4 0 T n))) ∧ F'.s 0 = 0 ∧ mZ F' (usS T n (ust x 4 0 T n)).1 (usS T n (ust x 4 0 T n)).2 b L ∧ F'.a 24 = F.a 24) o 74 [some (.ref o), some (.int x), some (.int c), some (.int (sk i)), l4] [] F1 := by
    intro m
    induction m with
    | zero =>
      intro i F1 T1 n1 l4 c hi hn hw hu g0 g1 g2
      obtain rfl : i = 4 := by omega
      refine yX11_units_74 (yX11_units_75 (fun _ => ?_) (fun h => absurd (by decide) h))
      rw [hu, ← hw]
      refine yX11_units_119 (yX11_units_120 (Or.inr rfl) ⟨rfl, g0, g1, g2⟩)
    | succ m ih =>
      intro i F1 T1 n1 l4 c hi hn hw hu g0 g1 g2
      obtain ⟨k1, k2⟩ := sk_s ⟨i, by omega⟩
      obtain ⟨f1, f2, f3, f4, f5, f6, f7⟩ := id g1
      refine yX11_units_74 (yX11_units_75 (fun h => absurd h k2) (fun _ => ?_))
      refine yX11_units_78 (yX11_units_79 (yX11_units_80 (yX11_units_81 (yX11_units_84 ?_))))
      show Y w mX11_units (d + 1) _ o 85 _ [.int (uby x i)] F1
      unfold wrt at hw
      unfold ctn at hn
      refine yX11_units_85 rfl (yX11_units_87 (yX11_units_89 (fun h => ?_) (fun h => ?_)))
      · rw [if_pos h] at hw hn
        refine yX11_units_113 rfl (yX11_units_116 ?_)
        rw [k1]
        exact ih (i + 1) F1 T1 n1 _ c (by omega) (by omega) hw hu g0 g1 g2
      · rw [if_neg h] at hw hn
        refine yX11_units_92 (yX11_units_93 (yX11_units_96 (yX11_units_97 (yX11_units_100 (yX11_units_102 (ble rfl) (fun _ => rfl) (i := n1) f2 (by omega) (yX11_units_103 (yX11_units_104 rfl (yX11_units_105 ?_))))))))
        rw [show (F1.uA 1 (upd (F1.a 1) n1 (uby x i))).s 1 = nI n1 from f2]
        refine yX11_units_108 (yX11_units_109 ?_)
        rw [nI_1]
        refine yX11_units_110 (yX11_units_113 rfl (yX11_units_116 ?_))
        rw [k1]
        exact ih (i + 1) _ (upd T1 n1 (uby x i)) (n1 + 1) _ c (by omega) (by omega) hw hu g0 ⟨by show upd (F1.a 1) n1 (uby x i) = _; rw [f1], rfl, by omega, f4, f5, f6, f7⟩ g2
  have Cc : ∀ m i k (l4 : Option Value), i + m = 4 → (okB x m i → okB x 4 0) → k + ctn x m i = ctn x 4 0 → (¬ okB x m i → ¬ okB x 4 0) → Y w mX11_units (d + 1) (fun r F' => r = some (.int (usV (ust x 4 0 T n))) ∧ F'.s 0 = 0 ∧ mZ F' (usS T n (ust x 4 0 T n)).1 (usS T n (ust x 4 0 T n)).2 b L ∧ F'.a 24 = F.a 24) o 10 [some (.ref o), some (.int x), some (.int (nI k)), some (.int (sk i)), l4] [] (F.uS 0 0) := by
    intro m
    induction m with
    | zero =>
      intro i k l4 hi ho hk _
      obtain rfl : i = 4 := by omega
      have hk : k = ctn x 4 0 := hk
      have ho := ho (fun j a c => by omega)
      refine yX11_units_10 (yX11_units_11 (fun _ => ?_) (fun h => absurd (by decide) h))
      refine yX11_units_57 (yX11_units_58 ?_)
      rw [show (F.uS 0 0).s 1 = nI n from h2]
      refine yX11_units_61 (yX11_units_62 ?_)
      rw [nI_add]
      refine yX11_units_63 (yX11_units_66 (fun h => ?_) (fun h => ?_))
      · have h : n + k ≤ 1400 := (nI_leI (b := 1400) (by omega) (by omega)).mp h
        refine yX11_units_71 (yX11_units_73 rfl ?_)
        exact W 4 0 (F.uS 0 0) T n _ _ (by omega) (by omega) rfl (U1 ⟨ho, Or.inr (by omega)⟩) rfl hz rfl
      · have h : ¬ n + k ≤ 1400 := fun z => h (nI_le (b := 1400) z (by omega))
        refine yX11_units_69 (yX11_units_70 (Or.inl rfl) (R (fun z => by rcases z.2 with y | y <;> omega)))
    | succ m ih =>
      intro i k l4 hi ho hk hno
      obtain ⟨k1, k2⟩ := sk_s ⟨i, by omega⟩
      rw [okB_s] at ho hno
      rw [show ctn x (m + 1) i = (if uby x i = 0 then 0 else 1) + ctn x m (i + 1) from rfl] at hk
      refine yX11_units_10 (yX11_units_11 (fun h => absurd h k2) (fun _ => ?_))
      refine yX11_units_14 (yX11_units_15 (yX11_units_16 (yX11_units_17 (yX11_units_20 ?_))))
      show Y w mX11_units (d + 1) _ o 21 _ [.int (uby x i)] (F.uS 0 0)
      refine yX11_units_21 rfl (yX11_units_23 (yX11_units_25 (fun h => ?_) (fun h => ?_)))
      · rw [if_pos h] at hk
        refine yX11_units_38 (yX11_units_39 (yX11_units_41 (fun _ => ?_) (fun z => absurd h z)))
        refine yX11_units_48 (yX11_units_49 ?_)
        rw [show nI k + 0 = nI k from nI_add k 0]
        refine yX11_units_50 rfl (yX11_units_51 rfl (yX11_units_54 ?_))
        rw [k1]
        exact ih (i + 1) k _ (by omega) (fun z => ho ⟨Or.inl h, z⟩) (by omega) (fun z => hno (fun y => z y.2))
      · rw [if_neg h] at hk
        refine yX11_units_28 (yX11_units_30 (ble rfl) (m_isCharacter (uby x i)) (yX11_units_33 (fun h8 => ?_) (fun h8 => ?_)))
        · refine yX11_units_38 (yX11_units_39 (yX11_units_41 (fun z => absurd z h) (fun _ => ?_)))
          refine yX11_units_44 (yX11_units_45 (yX11_units_49 ?_))
          rw [nI_1]
          refine yX11_units_50 rfl (yX11_units_51 rfl (yX11_units_54 ?_))
          rw [k1]
          exact ih (i + 1) (k + 1) _ (by omega) (fun z => ho ⟨Or.inr h8, z⟩) (by omega) (fun z => hno (fun y => z y.2))
        · refine yX11_units_36 (yX11_units_37 (Or.inl rfl) (R (fun z => hno (fun y => by rcases y.1 with q | q; exact h q; exact q h8) z.1)))
  refine yX11_units_0 (yX11_units_1 (yX11_units_2 (yX11_units_5 (yX11_units_6 rfl (yX11_units_7 (yX11_units_9 rfl ?_))))))
  exact Cc 4 0 0 none rfl id (by omega) id
end Q7
