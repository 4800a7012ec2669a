section Fun
variable {w : xWd} {d : Nat} {P : xH}
def sW0 (x : Int64) (i : Nat) : Int64 := x &&& (xN i ^^^ -1)
def sW1 (x : Int64) (i : Nat) : Int64 := ((x &&& xN i).toUInt64 >>> (((1 : Int32) <<< (nI i &&& 31)).toInt64.toUInt64 &&& Int64.toUInt64 63)).toInt64
/-- the sense, as the class works it out -/
def sns (x : Int64) (i : Nat) : Int32 :=
  if (sW1 x i &&& (sW0 x i ^^^ -1)) = 0 then (if (sW0 x i &&& (sW1 x i ^^^ -1)) = 0 then 2 else -1) else (if (sW0 x i &&& (sW1 x i ^^^ -1)) = 0 then 1 else 0)
theorem c_senseOf (x : Int64) {i : Nat} (hi : i < 6) : xC w d mX2_senseOf [.long x, .int (nI i)] P (xRet (some (.int (sns x i))) P) := by
  refine xC_of (by decide) (ble rfl) (ls := [some (.long x), none, some (.int (nI i)), none, none, none, none, none, none]) rfl ?_
  refine sX2_senseOf_0 (sX2_senseOf_1 (sX2_senseOf_4 (sX2_senseOf_5_in (vp_in_nI hi (by omega)) (sX2_senseOf_6 (sX2_senseOf_9 (sX2_senseOf_10 (sX2_senseOf_11 rfl (sX2_senseOf_12 (sX2_senseOf_13 (sX2_senseOf_16 (sX2_senseOf_17_in (vp_in_nI hi (by omega)) ?_)))))))))))
  rw [nI_clamp (by omega)]
  refine sX2_senseOf_18 (sX2_senseOf_19 (sX2_senseOf_20 (sX2_senseOf_21 (sX2_senseOf_22 (sX2_senseOf_23 rfl ?_)))))
  show X w mX2_senseOf d _ 25 [some (.long x), none, some (.int (nI i)), some (.long (sW0 x i)), none, some (.long (sW1 x i)), none, none, none] [] P
  unfold sns
  generalize sW0 x i = p
  generalize sW1 x i = q
  refine sX2_senseOf_25 (sX2_senseOf_27 (sX2_senseOf_28 (sX2_senseOf_31 (sX2_senseOf_32 (sX2_senseOf_33 (sX2_senseOf_34 (sX2_senseOf_35 (fun h35 => ?_) (fun h35 => ?_))))))))
  · refine sX2_senseOf_42 (sX2_senseOf_43 rfl (sX2_senseOf_45 (sX2_senseOf_46 (sX2_senseOf_48 (sX2_senseOf_51 (sX2_senseOf_52 (sX2_senseOf_53 (sX2_senseOf_54 (sX2_senseOf_55 (fun h55 => ?_) (fun h55 => ?_))))))))))
    · refine sX2_senseOf_62 (sX2_senseOf_63 rfl (sX2_senseOf_65 (sX2_senseOf_67 (fun h67 => ?_) (fun h67 => ?_))))
      · refine sX2_senseOf_81 (sX2_senseOf_83 (fun h83 => ?_) (fun h83 => ?_))
        · refine sX2_senseOf_90 (sX2_senseOf_91 ?_)
          refine ⟨?_, rfl⟩; simp only [lg_cmp_eq] at *; simp_all
        · refine sX2_senseOf_86 (sX2_senseOf_87 (sX2_senseOf_91 ?_))
          refine ⟨?_, rfl⟩; simp only [lg_cmp_eq] at *; simp_all
      · refine sX2_senseOf_70 (sX2_senseOf_72 (fun h72 => ?_) (fun h72 => ?_))
        · refine sX2_senseOf_79 (sX2_senseOf_80 ?_)
          refine ⟨?_, rfl⟩; simp only [lg_cmp_eq] at *; simp_all
        · refine sX2_senseOf_75 (sX2_senseOf_76 (sX2_senseOf_80 ?_))
          refine ⟨?_, rfl⟩; simp only [lg_cmp_eq] at *; simp_all
    · refine sX2_senseOf_58 (sX2_senseOf_59 (sX2_senseOf_63 rfl (sX2_senseOf_65 (sX2_senseOf_67 (fun h67 => ?_) (fun h67 => ?_)))))
      · refine sX2_senseOf_81 (sX2_senseOf_83 (fun h83 => ?_) (fun h83 => ?_))
        · refine sX2_senseOf_90 (sX2_senseOf_91 ?_)
          refine ⟨?_, rfl⟩; simp only [lg_cmp_eq] at *; simp_all
        · refine sX2_senseOf_86 (sX2_senseOf_87 (sX2_senseOf_91 ?_))
          refine ⟨?_, rfl⟩; simp only [lg_cmp_eq] at *; simp_all
      · refine sX2_senseOf_70 (sX2_senseOf_72 (fun h72 => ?_) (fun h72 => ?_))
        · refine sX2_senseOf_79 (sX2_senseOf_80 ?_)
          refine ⟨?_, rfl⟩; simp only [lg_cmp_eq] at *; simp_all
        · refine sX2_senseOf_75 (sX2_senseOf_76 (sX2_senseOf_80 ?_))
          refine ⟨?_, rfl⟩; simp only [lg_cmp_eq] at *; simp_all
  · refine sX2_senseOf_38 (sX2_senseOf_39 (sX2_senseOf_43 rfl (sX2_senseOf_45 (sX2_senseOf_46 (sX2_senseOf_48 (sX2_senseOf_51 (sX2_senseOf_52 (sX2_senseOf_53 (sX2_senseOf_54 (sX2_senseOf_55 (fun h55 => ?_) (fun h55 => ?_)))))))))))
    · refine sX2_senseOf_62 (sX2_senseOf_63 rfl (sX2_senseOf_65 (sX2_senseOf_67 (fun h67 => ?_) (fun h67 => ?_))))
      · refine sX2_senseOf_81 (sX2_senseOf_83 (fun h83 => ?_) (fun h83 => ?_))
        · refine sX2_senseOf_90 (sX2_senseOf_91 ?_)
          refine ⟨?_, rfl⟩; simp only [lg_cmp_eq] at *; simp_all
        · refine sX2_senseOf_86 (sX2_senseOf_87 (sX2_senseOf_91 ?_))
          refine ⟨?_, rfl⟩; simp only [lg_cmp_eq] at *; simp_all
      · refine sX2_senseOf_70 (sX2_senseOf_72 (fun h72 => ?_) (fun h72 => ?_))
        · refine sX2_senseOf_79 (sX2_senseOf_80 ?_)
          refine ⟨?_, rfl⟩; simp only [lg_cmp_eq] at *; simp_all
        · refine sX2_senseOf_75 (sX2_senseOf_76 (sX2_senseOf_80 ?_))
          refine ⟨?_, rfl⟩; simp only [lg_cmp_eq] at *; simp_all
    · refine sX2_senseOf_58 (sX2_senseOf_59 (sX2_senseOf_63 rfl (sX2_senseOf_65 (sX2_senseOf_67 (fun h67 => ?_) (fun h67 => ?_)))))
      · refine sX2_senseOf_81 (sX2_senseOf_83 (fun h83 => ?_) (fun h83 => ?_))
        · refine sX2_senseOf_90 (sX2_senseOf_91 ?_)
          refine ⟨?_, rfl⟩; simp only [lg_cmp_eq] at *; simp_all
        · refine sX2_senseOf_86 (sX2_senseOf_87 (sX2_senseOf_91 ?_))
          refine ⟨?_, rfl⟩; simp only [lg_cmp_eq] at *; simp_all
      · refine sX2_senseOf_70 (sX2_senseOf_72 (fun h72 => ?_) (fun h72 => ?_))
        · refine sX2_senseOf_79 (sX2_senseOf_80 ?_)
          refine ⟨?_, rfl⟩; simp only [lg_cmp_eq] at *; simp_all
        · refine sX2_senseOf_75 (sX2_senseOf_76 (sX2_senseOf_80 ?_))
          refine ⟨?_, rfl⟩; simp only [lg_cmp_eq] at *; simp_all
def wthn (x : Int64) (n : Int32) : Int64 := x &&& ((-1 : Int64).toUInt64 >>> ((64 - n).toInt64.toUInt64 &&& Int64.toUInt64 63)).toInt64
theorem c_within (x : Int64) (n : Int32) : xC w d mX2_within [.long x, .int n] P (xRet (some (.long (wthn x n))) P) := by
  refine xC_of (by decide) (ble rfl) (ls := [some (.long x), none, some (.int n)]) rfl ?_
  refine sX2_within_0 (sX2_within_1 (sX2_within_4 (sX2_within_6 (sX2_within_7 (sX2_within_8 (sX2_within_9 (sX2_within_10 ⟨rfl, rfl⟩)))))))
end Fun
section CellM
variable {w : xWd} {d : Nat} {P : xH}
/-- the object Cell at a; its arrays lie behind it -/
abbrev cO (a : Nat) (nm : Int64) (pl : Int32) (i o : Nat) (pt : Int32) (ac : Nat) : xE := xO 1 [.long nm, .int pl, .ref (a + 1), .int (nI i), .int (nI o), .ref (a + 2), .ref (a + 3), .ref (a + 4), .ref (a + 5), .int pt, .ref (a + 6), .int (nI ac)]
theorem sh1 : ∀ i : Fin 7, (1 : Int32) <<< (nI i &&& 31) = nI (2 ^ i.val) := by decide +kernel
variable {a : Nat} {nm : Int64} {pl pt : Int32} {i o ac : Nat}
theorem c_states (hC : P.1 a = some (cO a nm pl i o pt ac)) (hi : i ≤ 6) : xC w d mX1_states [.ref a] P (xRet (some (.int (nI (2 ^ i)))) P) := by
  refine xC_of (by decide) (ble rfl) (ls := [some (.ref a)]) rfl ?_
  refine sX1_states_0 (sX1_states_1 (sX1_states_2 (by assumption) (by rfl) (sX1_states_5 ?_)))
  rw [sh1 ⟨i, by omega⟩]
  refine sX1_states_6 ⟨rfl, rfl⟩
theorem c_inputNamed {pins : Nat → Int64} (x : Int64) (hC : P.1 a = some (cO a nm pl i o pt ac)) (hp : P.1 (a + 1) = some (xJ 9 pins)) (hi : i ≤ 6) : xC w (d + 1) mX1_inputNamed [.ref a, .long x] P (xRet (some (.int (fnd pins x 0 i))) P) := by
  refine xC_of (by decide) (ble rfl) (ls := [some (.ref a), some (.long x), none]) rfl ?_
  refine sX1_inputNamed_0 (sX1_inputNamed_1 (sX1_inputNamed_2 (by assumption) (by rfl) (sX1_inputNamed_5 (sX1_inputNamed_6 (by assumption) (by rfl) (sX1_inputNamed_9 (ble rfl) (c_find pins x hp (by omega) (by omega)) (sX1_inputNamed_12 ⟨rfl, rfl⟩))))))
theorem c_pinNamed {pins : Nat → Int64} (x : Int64) (hC : P.1 a = some (cO a nm pl i o pt ac)) (hp : P.1 (a + 1) = some (xJ 9 pins)) (hi : i ≤ 6) (ho : o ≤ 3) : xC w (d + 1) mX1_pinNamed [.ref a, .long x] P (xRet (some (.int (fnd pins x 0 (i + o)))) P) := by
  refine xC_of (by decide) (ble rfl) (ls := [some (.ref a), some (.long x), none]) rfl ?_
  refine sX1_pinNamed_0 (sX1_pinNamed_1 (sX1_pinNamed_2 (by assumption) (by rfl) (sX1_pinNamed_5 (sX1_pinNamed_6 (by assumption) (by rfl) (sX1_pinNamed_9 (sX1_pinNamed_10 (by assumption) (by rfl) (sX1_pinNamed_13 ?_)))))))
  rw [nI_add]
  refine sX1_pinNamed_14 (ble rfl) (c_find pins x hp (by omega) (by omega)) (sX1_pinNamed_17 ⟨rfl, rfl⟩)
theorem c_arcPart {arcs : Nat → Int32} {k q : Nat} (hC : P.1 a = some (cO a nm pl i o pt ac)) (hA : P.1 (a + 6) = some (xA 0 50 arcs)) (hk : k < 10) (hq : q < 5) : xC w d mX1_arcPart [.ref a, .int (nI k), .int (nI q)] P (xRet (some (.int (arcs (k * 5 + q)))) P) := by
  refine xC_of (by decide) (ble rfl) (ls := [some (.ref a), some (.int (nI k)), some (.int (nI q))]) rfl ?_
  refine sX1_arcPart_0 (sX1_arcPart_1 (by assumption) (by rfl) (sX1_arcPart_4 (sX1_arcPart_5 (sX1_arcPart_6 (sX1_arcPart_7 (sX1_arcPart_8 ?_))))))
  rw [show nI k * (5 : Int32) = nI (k * 5) from pk_mul k 5, nI_add]
  refine sX1_arcPart_9 hA (vp_in_nI (by omega) (by omega)) ?_
  rw [nI_clamp (by omega)]
  refine sX1_arcPart_10 ⟨rfl, rfl⟩
def hsA (arcs : Nat → Int32) (x y : Int32) : Nat → Nat → Int32
  | 0, _ => 0
  | m + 1, k => if arcs (k * 5 + 0) = x ∧ arcs (k * 5 + 1) = y then 1 else hsA arcs x y m (k + 1)
theorem hsA_01 (arcs : Nat → Int32) (x y : Int32) : ∀ m k, hsA arcs x y m k = 0 ∨ hsA arcs x y m k = 1 := by
  intro m
  induction m with
  | zero => intro k; exact Or.inl rfl
  | succ m ih => intro k; unfold hsA; split; exact Or.inr rfl; exact ih (k + 1)
theorem c_hasArc {arcs : Nat → Int32} (x y : Int32) (hC : P.1 a = some (cO a nm pl i o pt ac)) (hA : P.1 (a + 6) = some (xA 0 50 arcs)) (hac : ac ≤ 10) : xC w (d + 1) mX1_hasArc [.ref a, .int x, .int y] P (xRet (some (.int (hsA arcs x y ac 0))) P) := by
  refine xC_of (by decide) (ble rfl) (ls := [some (.ref a), some (.int x), some (.int y), none]) rfl ?_
  have L : ∀ m k, k + m = ac → X w mX1_hasArc (d + 1) (xRet (some (.int (hsA arcs x y m k))) P) 2 [some (.ref a), some (.int x), some (.int y), some (.int (nI k))] [] P := by
    intro m
    induction m with
    | zero =>
      intro k hk
      refine sX1_hasArc_2 (sX1_hasArc_3 (sX1_hasArc_4 (by assumption) (by rfl) (sX1_hasArc_7 (fun _ => ?_) (fun h9 => absurd (nI_le (by omega) (by omega)) h9))))
      refine sX1_hasArc_38 (sX1_hasArc_39 (Or.inl rfl) ⟨rfl, rfl⟩)
    | succ m ih =>
      intro k hk
      refine sX1_hasArc_2 (sX1_hasArc_3 (sX1_hasArc_4 (by assumption) (by rfl) (sX1_hasArc_7 (fun h9 => absurd h9 (nI_ge (by omega) (by omega))) (fun _ => ?_))))
      have G : ¬ (arcs (k * 5 + 0) = x ∧ arcs (k * 5 + 1) = y) → X w mX1_hasArc (d + 1) (xRet (some (.int (hsA arcs x y (m + 1) k))) P) 32 [some (.ref a), some (.int x), some (.int y), some (.int (nI k))] [] P := by
        intro h
        refine sX1_hasArc_32 rfl (sX1_hasArc_35 ?_)
        rw [nI_1, show hsA arcs x y (m + 1) k = hsA arcs x y m (k + 1) from if_neg h]
        exact ih (k + 1) (by omega)
      refine sX1_hasArc_10 (sX1_hasArc_11 (sX1_hasArc_12 (sX1_hasArc_13 (ble rfl) hC (c_arcPart (q := 0) hC hA (by omega) (by omega)) (sX1_hasArc_16 (sX1_hasArc_17 (fun h => G (fun q => h q.1)) (fun h1 => ?_))))))
      refine sX1_hasArc_20 (sX1_hasArc_21 (sX1_hasArc_22 (sX1_hasArc_23 (ble rfl) hC (c_arcPart (q := 1) hC hA (by omega) (by omega)) (sX1_hasArc_26 (sX1_hasArc_27 (fun h => G (fun q => h q.2)) (fun h2 => ?_))))))
      refine sX1_hasArc_30 (sX1_hasArc_31 (Or.inr rfl) ⟨by rw [show hsA arcs x y (m + 1) k = 1 from if_pos ⟨h1, h2⟩], rfl⟩)
  have L0 := L ac 0 (by omega)
  rw [nI_0] at L0
  refine sX1_hasArc_0 (sX1_hasArc_1 rfl ?_)
  exact L0
def agr (arcs : Nat → Int32) (truths : Nat → Int64) (k : Nat) : Int32 :=
  if arcs (k * 5 + 2) = 0 ∨ sns (truths (arcs (k * 5 + 1)).toNatClampNeg) (arcs (k * 5 + 0)).toNatClampNeg = arcs (k * 5 + 2) ∨ sns (truths (arcs (k * 5 + 1)).toNatClampNeg) (arcs (k * 5 + 0)).toNatClampNeg = 2 then 1 else 0
theorem c_agrees {arcs : Nat → Int32} {truths : Nat → Int64} {k : Nat} (hC : P.1 a = some (cO a nm pl i o pt ac)) (hA : P.1 (a + 6) = some (xA 0 50 arcs)) (hT : P.1 (a + 2) = some (xJ 3 truths)) (hk : k < 10) (hin : vp_in (arcs (k * 5 + 0)) 6) (hout : vp_in (arcs (k * 5 + 1)) 3) :
    xC w (d + 1) mX1_agrees [.ref a, .int (nI k)] P (xRet (some (.int (agr arcs truths k))) P) := by
  obtain ⟨u, hu, eu⟩ := vp_in_of hin (by omega)
  refine xC_of (by decide) (ble rfl) (ls := [some (.ref a), some (.int (nI k)), none, none]) rfl ?_
  refine sX1_agrees_0 (sX1_agrees_1 (sX1_agrees_2 (sX1_agrees_3 (ble rfl) hC (c_arcPart (q := 2) hC hA (by omega) (by omega)) (sX1_agrees_6 rfl (sX1_agrees_7 (sX1_agrees_8 (by assumption) (by rfl) (sX1_agrees_11 (sX1_agrees_12 (sX1_agrees_13 (sX1_agrees_14 (ble rfl) hC (c_arcPart (q := 1) hC hA (by omega) (by omega)) (sX1_agrees_17 hT hout (sX1_agrees_18 (sX1_agrees_19 (sX1_agrees_20 (sX1_agrees_21 (ble rfl) hC (c_arcPart (q := 0) hC hA (by omega) (by omega)) ?_)))))))))))))))
  have ec : (arcs (k * 5 + 0)).toNatClampNeg = u := by rw [eu, nI_clamp (by omega)]
  have ea : agr arcs truths k = (if arcs (k * 5 + 2) = 0 ∨ sns (truths (arcs (k * 5 + 1)).toNatClampNeg) u = arcs (k * 5 + 2) ∨ sns (truths (arcs (k * 5 + 1)).toNatClampNeg) u = 2 then 1 else 0) := by rw [← ec]; rfl
  rw [ea, eu]
  refine sX1_agrees_24 (ble rfl) (c_senseOf _ hu) (sX1_agrees_27 rfl ?_)
  generalize sns (truths (arcs (k * 5 + 1)).toNatClampNeg) u = z
  generalize arcs (k * 5 + 2) = z2
  refine sX1_agrees_28 (sX1_agrees_29 (fun h29 => ?_) (fun h29 => ?_))
  · refine sX1_agrees_42 (sX1_agrees_43 (sX1_agrees_47 (by first | exact Or.inl rfl | exact Or.inr rfl) ?_))
    refine ⟨?_, rfl⟩; simp_all
  · refine sX1_agrees_32 (sX1_agrees_33 (sX1_agrees_34 (fun h34 => ?_) (fun h34 => ?_)))
    · refine sX1_agrees_42 (sX1_agrees_43 (sX1_agrees_47 (by first | exact Or.inl rfl | exact Or.inr rfl) ?_))
      refine ⟨?_, rfl⟩; simp_all
    · refine sX1_agrees_37 (sX1_agrees_38 (sX1_agrees_39 (fun h39 => ?_) (fun h39 => ?_)))
      · refine sX1_agrees_46 (sX1_agrees_47 (by first | exact Or.inl rfl | exact Or.inr rfl) ?_)
        refine ⟨?_, rfl⟩; simp_all
      · refine sX1_agrees_42 (sX1_agrees_43 (sX1_agrees_47 (by first | exact Or.inl rfl | exact Or.inr rfl) ?_))
        refine ⟨?_, rfl⟩; simp_all
def dsg (arcs : Nat → Int32) (truths : Nat → Int64) : Nat → Nat → Int32 → Int32
  | 0, _, n => n
  | m + 1, k, n => dsg arcs truths m (k + 1) (if agr arcs truths k = 0 then n + 1 else n)
theorem c_disagreeing {arcs : Nat → Int32} {truths : Nat → Int64} (hC : P.1 a = some (cO a nm pl i o pt ac)) (hA : P.1 (a + 6) = some (xA 0 50 arcs)) (hT : P.1 (a + 2) = some (xJ 3 truths)) (hac : ac ≤ 10) (hok : ∀ k, k < ac → vp_in (arcs (k * 5 + 0)) 6 ∧ vp_in (arcs (k * 5 + 1)) 3) :
    xC w (d + 2) mX1_disagreeing [.ref a] P (xRet (some (.int (dsg arcs truths ac 0 0))) P) := by
  refine xC_of (by decide) (ble rfl) (ls := [some (.ref a), none, none]) rfl ?_
  have L : ∀ m k n, k + m = ac → X w mX1_disagreeing (d + 2) (xRet (some (.int (dsg arcs truths m k n))) P) 4 [some (.ref a), some (.int n), some (.int (nI k))] [] P := by
    intro m
    induction m with
    | zero =>
      intro k n hk
      refine sX1_disagreeing_4 (sX1_disagreeing_5 (sX1_disagreeing_6 (by assumption) (by rfl) (sX1_disagreeing_9 (fun _ => ?_) (fun h9 => absurd (nI_le (by omega) (by omega)) h9))))
      refine sX1_disagreeing_29 (sX1_disagreeing_30 ⟨rfl, rfl⟩)
    | succ m ih =>
      intro k n hk
      refine sX1_disagreeing_4 (sX1_disagreeing_5 (sX1_disagreeing_6 (by assumption) (by rfl) (sX1_disagreeing_9 (fun h9 => absurd h9 (nI_ge (by omega) (by omega))) (fun _ => ?_))))
      refine sX1_disagreeing_12 (sX1_disagreeing_13 (sX1_disagreeing_14 (ble rfl) hC (c_agrees hC hA hT (by omega) (hok k (by omega)).1 (hok k (by omega)).2) (sX1_disagreeing_17 (fun h => ?_) (fun h => ?_))))
      · refine sX1_disagreeing_23 rfl (sX1_disagreeing_26 ?_)
        have K := ih (k + 1) n (by omega)
        rw [nI_1, show dsg arcs truths (m + 1) k n = dsg arcs truths m (k + 1) n by simp [dsg, h]]
        exact K
      · refine sX1_disagreeing_20 rfl (sX1_disagreeing_23 rfl (sX1_disagreeing_26 ?_))
        have K := ih (k + 1) (n + 1) (by omega)
        rw [nI_1, show dsg arcs truths (m + 1) k n = dsg arcs truths m (k + 1) (n + 1) by simp [dsg, h]]
        exact K
  have L0 := L ac 0 0 (by omega)
  rw [nI_0] at L0
  refine sX1_disagreeing_0 (sX1_disagreeing_1 rfl (sX1_disagreeing_2 (sX1_disagreeing_3 rfl ?_)))
  exact L0
end CellM
