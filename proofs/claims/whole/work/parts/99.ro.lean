section RO
variable {w : xWd} {d : Nat} {P P1 : xH} {a : Nat}
def zt : taT := (zI, 0, zI, 0, zI)
def zc : ceT := (0, 0, zJ, 0, 0, zJ, zI, zI, zI, 0, zI, 0)
def Lz : liT := (0, zJ, fun _ => zt, 0, fun _ => zc)
theorem tb_xt {sl : Nat} {P2 : xH} (h : xt P P2 a (tbEs a) sl) : pBx P2 a zt := ⟨h.at0, ⟨h.at 1 rfl, h.at 2 rfl⟩, ⟨h.at 3 rfl, h.at 4 rfl⟩, h.at 5 rfl⟩
theorem ce_xt {sl : Nat} {P2 : xH} (h : xt P P2 a (ceEs a) sl) : pC P2 a zc := ⟨h.at0, h.at 1 rfl, h.at 2 rfl, h.at 3 rfl, h.at 4 rfl, h.at 5 rfl, h.at 6 rfl⟩
def tf (a s i : Nat) : Nat → Option Nat := fun j => if j < i then some (a + s * j) else none
theorem tf_0 {a s : Nat} : tf a s 0 = fun _ => none := by funext j; show (if j < 0 then _ else _) = _; rw [if_neg (by omega)]
theorem tf_s {a s i : Nat} : va_up (tf a s i) i (some (a + s * i)) = tf a s (i + 1) := by
  funext j
  show (if j = i then some (a + s * i) else if j < i then some (a + s * j) else none) = if j < i + 1 then some (a + s * j) else none
  by_cases h : j = i
  · subst h; rw [if_pos rfl, if_pos (by omega)]
  · rw [if_neg h]
    by_cases h2 : j < i
    · rw [if_pos h2, if_pos (by omega)]
    · rw [if_neg h2, if_neg (by omega)]
def shI (P P1 : xH) (a i j : Nat) : Prop := P1.2.1 = a + 4 + 6 * i + 7 * j ∧ P1.2.2 = P.2.2 + 36 + 31 * i + 144 * j ∧ (∀ q, q < a → P1.1 q = P.1 q) ∧ P1.1 a = some (sO a 0 0) ∧ P1.1 (a + 1) = some (xJ 12 zJ) ∧ P1.1 (a + 2) = some (xR 4 12 (tf (a + 4) 6 i)) ∧ P1.1 (a + 3) = some (xR 5 12 (tf (a + 76) 7 j)) ∧ (∀ k, k < i → pBx P1 (a + 4 + 6 * k) zt) ∧ ∀ k, k < j → pC P1 (a + 76 + 7 * k) zc
theorem c_shelfInit (hC : P.1 a = some (xO 4 [.null, .null, .null, .int 0, .int 0])) (hz : P.2.1 = a + 1) (hr1 : a + 160 ≤ w.z + 601024) (hr2 : P.2.2 + 2136 ≤ 7293034) : xC w (d + 2) mX6_init [.ref a] P (xRl none (fun P1 => pSh P1 a Lz ∧ P1.2.1 = a + 160 ∧ P1.2.2 = P.2.2 + 2136 ∧ ∀ q, q < a → P1.1 q = P.1 q)) := by
  refine xC_of (by decide) (ble rfl) (ls := [some (.ref a), none]) rfl ?_
  have L2 : ∀ m j (P1 : xH) (h : shI P P1 a 12 j), j + m = 12 → X w mX6_init (d + 2) (xRl none (fun P1 => pSh P1 a Lz ∧ P1.2.1 = a + 160 ∧ P1.2.2 = P.2.2 + 2136 ∧ ∀ q, q < a → P1.1 q = P.1 q)) 59 [some (.ref a), some (.int (nI j))] [] P1 := by
    intro m
    induction m with
    | zero =>
      intro j P1 h hj
      obtain rfl : j = 12 := by omega
      obtain ⟨h1, h2, h3, h4, h5, h6, h7, h8, h9⟩ := h
      refine sX6_init_59 (sX6_init_60 (sX6_init_62 (fun _ => ?_) (fun z => absurd (by decide) z)))
      refine sX6_init_84 ⟨rfl, ⟨⟨h4, h5, h6, h7⟩, h8, h9⟩, by omega, by omega, h3⟩
    | succ m ih =>
      intro j P1 h hj
      obtain ⟨h1, h2, h3, h4, h5, h6, h7, h8, h9⟩ := h
      refine sX6_init_59 (sX6_init_60 (sX6_init_62 (fun z => absurd z (nI_ge (b := 12) (by omega) (by omega))) (fun _ => ?_)))
      refine sX6_init_65 (sX6_init_66 (by assumption) (by rfl) (sX6_init_69 (sX6_init_70 (by omega) (by omega) ?_)))
      rw [h1]
      have zn : (xal P1 (cOi .null .null .null .null .null .null) 12).2.1 = a + 76 + 7 * j + 1 := by show P1.2.1 + 1 = _; omega
      have zs : (xal P1 (cOi .null .null .null .null .null .null) 12).2.2 = P1.2.2 + 12 := rfl
      have zc' : (xal P1 (cOi .null .null .null .null .null .null) 12).1 (a + 76 + 7 * j) = some (cOi .null .null .null .null .null .null) := by rw [show a + 76 + 7 * j = P1.2.1 by omega]; exact xal_s
      have zk : ∀ q, q < a + 76 + 7 * j → (xal P1 (cOi .null .null .null .null .null .null) 12).1 q = P1.1 q := fun q hq => xal_n (by omega) rfl
      rw [show a + 4 + 6 * 12 + 7 * j = a + 76 + 7 * j by omega]
      show X w mX6_init (d + 2) _ 73 _ _ (xal P1 (cOi .null .null .null .null .null .null) 12)
      generalize xal P1 (cOi .null .null .null .null .null .null) 12 = P2 at zn zs zc' zk ⊢
      refine sX6_init_73 rfl (sX6_init_74_r (ble rfl) (c_cellInit zc' zn (by omega) (by omega)) (fun P3 hR => ?_))
      have k3 : ∀ q, q < a + 76 + 7 * j → P3.1 q = P1.1 q := fun q hq => (hR.2.2.1 q hq).trans (zk q hq)
      have z3 : P3.2.1 = a + 76 + 7 * j + 7 := hR.1
      have y3 : P3.2.2 = P2.2.2 + 132 := hR.2.1
      have pc := ce_xt hR
      refine sX6_init_77 (Or.inr ⟨rfl, rfl⟩) ((k3 _ (by omega)).trans h7) hR.at0 (vp_in_nI (by omega) (by omega)) ?_
      rw [nI_clamp (by omega), tf_s]
      refine sX6_init_78 rfl (sX6_init_81 ?_)
      rw [nI_1]
      have k4 : ∀ q, q ≠ a + 3 → (xs P3 (a + 3) (xR 5 12 (tf (a + 76) 7 (j + 1)))).1 q = P3.1 q := fun q hq => xs_n hq rfl
      refine ih (j + 1) _ ⟨?_, ?_, fun q hq => ?_, ?_, ?_, ?_, xs_s, fun k hk => ?_, fun k hk => ?_⟩ (by omega)
      · show P3.2.1 = _; omega
      · show P3.2.2 = _; omega
      · rw [k4 q (by omega), k3 q (by omega)]; exact h3 q hq
      · rw [k4 _ (by omega), k3 _ (by omega)]; exact h4
      · rw [k4 _ (by omega), k3 _ (by omega)]; exact h5
      · rw [k4 _ (by omega), k3 _ (by omega)]; exact h6
      · exact (h8 k hk).cg (fun i p q => by rw [k4 _ (by omega), k3 _ (by omega)])
      · by_cases e : k = j
        · subst e; exact pc.cg (fun i p q => k4 _ (by omega))
        · exact (h9 k (by omega)).cg (fun i p q => by rw [k4 _ (by omega), k3 _ (by omega)])
  have L1 : ∀ m j (P1 : xH) (h : shI P P1 a j 0), j + m = 12 → X w mX6_init (d + 2) (xRl none (fun P1 => pSh P1 a Lz ∧ P1.2.1 = a + 160 ∧ P1.2.2 = P.2.2 + 2136 ∧ ∀ q, q < a → P1.1 q = P.1 q)) 32 [some (.ref a), some (.int (nI j))] [] P1 := by
    intro m
    induction m with
    | zero =>
      intro j P1 h hj
      obtain rfl : j = 12 := by omega
      refine sX6_init_32 (sX6_init_33 (sX6_init_35 (fun _ => ?_) (fun z => absurd (by decide) z)))
      refine sX6_init_57 (sX6_init_58 rfl ?_)
      exact L2 12 0 P1 h rfl
    | succ m ih =>
      intro j P1 h hj
      obtain ⟨h1, h2, h3, h4, h5, h6, h7, h8, h9⟩ := h
      refine sX6_init_32 (sX6_init_33 (sX6_init_35 (fun z => absurd z (nI_ge (b := 12) (by omega) (by omega))) (fun _ => ?_)))
      refine sX6_init_38 (sX6_init_39 (by assumption) (by rfl) (sX6_init_42 (sX6_init_43 (by omega) (by omega) ?_)))
      rw [h1]
      have zn : (xal P1 (xO 5 [.null, .null, .null]) 3).2.1 = a + 4 + 6 * j + 1 := by show P1.2.1 + 1 = _; omega
      have zs : (xal P1 (xO 5 [.null, .null, .null]) 3).2.2 = P1.2.2 + 3 := rfl
      have zc' : (xal P1 (xO 5 [.null, .null, .null]) 3).1 (a + 4 + 6 * j) = some (xO 5 [.null, .null, .null]) := by rw [show a + 4 + 6 * j = P1.2.1 by omega]; exact xal_s
      have zk : ∀ q, q < a + 4 + 6 * j → (xal P1 (xO 5 [.null, .null, .null]) 3).1 q = P1.1 q := fun q hq => xal_n (by omega) rfl
      rw [show a + 4 + 6 * j + 7 * 0 = a + 4 + 6 * j by omega]
      generalize xal P1 (xO 5 [.null, .null, .null]) 3 = P2 at zn zs zc' zk ⊢
      refine sX6_init_46 rfl (sX6_init_47_r (ble rfl) (c_tableInit zc' zn (by omega) (by omega)) (fun P3 hR => ?_))
      have k3 : ∀ q, q < a + 4 + 6 * j → P3.1 q = P1.1 q := fun q hq => (hR.2.2.1 q hq).trans (zk q hq)
      have z3 : P3.2.1 = a + 4 + 6 * j + 6 := hR.1
      have y3 : P3.2.2 = P2.2.2 + 28 := hR.2.1
      have pc := tb_xt hR
      refine sX6_init_50 (Or.inl ⟨rfl, rfl⟩) ((k3 _ (by omega)).trans h6) hR.at0 (vp_in_nI (by omega) (by omega)) ?_
      rw [nI_clamp (by omega), tf_s]
      refine sX6_init_51 rfl (sX6_init_54 ?_)
      rw [nI_1]
      have k4 : ∀ q, q ≠ a + 2 → (xs P3 (a + 2) (xR 4 12 (tf (a + 4) 6 (j + 1)))).1 q = P3.1 q := fun q hq => xs_n hq rfl
      refine ih (j + 1) _ ⟨?_, ?_, fun q hq => ?_, ?_, ?_, xs_s, ?_, fun k hk => ?_, fun k hk => by omega⟩ (by omega)
      · show P3.2.1 = _; omega
      · show P3.2.2 = _; omega
      · rw [k4 q (by omega), k3 q (by omega)]; exact h3 q hq
      · rw [k4 _ (by omega), k3 _ (by omega)]; exact h4
      · rw [k4 _ (by omega), k3 _ (by omega)]; exact h5
      · rw [k4 _ (by omega), k3 _ (by omega)]; exact h7
      · by_cases e : k = j
        · subst e; exact pc.cg (fun i p q => k4 _ (by omega))
        · exact (h8 k (by omega)).cg (fun i p q => by rw [k4 _ (by omega), k3 _ (by omega)])
  have h0 := xt.rf hC hz
  refine sX6_init_0 (sX6_init_1 (ble rfl) (sX6_init_4 (sX6_init_5 (sX6_init_7 (N := 12) (by decide) (by decide) (by decide) (by omega) (by omega) (sX6_init_9 (h0.al.at0) (ble rfl) ?_)))))
  rw [hz]
  have h1 := (h0.al (e := xJ 12 zJ) (n := 12)).put0 (e := xO 4 [.ref (a + 1), .null, .null, .int 0, .int 0])
  show X w mX6_init (d + 2) _ 12 _ _ (xs (xal P (xJ 12 zJ) 12) a (xO 4 [.ref (a + 1), .null, .null, .int 0, .int 0]))
  generalize xs (xal P (xJ 12 zJ) 12) a (xO 4 [.ref (a + 1), .null, .null, .int 0, .int 0]) = P1 at h1 ⊢
  have z1 : P1.2.1 = a + 2 := h1.1
  have y1 : P1.2.2 = P.2.2 + 12 := h1.2.1
  refine sX6_init_12 (sX6_init_13 (sX6_init_15 (N := 12) (by decide) (by decide) (by decide) (by omega) (by omega) (sX6_init_18 (h1.al.at0) (ble rfl) ?_)))
  rw [z1]
  have h2 := (h1.al (e := xR 4 12 (fun _ => none)) (n := 12)).put0 (e := xO 4 [.ref (a + 1), .ref (a + 2), .null, .int 0, .int 0])
  show X w mX6_init (d + 2) _ 21 _ _ (xs (xal P1 (xR 4 12 (fun _ => none)) 12) a (xO 4 [.ref (a + 1), .ref (a + 2), .null, .int 0, .int 0]))
  generalize xs (xal P1 (xR 4 12 (fun _ => none)) 12) a (xO 4 [.ref (a + 1), .ref (a + 2), .null, .int 0, .int 0]) = P2 at h2 ⊢
  have z2 : P2.2.1 = a + 3 := h2.1
  have y2 : P2.2.2 = P.2.2 + 24 := h2.2.1
  refine sX6_init_21 (sX6_init_22 (sX6_init_24 (N := 12) (by decide) (by decide) (by decide) (by omega) (by omega) (sX6_init_27 (h2.al.at0) (ble rfl) ?_)))
  rw [z2]
  have h3 := (h2.al (e := xR 5 12 (fun _ => none)) (n := 12)).put0 (e := sO a 0 0)
  show X w mX6_init (d + 2) _ 30 _ _ (xs (xal P2 (xR 5 12 (fun _ => none)) 12) a (sO a 0 0))
  generalize xs (xal P2 (xR 5 12 (fun _ => none)) 12) a (sO a 0 0) = P3 at h3 ⊢
  have z3 : P3.2.1 = a + 4 := h3.1
  have y3 : P3.2.2 = P.2.2 + 36 := h3.2.1
  refine sX6_init_30 (sX6_init_31 rfl ?_)
  exact L1 12 0 P3 ⟨by omega, by omega, h3.2.2.1, h3.at0, h3.at 1 rfl, by rw [tf_0]; exact h3.at 2 rfl, by rw [tf_0]; exact h3.at 3 rfl, fun k hk => by omega, fun k hk => by omega⟩ rfl
def tz : tSt := (0, zJ, zJ, zJ, zJ)
theorem c_readerInit (hC : P.1 a = some (xO 3 [.null, .null, .null])) (hz : P.2.1 = a + 1) (hr1 : a + 168 ≤ w.z + 601024) (hr2 : P.2.2 + 2219 ≤ 7293034) : xC w (d + 3) mX5_init [.ref a] P (xRl none (fun P1 => P1.1 a = some (xO 3 [.ref (a + 1), .ref (a + 3), .ref (a + 8)]) ∧ P1.1 (a + 1) = some (xO 7 [.ref (a + 2), .int 0, .int 0, .int 0, .int 0]) ∧ pT P1 (a + 3) tz ∧ pSh P1 (a + 8) Lz ∧ P1.2.1 = a + 168 ∧ P1.2.2 = P.2.2 + 2219 ∧ ∀ q, q < a → P1.1 q = P.1 q)) := by
  have h0 := xt.rf hC hz
  refine xC_of (by decide) (ble rfl) (ls := [some (.ref a)]) rfl ?_
  refine sX5_init_0 (sX5_init_1 (ble rfl) (sX5_init_4 (sX5_init_5 (by omega) (by omega) ?_)))
  rw [hz]
  have h1 := h0.al (e := xO 7 [.null, .int 0, .int 0, .int 0, .int 0]) (n := 5)
  generalize xal P (xO 7 [.null, .int 0, .int 0, .int 0, .int 0]) 5 = P1 at h1 ⊢
  have z1 : P1.2.1 = a + 2 := h1.1
  have y1 : P1.2.2 = P.2.2 + 5 := h1.2.1
  refine sX5_init_8 rfl (sX5_init_9_r (ble rfl) (c_wordsInit (h1.at 1 rfl) h1.1 (by omega) (by omega)) (fun P2 hR => ?_))
  have h2 := h1.cat (es := [_]) hR rfl
  refine sX5_init_12 h2.at0 (ble rfl) ?_
  have h3 := h2.put0 (e := xO 3 [.ref (a + 1), .null, .null])
  show X w mX5_init (d + 3) _ 15 _ _ (xs P2 a (xO 3 [.ref (a + 1), .null, .null]))
  generalize xs P2 a (xO 3 [.ref (a + 1), .null, .null]) = P3 at h3 ⊢
  have z3 : P3.2.1 = a + 3 := h3.1
  have y3 : P3.2.2 = P.2.2 + 5 := h3.2.1
  refine sX5_init_15 (sX5_init_16 (by omega) (by omega) ?_)
  rw [z3]
  have h4 := h3.al (e := xO 6 [.null, .null, .null, .null, .int 0]) (n := 5)
  generalize xal P3 (xO 6 [.null, .null, .null, .null, .int 0]) 5 = P4 at h4 ⊢
  have z4 : P4.2.1 = a + 4 := h4.1
  have y4 : P4.2.2 = P.2.2 + 10 := h4.2.1
  refine sX5_init_19 rfl (sX5_init_20_r (ble rfl) (c_termsInit (h4.at 3 rfl) h4.1 (by omega) (by omega)) (fun P5 hR => ?_))
  have h5 := h4.cat (es := [_, _, _]) hR rfl
  refine sX5_init_23 h5.at0 (ble rfl) ?_
  have h6 := h5.put0 (e := xO 3 [.ref (a + 1), .ref (a + 3), .null])
  show X w mX5_init (d + 3) _ 26 _ _ (xs P5 a (xO 3 [.ref (a + 1), .ref (a + 3), .null]))
  generalize xs P5 a (xO 3 [.ref (a + 1), .ref (a + 3), .null]) = P6 at h6 ⊢
  have z6 : P6.2.1 = a + 8 := h6.1
  have y6 : P6.2.2 = P.2.2 + 78 := h6.2.1
  refine sX5_init_26 (sX5_init_27 (by omega) (by omega) ?_)
  rw [z6]
  have zn : (xal P6 (xO 4 [.null, .null, .null, .int 0, .int 0]) 5).2.1 = a + 8 + 1 := by show P6.2.1 + 1 = _; omega
  have zs : (xal P6 (xO 4 [.null, .null, .null, .int 0, .int 0]) 5).2.2 = P6.2.2 + 5 := rfl
  have zc' : (xal P6 (xO 4 [.null, .null, .null, .int 0, .int 0]) 5).1 (a + 8) = some (xO 4 [.null, .null, .null, .int 0, .int 0]) := by rw [← z6]; exact xal_s
  have zk : ∀ q, q < a + 8 → (xal P6 (xO 4 [.null, .null, .null, .int 0, .int 0]) 5).1 q = P6.1 q := fun q hq => xal_n (by omega) rfl
  generalize xal P6 (xO 4 [.null, .null, .null, .int 0, .int 0]) 5 = P7 at zn zs zc' zk ⊢
  refine sX5_init_30 rfl (sX5_init_31_r (ble rfl) (c_shelfInit zc' zn (by omega) (by omega)) (fun P8 hR => ?_))
  obtain ⟨s1, s2, s3, s4⟩ := hR
  have k8 : ∀ q, q < a + 8 → P8.1 q = P6.1 q := fun q hq => (s4 q hq).trans (zk q hq)
  refine sX5_init_34 ((k8 _ (by omega)).trans h6.at0) (ble rfl) ?_
  have k9 : ∀ q, q ≠ a → (xs P8 a (xO 3 [.ref (a + 1), .ref (a + 3), .ref (a + 8)])).1 q = P8.1 q := fun q hq => xs_n hq rfl
  have M : ∀ {q : Nat} {e : Option xE}, q ≠ a → q < a + 8 → P6.1 q = e → (xs P8 a (xO 3 [.ref (a + 1), .ref (a + 3), .ref (a + 8)])).1 q = e := fun h1 h2 h3 => ((k9 _ h1).trans (k8 _ h2)).trans h3
  refine sX5_init_37 ⟨rfl, xs_s, M (by omega) (by omega) (h6.at 1 rfl), ⟨M (by omega) (by omega) (h6.at 3 rfl), M (by omega) (by omega) (h6.at 4 rfl), M (by omega) (by omega) (h6.at 5 rfl), M (by omega) (by omega) (h6.at 6 rfl), M (by omega) (by omega) (h6.at 7 rfl)⟩, s1.cg (fun i p q => k9 _ (by omega)), by show P8.2.1 = _; omega, by show P8.2.2 = _; omega, fun q hq => ((k9 q (by omega)).trans (k8 q (by omega))).trans (h6.2.2.1 q hq)⟩
theorem wS_z : wS Lz := ⟨by show 0 ≤ 12; omega, by show 0 ≤ 12; omega, fun _ _ => ⟨Nat.zero_le _, Nat.zero_le _, Nat.zero_le _⟩, fun _ _ => ⟨Nat.zero_le _, Nat.zero_le _⟩⟩
theorem c_libInit (hC : P.1 a = some (xO 8 [.null, .int 0, .null, .null, .null, .null])) (hz : P.2.1 = a + 1) (hr1 : a + 335 ≤ w.z + 601024) (hr2 : P.2.2 + 7000 ≤ 7293034) : xC w (d + 4) mX10_init [.ref a] P (xRl none (fun P1 => cZ P1 a (a + 2) (a + 170) zI 0 Lz tz Lz zI ∧ P1.2.1 = a + 335 ∧ P1.2.2 ≤ P.2.2 + 7000 ∧ ∀ q, q < a → P1.1 q = P.1 q)) := by
  have h0 := xt.rf hC hz
  refine xC_of (by decide) (ble rfl) (ls := [some (.ref a)]) rfl ?_
  refine sX10_init_0 (sX10_init_1 (ble rfl) (sX10_init_4 (sX10_init_5 (sX10_init_8 (N := 1400) (by decide) (by decide) (by decide) (by omega) (by omega) (sX10_init_10 (h0.al.at0) (ble rfl) ?_)))))
  rw [hz]
  have h1 := (h0.al (e := xA 2 1400 zI) (n := 1400)).put0 (e := xO 8 [.ref (a + 1), .int 0, .null, .null, .null, .null])
  show X w mX10_init (d + 4) _ 13 _ _ (xs (xal P (xA 2 1400 zI) 1400) a (xO 8 [.ref (a + 1), .int 0, .null, .null, .null, .null]))
  generalize xs (xal P (xA 2 1400 zI) 1400) a (xO 8 [.ref (a + 1), .int 0, .null, .null, .null, .null]) = P1 at h1 ⊢
  have z1 : P1.2.1 = a + 2 := h1.1
  have y1 : P1.2.2 = P.2.2 + 1400 := h1.2.1
  have T1 := h1.at 1 rfl
  have O1 := h1.at0
  have B1 := h1.2.2.1
  clear h1 h0
  -- the shelf
  refine sX10_init_13 (sX10_init_14 (by omega) (by omega) ?_)
  rw [z1]
  have zn : (xal P1 (xO 4 [.null, .null, .null, .int 0, .int 0]) 5).2.1 = a + 2 + 1 := by show P1.2.1 + 1 = _; omega
  have zs : (xal P1 (xO 4 [.null, .null, .null, .int 0, .int 0]) 5).2.2 = P1.2.2 + 5 := rfl
  have zc' : (xal P1 (xO 4 [.null, .null, .null, .int 0, .int 0]) 5).1 (a + 2) = some (xO 4 [.null, .null, .null, .int 0, .int 0]) := by rw [← z1]; exact xal_s
  have zk : ∀ q, q < a + 2 → (xal P1 (xO 4 [.null, .null, .null, .int 0, .int 0]) 5).1 q = P1.1 q := fun q hq => xal_n (by omega) rfl
  generalize xal P1 (xO 4 [.null, .null, .null, .int 0, .int 0]) 5 = P2 at zn zs zc' zk ⊢
  refine sX10_init_17 rfl (sX10_init_18_r (ble rfl) (c_shelfInit zc' zn (by omega) (by omega)) (fun P3 hR => ?_))
  obtain ⟨s1, s2, s3, s4⟩ := hR
  have k3 : ∀ q, q < a + 2 → P3.1 q = P1.1 q := fun q hq => (s4 q hq).trans (zk q hq)
  have O3 := (k3 a (by omega)).trans O1
  refine sX10_init_21 O3 (ble rfl) ?_
  show X w mX10_init (d + 4) _ 24 _ _ (xs P3 a (xO 8 [.ref (a + 1), .int 0, .ref (a + 2), .null, .null, .null]))
  have k4 : ∀ q, q ≠ a → (xs P3 a (xO 8 [.ref (a + 1), .int 0, .ref (a + 2), .null, .null, .null])).1 q = P3.1 q := fun q hq => xs_n hq rfl
  have O4 : (xs P3 a (xO 8 [.ref (a + 1), .int 0, .ref (a + 2), .null, .null, .null])).1 a = some (xO 8 [.ref (a + 1), .int 0, .ref (a + 2), .null, .null, .null]) := xs_s
  have z4 : (xs P3 a (xO 8 [.ref (a + 1), .int 0, .ref (a + 2), .null, .null, .null])).2.1 = a + 162 := by show P3.2.1 = _; omega
  have y4 : (xs P3 a (xO 8 [.ref (a + 1), .int 0, .ref (a + 2), .null, .null, .null])).2.2 = P.2.2 + 3541 := by show P3.2.2 = _; omega
  have S4 : pSh (xs P3 a (xO 8 [.ref (a + 1), .int 0, .ref (a + 2), .null, .null, .null])) (a + 2) Lz := s1.cg (fun i p q => k4 _ (by omega))
  have T4 := ((k4 (a + 1) (by omega)).trans (k3 (a + 1) (by omega))).trans T1
  have B4 : ∀ q, q < a → (xs P3 a (xO 8 [.ref (a + 1), .int 0, .ref (a + 2), .null, .null, .null])).1 q = P.1 q := fun q hq => ((k4 q (by omega)).trans (k3 q (by omega))).trans (B1 q hq)
  generalize xs P3 a (xO 8 [.ref (a + 1), .int 0, .ref (a + 2), .null, .null, .null]) = P4 at O4 z4 y4 S4 T4 B4 ⊢
  clear k4 O3 k3 s1 s2 s3 s4 zn zs zc' zk O1 B1 T1 z1 y1
  -- the reader
  refine sX10_init_24 (sX10_init_25 (by omega) (by omega) ?_)
  rw [z4]
  have zn : (xal P4 (xO 3 [.null, .null, .null]) 3).2.1 = a + 162 + 1 := by show P4.2.1 + 1 = _; omega
  have zs : (xal P4 (xO 3 [.null, .null, .null]) 3).2.2 = P4.2.2 + 3 := rfl
  have zc' : (xal P4 (xO 3 [.null, .null, .null]) 3).1 (a + 162) = some (xO 3 [.null, .null, .null]) := by rw [← z4]; exact xal_s
  have zk : ∀ q, q < a + 162 → (xal P4 (xO 3 [.null, .null, .null]) 3).1 q = P4.1 q := fun q hq => xal_n (by omega) rfl
  generalize xal P4 (xO 3 [.null, .null, .null]) 3 = P5 at zn zs zc' zk ⊢
  refine sX10_init_28 rfl (sX10_init_29_r (ble rfl) (c_readerInit zc' zn (by omega) (by omega)) (fun P6 hR => ?_))
  obtain ⟨r1, r2, r3, r4, r5, r6, r7⟩ := hR
  have k6 : ∀ q, q < a + 162 → P6.1 q = P4.1 q := fun q hq => (r7 q hq).trans (zk q hq)
  have O6 := (k6 a (by omega)).trans O4
  refine sX10_init_32 O6 (ble rfl) ?_
  show X w mX10_init (d + 4) _ 35 _ _ (xs P6 a (xO 8 [.ref (a + 1), .int 0, .ref (a + 2), .ref (a + 162), .null, .null]))
  have k7 : ∀ q, q ≠ a → (xs P6 a (xO 8 [.ref (a + 1), .int 0, .ref (a + 2), .ref (a + 162), .null, .null])).1 q = P6.1 q := fun q hq => xs_n hq rfl
  have O7 : (xs P6 a (xO 8 [.ref (a + 1), .int 0, .ref (a + 2), .ref (a + 162), .null, .null])).1 a = some (xO 8 [.ref (a + 1), .int 0, .ref (a + 2), .ref (a + 162), .null, .null]) := xs_s
  have z7 : (xs P6 a (xO 8 [.ref (a + 1), .int 0, .ref (a + 2), .ref (a + 162), .null, .null])).2.1 = a + 330 := by show P6.2.1 = _; omega
  have y7 : (xs P6 a (xO 8 [.ref (a + 1), .int 0, .ref (a + 2), .ref (a + 162), .null, .null])).2.2 = P.2.2 + 5763 := by show P6.2.2 = _; omega
  have S7 : pSh (xs P6 a (xO 8 [.ref (a + 1), .int 0, .ref (a + 2), .ref (a + 162), .null, .null])) (a + 2) Lz := S4.cg (fun i p q => (k7 _ (by omega)).trans (k6 _ (by omega)))
  have T7 := ((k7 (a + 1) (by omega)).trans (k6 (a + 1) (by omega))).trans T4
  have B7 : ∀ q, q < a → (xs P6 a (xO 8 [.ref (a + 1), .int 0, .ref (a + 2), .ref (a + 162), .null, .null])).1 q = P.1 q := fun q hq => ((k7 q (by omega)).trans (k6 q (by omega))).trans (B4 q hq)
  have R7 := (k7 (a + 162) (by omega)).trans r1
  have W7 := (k7 (a + 163) (by omega)).trans r2
  have M7 : pT (xs P6 a (xO 8 [.ref (a + 1), .int 0, .ref (a + 2), .ref (a + 162), .null, .null])) (a + 165) tz := r3.cg (fun i p q => k7 _ (by omega))
  have H7 : pSh (xs P6 a (xO 8 [.ref (a + 1), .int 0, .ref (a + 2), .ref (a + 162), .null, .null])) (a + 170) Lz := r4.cg (fun i p q => k7 _ (by omega))
  generalize xs P6 a (xO 8 [.ref (a + 1), .int 0, .ref (a + 2), .ref (a + 162), .null, .null]) = P7 at O7 z7 y7 S7 T7 B7 R7 W7 M7 H7 ⊢
  clear k7 O6 k6 r1 r2 r3 r4 r5 r6 r7 zn zs zc' zk O4 z4 y4 S4 T4 B4
  -- the matcher
  refine sX10_init_35 (sX10_init_36 (by omega) (by omega) ?_)
  rw [z7]
  have zn : (xal P7 (xO 2 [.null, .null, .null, .int 0]) 4).2.1 = a + 330 + 1 := by show P7.2.1 + 1 = _; omega
  have zs : (xal P7 (xO 2 [.null, .null, .null, .int 0]) 4).2.2 = P7.2.2 + 4 := rfl
  have zc' : (xal P7 (xO 2 [.null, .null, .null, .int 0]) 4).1 (a + 330) = some (xO 2 [.null, .null, .null, .int 0]) := by rw [← z7]; exact xal_s
  have zk : ∀ q, q < a + 330 → (xal P7 (xO 2 [.null, .null, .null, .int 0]) 4).1 q = P7.1 q := fun q hq => xal_n (by omega) rfl
  generalize xal P7 (xO 2 [.null, .null, .null, .int 0]) 4 = P8 at zn zs zc' zk ⊢
  refine sX10_init_39 rfl (sX10_init_40_r (ble rfl) (c_matInit zc' zn (by omega) (by omega)) (fun P9 hR => ?_))
  have k9 : ∀ q, q < a + 330 → P9.1 q = P7.1 q := fun q hq => (hR.2.2.1 q hq).trans (zk q hq)
  have z9 : P9.2.1 = a + 334 := hR.1
  have y9 : P9.2.2 = P8.2.2 + 262 := hR.2.1
  have O9 := (k9 a (by omega)).trans O7
  refine sX10_init_43 O9 (ble rfl) ?_
  show X w mX10_init (d + 4) _ 46 _ _ (xs P9 a (xO 8 [.ref (a + 1), .int 0, .ref (a + 2), .ref (a + 162), .ref (a + 330), .null]))
  have zz : (xs P9 a (xO 8 [.ref (a + 1), .int 0, .ref (a + 2), .ref (a + 162), .ref (a + 330), .null])).2 = P9.2 := rfl
  have k10 : ∀ q, q ≠ a → (xs P9 a (xO 8 [.ref (a + 1), .int 0, .ref (a + 2), .ref (a + 162), .ref (a + 330), .null])).1 q = P9.1 q := fun q hq => xs_n hq rfl
  have O10 : (xs P9 a (xO 8 [.ref (a + 1), .int 0, .ref (a + 2), .ref (a + 162), .ref (a + 330), .null])).1 a = some (xO 8 [.ref (a + 1), .int 0, .ref (a + 2), .ref (a + 162), .ref (a + 330), .null]) := xs_s
  generalize xs P9 a (xO 8 [.ref (a + 1), .int 0, .ref (a + 2), .ref (a + 162), .ref (a + 330), .null]) = P10 at zz k10 O10 ⊢
  refine sX10_init_46 (sX10_init_47 (sX10_init_49 (N := 12) (by decide) (by decide) (by decide) (by rw [zz]; omega) (by rw [zz]; omega) ?_))
  rw [show P10.2.1 = a + 334 by rw [zz]; exact z9]
  have O11 : (xal P10 (xA 0 12 zI) 12).1 a = some (xO 8 [.ref (a + 1), .int 0, .ref (a + 2), .ref (a + 162), .ref (a + 330), .null]) := xal_n (by rw [zz]; omega) O10
  refine sX10_init_51 O11 (ble rfl) ?_
  show X w mX10_init (d + 4) _ 54 _ _ (xs (xal P10 (xA 0 12 zI) 12) a (xO 8 [.ref (a + 1), .int 0, .ref (a + 2), .ref (a + 162), .ref (a + 330), .ref (a + 334)]))
  have M : ∀ {q : Nat} {e : Option xE}, q ≠ a → q < a + 334 → P9.1 q = e → (xs (xal P10 (xA 0 12 zI) 12) a (xO 8 [.ref (a + 1), .int 0, .ref (a + 2), .ref (a + 162), .ref (a + 330), .ref (a + 334)])).1 q = e := fun h1 h2 h3 => xs_n h1 (xal_n (by rw [zz]; omega) ((k10 _ h1).trans h3))
  have N : ∀ {q : Nat} {e : Option xE}, q ≠ a → q < a + 330 → P7.1 q = e → (xs (xal P10 (xA 0 12 zI) 12) a (xO 8 [.ref (a + 1), .int 0, .ref (a + 2), .ref (a + 162), .ref (a + 330), .ref (a + 334)])).1 q = e := fun h1 h2 h3 => M h1 (by omega) ((k9 _ h2).trans h3)
  have m334 : (xs (xal P10 (xA 0 12 zI) 12) a (xO 8 [.ref (a + 1), .int 0, .ref (a + 2), .ref (a + 162), .ref (a + 330), .ref (a + 334)])).1 (a + 334) = some (xA 0 12 zI) := xs_n (by omega) (by rw [show a + 334 = P10.2.1 by rw [zz]; omega]; exact xal_s)
  refine sX10_init_54 ⟨rfl, ⟨xs_s, N (by omega) (by omega) T7, S7.cg (fun i p q => N (by omega) (by omega) rfl), N (by omega) (by omega) R7, ⟨_, _, _, _, _, N (by omega) (by omega) W7⟩, M7.cg (fun i p q => N (by omega) (by omega) rfl), H7.cg (fun i p q => N (by omega) (by omega) rfl), ⟨0, zI, zJ, zJ, M (by omega) (by omega) hR.at0, M (by omega) (by omega) (hR.at 1 rfl), M (by omega) (by omega) (hR.at 2 rfl), M (by omega) (by omega) (hR.at 3 rfl)⟩, m334, by omega, Or.inl ⟨rfl, rfl⟩, wS_z, wS_z, Nat.zero_le _, by show a + 335 ≤ P10.2.1 + 1; rw [zz]; omega⟩, by show P10.2.1 + 1 = _; rw [zz]; omega, by show P10.2.2 + 12 ≤ _; rw [zz]; omega, fun q hq => N (by omega) (by omega) (B7 q hq)⟩
end RO
