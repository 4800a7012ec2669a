section RN
variable {w : xWd} {d : Nat} {P : xH} {a : Nat}
def woEs (a : Nat) : List xE := [xO 7 [.ref (a + 1), .int 0, .int 0, .int 0, .int 0], xA 2 0 zI]
theorem c_wordsInit (hC : P.1 a = some (xO 7 [.null, .int 0, .int 0, .int 0, .int 0])) (hz : P.2.1 = a + 1) (hr1 : P.2.1 + 1 ≤ w.z + 601024) (hr2 : P.2.2 + 0 ≤ 7293034) : xC w d mX9_init [.ref a] P (xRl none (fun P1 => xt P P1 a (woEs a) 0)) := by
  have h0 := xt.rf hC hz
  refine xC_of (by decide) (ble rfl) (ls := [some (.ref a)]) rfl ?_
  refine sX9_init_0 (sX9_init_1 (ble rfl) (sX9_init_4 (sX9_init_5 (sX9_init_6 (N := 0) (by decide) (by decide) (by decide) (by omega) (by omega) (sX9_init_8 (h0.al.at0) (ble rfl) (sX9_init_11 ⟨rfl, ?_⟩))))))
  rw [hz]
  exact (h0.al (e := xA 2 0 zI) (n := 0)).put0 (e := xO 7 [.ref (a + 1), .int 0, .int 0, .int 0, .int 0])
def teEs (a : Nat) : List xE := [xO 6 [.ref (a + 1), .ref (a + 2), .ref (a + 3), .ref (a + 4), .int 0], xJ 17 zJ, xJ 17 zJ, xJ 17 zJ, xJ 17 zJ]
theorem c_termsInit (hC : P.1 a = some (xO 6 [.null, .null, .null, .null, .int 0])) (hz : P.2.1 = a + 1) (hr1 : P.2.1 + 4 ≤ w.z + 601024) (hr2 : P.2.2 + 68 ≤ 7293034) : xC w d mX8_init [.ref a] P (xRl none (fun P1 => xt P P1 a (teEs a) 68)) := by
  have h0 := xt.rf hC hz
  refine xC_of (by decide) (ble rfl) (ls := [some (.ref a)]) rfl ?_
  refine sX8_init_0 (sX8_init_1 (ble rfl) (sX8_init_4 (sX8_init_5 (sX8_init_7 (N := 17) (by decide) (by decide) (by decide) (by omega) (by omega) (sX8_init_9 (h0.al.at0) (ble rfl) ?_)))))
  rw [hz]
  have h1 := (h0.al (e := xJ 17 zJ) (n := 17)).put0 (e := xO 6 [.ref (a + 1), .null, .null, .null, .int 0])
  show X w mX8_init d _ 12 _ _ (xs (xal P (xJ 17 zJ) 17) a (xO 6 [.ref (a + 1), .null, .null, .null, .int 0]))
  generalize xs (xal P (xJ 17 zJ) 17) a (xO 6 [.ref (a + 1), .null, .null, .null, .int 0]) = P1 at h1 ⊢
  have z1 : P1.2.1 = a + 2 := h1.1
  have y1 : P1.2.2 = P.2.2 + 17 := h1.2.1
  refine sX8_init_12 (sX8_init_13 (sX8_init_15 (N := 17) (by decide) (by decide) (by decide) (by omega) (by omega) (sX8_init_17 (h1.al.at0) (ble rfl) ?_)))
  rw [z1]
  have h2 := (h1.al (e := xJ 17 zJ) (n := 17)).put0 (e := xO 6 [.ref (a + 1), .ref (a + 2), .null, .null, .int 0])
  show X w mX8_init d _ 20 _ _ (xs (xal P1 (xJ 17 zJ) 17) a (xO 6 [.ref (a + 1), .ref (a + 2), .null, .null, .int 0]))
  generalize xs (xal P1 (xJ 17 zJ) 17) a (xO 6 [.ref (a + 1), .ref (a + 2), .null, .null, .int 0]) = P2 at h2 ⊢
  have z2 : P2.2.1 = a + 3 := h2.1
  have y2 : P2.2.2 = P.2.2 + 34 := h2.2.1
  refine sX8_init_20 (sX8_init_21 (sX8_init_23 (N := 17) (by decide) (by decide) (by decide) (by omega) (by omega) (sX8_init_25 (h2.al.at0) (ble rfl) ?_)))
  rw [z2]
  have h3 := (h2.al (e := xJ 17 zJ) (n := 17)).put0 (e := xO 6 [.ref (a + 1), .ref (a + 2), .ref (a + 3), .null, .int 0])
  show X w mX8_init d _ 28 _ _ (xs (xal P2 (xJ 17 zJ) 17) a (xO 6 [.ref (a + 1), .ref (a + 2), .ref (a + 3), .null, .int 0]))
  generalize xs (xal P2 (xJ 17 zJ) 17) a (xO 6 [.ref (a + 1), .ref (a + 2), .ref (a + 3), .null, .int 0]) = P3 at h3 ⊢
  have z3 : P3.2.1 = a + 4 := h3.1
  have y3 : P3.2.2 = P.2.2 + 51 := h3.2.1
  refine sX8_init_28 (sX8_init_29 (sX8_init_31 (N := 17) (by decide) (by decide) (by decide) (by omega) (by omega) (sX8_init_33 (h3.al.at0) (ble rfl) (sX8_init_36 ⟨rfl, ?_⟩))))
  rw [z3]
  exact (h3.al (e := xJ 17 zJ) (n := 17)).put0 (e := xO 6 [.ref (a + 1), .ref (a + 2), .ref (a + 3), .ref (a + 4), .int 0])
def maEs (a : Nat) : List xE := [xO 2 [.ref (a + 1), .ref (a + 2), .ref (a + 3), .int 0], xA 0 6 zI, xJ 128 zJ, xJ 128 zJ]
theorem c_matInit (hC : P.1 a = some (xO 2 [.null, .null, .null, .int 0])) (hz : P.2.1 = a + 1) (hr1 : P.2.1 + 3 ≤ w.z + 601024) (hr2 : P.2.2 + 262 ≤ 7293034) : xC w d mX3_init [.ref a] P (xRl none (fun P1 => xt P P1 a (maEs a) 262)) := by
  have h0 := xt.rf hC hz
  refine xC_of (by decide) (ble rfl) (ls := [some (.ref a)]) rfl ?_
  refine sX3_init_0 (sX3_init_1 (ble rfl) (sX3_init_4 (sX3_init_5 (sX3_init_7 (N := 6) (by decide) (by decide) (by decide) (by omega) (by omega) (sX3_init_9 (h0.al.at0) (ble rfl) ?_)))))
  rw [hz]
  have h1 := (h0.al (e := xA 0 6 zI) (n := 6)).put0 (e := xO 2 [.ref (a + 1), .null, .null, .int 0])
  show X w mX3_init d _ 12 _ _ (xs (xal P (xA 0 6 zI) 6) a (xO 2 [.ref (a + 1), .null, .null, .int 0]))
  generalize xs (xal P (xA 0 6 zI) 6) a (xO 2 [.ref (a + 1), .null, .null, .int 0]) = P1 at h1 ⊢
  have z1 : P1.2.1 = a + 2 := h1.1
  have y1 : P1.2.2 = P.2.2 + 6 := h1.2.1
  refine sX3_init_12 (sX3_init_13 (sX3_init_16 (N := 128) (by decide) (by decide) (by decide) (by omega) (by omega) (sX3_init_18 (h1.al.at0) (ble rfl) ?_)))
  rw [z1]
  have h2 := (h1.al (e := xJ 128 zJ) (n := 128)).put0 (e := xO 2 [.ref (a + 1), .ref (a + 2), .null, .int 0])
  show X w mX3_init d _ 21 _ _ (xs (xal P1 (xJ 128 zJ) 128) a (xO 2 [.ref (a + 1), .ref (a + 2), .null, .int 0]))
  generalize xs (xal P1 (xJ 128 zJ) 128) a (xO 2 [.ref (a + 1), .ref (a + 2), .null, .int 0]) = P2 at h2 ⊢
  have z2 : P2.2.1 = a + 3 := h2.1
  have y2 : P2.2.2 = P.2.2 + 134 := h2.2.1
  refine sX3_init_21 (sX3_init_22 (sX3_init_25 (N := 128) (by decide) (by decide) (by decide) (by omega) (by omega) (sX3_init_27 (h2.al.at0) (ble rfl) (sX3_init_30 ⟨rfl, ?_⟩))))
  rw [z2]
  exact (h2.al (e := xJ 128 zJ) (n := 128)).put0 (e := xO 2 [.ref (a + 1), .ref (a + 2), .ref (a + 3), .int 0])
end RN
section RN2
variable {w : xWd} {d : Nat} {P P1 : xH} {a : Nat} {Q : Outcome → xH → Prop}
def mF0 : mF := (fun _ => 0, 0, fun _ => zI, fun _ => zJ)
def mi (P P1 : xH) (a k sl : Nat) (e : xE) : Prop := P1.2.1 = a + k + 1 ∧ P1.2.2 = P.2.2 + sl ∧ (∀ q, q < a → P1.1 q = P.1 q) ∧ P1.1 a = some e ∧ ∀ r, 1 ≤ r → r ≤ k → P1.1 (a + r) = some (mE a mF0 r)
theorem mi.up {k sl N : Nat} {e e' e2 : xE} (h : mi P P1 a k sl e) (he : e2 = mE a mF0 (k + 1)) : mi P (xs (xal P1 e2 N) a e') a (k + 1) (sl + N) e' := by
  obtain ⟨h1, h2, h3, h4, h5⟩ := h
  refine ⟨?_, ?_, fun q hq => ?_, xs_s, fun r p q => ?_⟩
  · show P1.2.1 + 1 = _; omega
  · show P1.2.2 + N = _; omega
  · exact (xs_n (by omega) (xal_n (by omega) rfl)).trans (h3 q hq)
  · by_cases e : r = k + 1
    · subst e
      refine xs_n (by omega) ?_
      rw [show a + (k + 1) = P1.2.1 by omega, ← he]
      exact xal_s
    · exact xs_n (by omega) (xal_n (by omega) (h5 r p (by omega)))
theorem mi_0 (h : mi P P1 a 0 0 (xO 9 [.int 0, .int 0, .null, .int 0, .null, .null, .null, .null, .null, .null, .null, .null, .null, .null, .null, .null, .null, .null, .null, .null, .null, .null, .null, .int 0, .int 0, .int 0, .long 0, .int 0, .int 0, .int 0, .int 0, .null, .int 0, .null, .int 0, .null, .null])) (hr1 : a + 25 ≤ w.z + 601024) (hr2 : P.2.2 + 8000 ≤ 7293034) (kont : ∀ P2, mi P P2 a 1 1400 (xO 9 [.int 0, .int 0, .ref (a + 1), .int 0, .null, .null, .null, .null, .null, .null, .null, .null, .null, .null, .null, .null, .null, .null, .null, .null, .null, .null, .null, .int 0, .int 0, .int 0, .long 0, .int 0, .int 0, .int 0, .int 0, .null, .int 0, .null, .int 0, .null, .null]) → X w mX11_init d Q 13 [some (.ref a)] [] P2) : X w mX11_init d Q 4 [some (.ref a)] [] P1 := by
  obtain ⟨z1, z2, _, z4, _⟩ := id h
  refine sX11_init_4 (sX11_init_5 (sX11_init_8 (N := 1400) (by decide) (by decide) (by decide) (by omega) (by omega) ?_))
  have zo : (xal P1 (xA 0 1400 zI) 1400).1 a = some (xO 9 [.int 0, .int 0, .null, .int 0, .null, .null, .null, .null, .null, .null, .null, .null, .null, .null, .null, .null, .null, .null, .null, .null, .null, .null, .null, .int 0, .int 0, .int 0, .long 0, .int 0, .int 0, .int 0, .int 0, .null, .int 0, .null, .int 0, .null, .null]) := xal_n (by omega) z4
  refine sX11_init_10 zo (ble rfl) ?_
  rw [z1]
  exact kont _ (h.up rfl)
theorem mi_1 (h : mi P P1 a 1 1400 (xO 9 [.int 0, .int 0, .ref (a + 1), .int 0, .null, .null, .null, .null, .null, .null, .null, .null, .null, .null, .null, .null, .null, .null, .null, .null, .null, .null, .null, .int 0, .int 0, .int 0, .long 0, .int 0, .int 0, .int 0, .int 0, .null, .int 0, .null, .int 0, .null, .null])) (hr1 : a + 25 ≤ w.z + 601024) (hr2 : P.2.2 + 8000 ≤ 7293034) (kont : ∀ P2, mi P P2 a 2 1402 (xO 9 [.int 0, .int 0, .ref (a + 1), .int 0, .ref (a + 2), .null, .null, .null, .null, .null, .null, .null, .null, .null, .null, .null, .null, .null, .null, .null, .null, .null, .null, .int 0, .int 0, .int 0, .long 0, .int 0, .int 0, .int 0, .int 0, .null, .int 0, .null, .int 0, .null, .null]) → X w mX11_init d Q 20 [some (.ref a)] [] P2) : X w mX11_init d Q 13 [some (.ref a)] [] P1 := by
  obtain ⟨z1, z2, _, z4, _⟩ := id h
  refine sX11_init_13 (sX11_init_14 (sX11_init_15 (N := 2) (by decide) (by decide) (by decide) (by omega) (by omega) ?_))
  have zo : (xal P1 (xA 0 2 zI) 2).1 a = some (xO 9 [.int 0, .int 0, .ref (a + 1), .int 0, .null, .null, .null, .null, .null, .null, .null, .null, .null, .null, .null, .null, .null, .null, .null, .null, .null, .null, .null, .int 0, .int 0, .int 0, .long 0, .int 0, .int 0, .int 0, .int 0, .null, .int 0, .null, .int 0, .null, .null]) := xal_n (by omega) z4
  refine sX11_init_17 zo (ble rfl) ?_
  rw [z1]
  exact kont _ (h.up rfl)
theorem mi_2 (h : mi P P1 a 2 1402 (xO 9 [.int 0, .int 0, .ref (a + 1), .int 0, .ref (a + 2), .null, .null, .null, .null, .null, .null, .null, .null, .null, .null, .null, .null, .null, .null, .null, .null, .null, .null, .int 0, .int 0, .int 0, .long 0, .int 0, .int 0, .int 0, .int 0, .null, .int 0, .null, .int 0, .null, .null])) (hr1 : a + 25 ≤ w.z + 601024) (hr2 : P.2.2 + 8000 ≤ 7293034) (kont : ∀ P2, mi P P2 a 3 1426 (xO 9 [.int 0, .int 0, .ref (a + 1), .int 0, .ref (a + 2), .ref (a + 3), .null, .null, .null, .null, .null, .null, .null, .null, .null, .null, .null, .null, .null, .null, .null, .null, .null, .int 0, .int 0, .int 0, .long 0, .int 0, .int 0, .int 0, .int 0, .null, .int 0, .null, .int 0, .null, .null]) → X w mX11_init d Q 28 [some (.ref a)] [] P2) : X w mX11_init d Q 20 [some (.ref a)] [] P1 := by
  obtain ⟨z1, z2, _, z4, _⟩ := id h
  refine sX11_init_20 (sX11_init_21 (sX11_init_23 (N := 24) (by decide) (by decide) (by decide) (by omega) (by omega) ?_))
  have zo : (xal P1 (xJ 24 zJ) 24).1 a = some (xO 9 [.int 0, .int 0, .ref (a + 1), .int 0, .ref (a + 2), .null, .null, .null, .null, .null, .null, .null, .null, .null, .null, .null, .null, .null, .null, .null, .null, .null, .null, .int 0, .int 0, .int 0, .long 0, .int 0, .int 0, .int 0, .int 0, .null, .int 0, .null, .int 0, .null, .null]) := xal_n (by omega) z4
  refine sX11_init_25 zo (ble rfl) ?_
  rw [z1]
  exact kont _ (h.up rfl)
theorem mi_3 (h : mi P P1 a 3 1426 (xO 9 [.int 0, .int 0, .ref (a + 1), .int 0, .ref (a + 2), .ref (a + 3), .null, .null, .null, .null, .null, .null, .null, .null, .null, .null, .null, .null, .null, .null, .null, .null, .null, .int 0, .int 0, .int 0, .long 0, .int 0, .int 0, .int 0, .int 0, .null, .int 0, .null, .int 0, .null, .null])) (hr1 : a + 25 ≤ w.z + 601024) (hr2 : P.2.2 + 8000 ≤ 7293034) (kont : ∀ P2, mi P P2 a 4 1450 (xO 9 [.int 0, .int 0, .ref (a + 1), .int 0, .ref (a + 2), .ref (a + 3), .ref (a + 4), .null, .null, .null, .null, .null, .null, .null, .null, .null, .null, .null, .null, .null, .null, .null, .null, .int 0, .int 0, .int 0, .long 0, .int 0, .int 0, .int 0, .int 0, .null, .int 0, .null, .int 0, .null, .null]) → X w mX11_init d Q 36 [some (.ref a)] [] P2) : X w mX11_init d Q 28 [some (.ref a)] [] P1 := by
  obtain ⟨z1, z2, _, z4, _⟩ := id h
  refine sX11_init_28 (sX11_init_29 (sX11_init_31 (N := 24) (by decide) (by decide) (by decide) (by omega) (by omega) ?_))
  have zo : (xal P1 (xA 0 24 zI) 24).1 a = some (xO 9 [.int 0, .int 0, .ref (a + 1), .int 0, .ref (a + 2), .ref (a + 3), .null, .null, .null, .null, .null, .null, .null, .null, .null, .null, .null, .null, .null, .null, .null, .null, .null, .int 0, .int 0, .int 0, .long 0, .int 0, .int 0, .int 0, .int 0, .null, .int 0, .null, .int 0, .null, .null]) := xal_n (by omega) z4
  refine sX11_init_33 zo (ble rfl) ?_
  rw [z1]
  exact kont _ (h.up rfl)
theorem mi_4 (h : mi P P1 a 4 1450 (xO 9 [.int 0, .int 0, .ref (a + 1), .int 0, .ref (a + 2), .ref (a + 3), .ref (a + 4), .null, .null, .null, .null, .null, .null, .null, .null, .null, .null, .null, .null, .null, .null, .null, .null, .int 0, .int 0, .int 0, .long 0, .int 0, .int 0, .int 0, .int 0, .null, .int 0, .null, .int 0, .null, .null])) (hr1 : a + 25 ≤ w.z + 601024) (hr2 : P.2.2 + 8000 ≤ 7293034) (kont : ∀ P2, mi P P2 a 5 1474 (xO 9 [.int 0, .int 0, .ref (a + 1), .int 0, .ref (a + 2), .ref (a + 3), .ref (a + 4), .ref (a + 5), .null, .null, .null, .null, .null, .null, .null, .null, .null, .null, .null, .null, .null, .null, .null, .int 0, .int 0, .int 0, .long 0, .int 0, .int 0, .int 0, .int 0, .null, .int 0, .null, .int 0, .null, .null]) → X w mX11_init d Q 44 [some (.ref a)] [] P2) : X w mX11_init d Q 36 [some (.ref a)] [] P1 := by
  obtain ⟨z1, z2, _, z4, _⟩ := id h
  refine sX11_init_36 (sX11_init_37 (sX11_init_39 (N := 24) (by decide) (by decide) (by decide) (by omega) (by omega) ?_))
  have zo : (xal P1 (xA 0 24 zI) 24).1 a = some (xO 9 [.int 0, .int 0, .ref (a + 1), .int 0, .ref (a + 2), .ref (a + 3), .ref (a + 4), .null, .null, .null, .null, .null, .null, .null, .null, .null, .null, .null, .null, .null, .null, .null, .null, .int 0, .int 0, .int 0, .long 0, .int 0, .int 0, .int 0, .int 0, .null, .int 0, .null, .int 0, .null, .null]) := xal_n (by omega) z4
  refine sX11_init_41 zo (ble rfl) ?_
  rw [z1]
  exact kont _ (h.up rfl)
theorem mi_5 (h : mi P P1 a 5 1474 (xO 9 [.int 0, .int 0, .ref (a + 1), .int 0, .ref (a + 2), .ref (a + 3), .ref (a + 4), .ref (a + 5), .null, .null, .null, .null, .null, .null, .null, .null, .null, .null, .null, .null, .null, .null, .null, .int 0, .int 0, .int 0, .long 0, .int 0, .int 0, .int 0, .int 0, .null, .int 0, .null, .int 0, .null, .null])) (hr1 : a + 25 ≤ w.z + 601024) (hr2 : P.2.2 + 8000 ≤ 7293034) (kont : ∀ P2, mi P P2 a 6 1570 (xO 9 [.int 0, .int 0, .ref (a + 1), .int 0, .ref (a + 2), .ref (a + 3), .ref (a + 4), .ref (a + 5), .ref (a + 6), .null, .null, .null, .null, .null, .null, .null, .null, .null, .null, .null, .null, .null, .null, .int 0, .int 0, .int 0, .long 0, .int 0, .int 0, .int 0, .int 0, .null, .int 0, .null, .int 0, .null, .null]) → X w mX11_init d Q 52 [some (.ref a)] [] P2) : X w mX11_init d Q 44 [some (.ref a)] [] P1 := by
  obtain ⟨z1, z2, _, z4, _⟩ := id h
  refine sX11_init_44 (sX11_init_45 (sX11_init_47 (N := 96) (by decide) (by decide) (by decide) (by omega) (by omega) ?_))
  have zo : (xal P1 (xA 0 96 zI) 96).1 a = some (xO 9 [.int 0, .int 0, .ref (a + 1), .int 0, .ref (a + 2), .ref (a + 3), .ref (a + 4), .ref (a + 5), .null, .null, .null, .null, .null, .null, .null, .null, .null, .null, .null, .null, .null, .null, .null, .int 0, .int 0, .int 0, .long 0, .int 0, .int 0, .int 0, .int 0, .null, .int 0, .null, .int 0, .null, .null]) := xal_n (by omega) z4
  refine sX11_init_49 zo (ble rfl) ?_
  rw [z1]
  exact kont _ (h.up rfl)
theorem mi_6 (h : mi P P1 a 6 1570 (xO 9 [.int 0, .int 0, .ref (a + 1), .int 0, .ref (a + 2), .ref (a + 3), .ref (a + 4), .ref (a + 5), .ref (a + 6), .null, .null, .null, .null, .null, .null, .null, .null, .null, .null, .null, .null, .null, .null, .int 0, .int 0, .int 0, .long 0, .int 0, .int 0, .int 0, .int 0, .null, .int 0, .null, .int 0, .null, .null])) (hr1 : a + 25 ≤ w.z + 601024) (hr2 : P.2.2 + 8000 ≤ 7293034) (kont : ∀ P2, mi P P2 a 7 1666 (xO 9 [.int 0, .int 0, .ref (a + 1), .int 0, .ref (a + 2), .ref (a + 3), .ref (a + 4), .ref (a + 5), .ref (a + 6), .ref (a + 7), .null, .null, .null, .null, .null, .null, .null, .null, .null, .null, .null, .null, .null, .int 0, .int 0, .int 0, .long 0, .int 0, .int 0, .int 0, .int 0, .null, .int 0, .null, .int 0, .null, .null]) → X w mX11_init d Q 60 [some (.ref a)] [] P2) : X w mX11_init d Q 52 [some (.ref a)] [] P1 := by
  obtain ⟨z1, z2, _, z4, _⟩ := id h
  refine sX11_init_52 (sX11_init_53 (sX11_init_55 (N := 96) (by decide) (by decide) (by decide) (by omega) (by omega) ?_))
  have zo : (xal P1 (xA 0 96 zI) 96).1 a = some (xO 9 [.int 0, .int 0, .ref (a + 1), .int 0, .ref (a + 2), .ref (a + 3), .ref (a + 4), .ref (a + 5), .ref (a + 6), .null, .null, .null, .null, .null, .null, .null, .null, .null, .null, .null, .null, .null, .null, .int 0, .int 0, .int 0, .long 0, .int 0, .int 0, .int 0, .int 0, .null, .int 0, .null, .int 0, .null, .null]) := xal_n (by omega) z4
  refine sX11_init_57 zo (ble rfl) ?_
  rw [z1]
  exact kont _ (h.up rfl)
theorem mi_7 (h : mi P P1 a 7 1666 (xO 9 [.int 0, .int 0, .ref (a + 1), .int 0, .ref (a + 2), .ref (a + 3), .ref (a + 4), .ref (a + 5), .ref (a + 6), .ref (a + 7), .null, .null, .null, .null, .null, .null, .null, .null, .null, .null, .null, .null, .null, .int 0, .int 0, .int 0, .long 0, .int 0, .int 0, .int 0, .int 0, .null, .int 0, .null, .int 0, .null, .null])) (hr1 : a + 25 ≤ w.z + 601024) (hr2 : P.2.2 + 8000 ≤ 7293034) (kont : ∀ P2, mi P P2 a 8 2050 (xO 9 [.int 0, .int 0, .ref (a + 1), .int 0, .ref (a + 2), .ref (a + 3), .ref (a + 4), .ref (a + 5), .ref (a + 6), .ref (a + 7), .ref (a + 8), .null, .null, .null, .null, .null, .null, .null, .null, .null, .null, .null, .null, .int 0, .int 0, .int 0, .long 0, .int 0, .int 0, .int 0, .int 0, .null, .int 0, .null, .int 0, .null, .null]) → X w mX11_init d Q 69 [some (.ref a)] [] P2) : X w mX11_init d Q 60 [some (.ref a)] [] P1 := by
  obtain ⟨z1, z2, _, z4, _⟩ := id h
  refine sX11_init_60 (sX11_init_61 (sX11_init_64 (N := 384) (by decide) (by decide) (by decide) (by omega) (by omega) ?_))
  have zo : (xal P1 (xA 0 384 zI) 384).1 a = some (xO 9 [.int 0, .int 0, .ref (a + 1), .int 0, .ref (a + 2), .ref (a + 3), .ref (a + 4), .ref (a + 5), .ref (a + 6), .ref (a + 7), .null, .null, .null, .null, .null, .null, .null, .null, .null, .null, .null, .null, .null, .int 0, .int 0, .int 0, .long 0, .int 0, .int 0, .int 0, .int 0, .null, .int 0, .null, .int 0, .null, .null]) := xal_n (by omega) z4
  refine sX11_init_66 zo (ble rfl) ?_
  rw [z1]
  exact kont _ (h.up rfl)
theorem mi_8 (h : mi P P1 a 8 2050 (xO 9 [.int 0, .int 0, .ref (a + 1), .int 0, .ref (a + 2), .ref (a + 3), .ref (a + 4), .ref (a + 5), .ref (a + 6), .ref (a + 7), .ref (a + 8), .null, .null, .null, .null, .null, .null, .null, .null, .null, .null, .null, .null, .int 0, .int 0, .int 0, .long 0, .int 0, .int 0, .int 0, .int 0, .null, .int 0, .null, .int 0, .null, .null])) (hr1 : a + 25 ≤ w.z + 601024) (hr2 : P.2.2 + 8000 ≤ 7293034) (kont : ∀ P2, mi P P2 a 9 2052 (xO 9 [.int 0, .int 0, .ref (a + 1), .int 0, .ref (a + 2), .ref (a + 3), .ref (a + 4), .ref (a + 5), .ref (a + 6), .ref (a + 7), .ref (a + 8), .ref (a + 9), .null, .null, .null, .null, .null, .null, .null, .null, .null, .null, .null, .int 0, .int 0, .int 0, .long 0, .int 0, .int 0, .int 0, .int 0, .null, .int 0, .null, .int 0, .null, .null]) → X w mX11_init d Q 76 [some (.ref a)] [] P2) : X w mX11_init d Q 69 [some (.ref a)] [] P1 := by
  obtain ⟨z1, z2, _, z4, _⟩ := id h
  refine sX11_init_69 (sX11_init_70 (sX11_init_71 (N := 2) (by decide) (by decide) (by decide) (by omega) (by omega) ?_))
  have zo : (xal P1 (xA 0 2 zI) 2).1 a = some (xO 9 [.int 0, .int 0, .ref (a + 1), .int 0, .ref (a + 2), .ref (a + 3), .ref (a + 4), .ref (a + 5), .ref (a + 6), .ref (a + 7), .ref (a + 8), .null, .null, .null, .null, .null, .null, .null, .null, .null, .null, .null, .null, .int 0, .int 0, .int 0, .long 0, .int 0, .int 0, .int 0, .int 0, .null, .int 0, .null, .int 0, .null, .null]) := xal_n (by omega) z4
  refine sX11_init_73 zo (ble rfl) ?_
  rw [z1]
  exact kont _ (h.up rfl)
theorem mi_9 (h : mi P P1 a 9 2052 (xO 9 [.int 0, .int 0, .ref (a + 1), .int 0, .ref (a + 2), .ref (a + 3), .ref (a + 4), .ref (a + 5), .ref (a + 6), .ref (a + 7), .ref (a + 8), .ref (a + 9), .null, .null, .null, .null, .null, .null, .null, .null, .null, .null, .null, .int 0, .int 0, .int 0, .long 0, .int 0, .int 0, .int 0, .int 0, .null, .int 0, .null, .int 0, .null, .null])) (hr1 : a + 25 ≤ w.z + 601024) (hr2 : P.2.2 + 8000 ≤ 7293034) (kont : ∀ P2, mi P P2 a 10 2076 (xO 9 [.int 0, .int 0, .ref (a + 1), .int 0, .ref (a + 2), .ref (a + 3), .ref (a + 4), .ref (a + 5), .ref (a + 6), .ref (a + 7), .ref (a + 8), .ref (a + 9), .ref (a + 10), .null, .null, .null, .null, .null, .null, .null, .null, .null, .null, .int 0, .int 0, .int 0, .long 0, .int 0, .int 0, .int 0, .int 0, .null, .int 0, .null, .int 0, .null, .null]) → X w mX11_init d Q 84 [some (.ref a)] [] P2) : X w mX11_init d Q 76 [some (.ref a)] [] P1 := by
  obtain ⟨z1, z2, _, z4, _⟩ := id h
  refine sX11_init_76 (sX11_init_77 (sX11_init_79 (N := 24) (by decide) (by decide) (by decide) (by omega) (by omega) ?_))
  have zo : (xal P1 (xJ 24 zJ) 24).1 a = some (xO 9 [.int 0, .int 0, .ref (a + 1), .int 0, .ref (a + 2), .ref (a + 3), .ref (a + 4), .ref (a + 5), .ref (a + 6), .ref (a + 7), .ref (a + 8), .ref (a + 9), .null, .null, .null, .null, .null, .null, .null, .null, .null, .null, .null, .int 0, .int 0, .int 0, .long 0, .int 0, .int 0, .int 0, .int 0, .null, .int 0, .null, .int 0, .null, .null]) := xal_n (by omega) z4
  refine sX11_init_81 zo (ble rfl) ?_
  rw [z1]
  exact kont _ (h.up rfl)
theorem mi_10 (h : mi P P1 a 10 2076 (xO 9 [.int 0, .int 0, .ref (a + 1), .int 0, .ref (a + 2), .ref (a + 3), .ref (a + 4), .ref (a + 5), .ref (a + 6), .ref (a + 7), .ref (a + 8), .ref (a + 9), .ref (a + 10), .null, .null, .null, .null, .null, .null, .null, .null, .null, .null, .int 0, .int 0, .int 0, .long 0, .int 0, .int 0, .int 0, .int 0, .null, .int 0, .null, .int 0, .null, .null])) (hr1 : a + 25 ≤ w.z + 601024) (hr2 : P.2.2 + 8000 ≤ 7293034) (kont : ∀ P2, mi P P2 a 11 2100 (xO 9 [.int 0, .int 0, .ref (a + 1), .int 0, .ref (a + 2), .ref (a + 3), .ref (a + 4), .ref (a + 5), .ref (a + 6), .ref (a + 7), .ref (a + 8), .ref (a + 9), .ref (a + 10), .ref (a + 11), .null, .null, .null, .null, .null, .null, .null, .null, .null, .int 0, .int 0, .int 0, .long 0, .int 0, .int 0, .int 0, .int 0, .null, .int 0, .null, .int 0, .null, .null]) → X w mX11_init d Q 92 [some (.ref a)] [] P2) : X w mX11_init d Q 84 [some (.ref a)] [] P1 := by
  obtain ⟨z1, z2, _, z4, _⟩ := id h
  refine sX11_init_84 (sX11_init_85 (sX11_init_87 (N := 24) (by decide) (by decide) (by decide) (by omega) (by omega) ?_))
  have zo : (xal P1 (xA 0 24 zI) 24).1 a = some (xO 9 [.int 0, .int 0, .ref (a + 1), .int 0, .ref (a + 2), .ref (a + 3), .ref (a + 4), .ref (a + 5), .ref (a + 6), .ref (a + 7), .ref (a + 8), .ref (a + 9), .ref (a + 10), .null, .null, .null, .null, .null, .null, .null, .null, .null, .null, .int 0, .int 0, .int 0, .long 0, .int 0, .int 0, .int 0, .int 0, .null, .int 0, .null, .int 0, .null, .null]) := xal_n (by omega) z4
  refine sX11_init_89 zo (ble rfl) ?_
  rw [z1]
  exact kont _ (h.up rfl)
theorem mi_11 (h : mi P P1 a 11 2100 (xO 9 [.int 0, .int 0, .ref (a + 1), .int 0, .ref (a + 2), .ref (a + 3), .ref (a + 4), .ref (a + 5), .ref (a + 6), .ref (a + 7), .ref (a + 8), .ref (a + 9), .ref (a + 10), .ref (a + 11), .null, .null, .null, .null, .null, .null, .null, .null, .null, .int 0, .int 0, .int 0, .long 0, .int 0, .int 0, .int 0, .int 0, .null, .int 0, .null, .int 0, .null, .null])) (hr1 : a + 25 ≤ w.z + 601024) (hr2 : P.2.2 + 8000 ≤ 7293034) (kont : ∀ P2, mi P P2 a 12 2316 (xO 9 [.int 0, .int 0, .ref (a + 1), .int 0, .ref (a + 2), .ref (a + 3), .ref (a + 4), .ref (a + 5), .ref (a + 6), .ref (a + 7), .ref (a + 8), .ref (a + 9), .ref (a + 10), .ref (a + 11), .ref (a + 12), .null, .null, .null, .null, .null, .null, .null, .null, .int 0, .int 0, .int 0, .long 0, .int 0, .int 0, .int 0, .int 0, .null, .int 0, .null, .int 0, .null, .null]) → X w mX11_init d Q 101 [some (.ref a)] [] P2) : X w mX11_init d Q 92 [some (.ref a)] [] P1 := by
  obtain ⟨z1, z2, _, z4, _⟩ := id h
  refine sX11_init_92 (sX11_init_93 (sX11_init_96 (N := 216) (by decide) (by decide) (by decide) (by omega) (by omega) ?_))
  have zo : (xal P1 (xJ 216 zJ) 216).1 a = some (xO 9 [.int 0, .int 0, .ref (a + 1), .int 0, .ref (a + 2), .ref (a + 3), .ref (a + 4), .ref (a + 5), .ref (a + 6), .ref (a + 7), .ref (a + 8), .ref (a + 9), .ref (a + 10), .ref (a + 11), .null, .null, .null, .null, .null, .null, .null, .null, .null, .int 0, .int 0, .int 0, .long 0, .int 0, .int 0, .int 0, .int 0, .null, .int 0, .null, .int 0, .null, .null]) := xal_n (by omega) z4
  refine sX11_init_98 zo (ble rfl) ?_
  rw [z1]
  exact kont _ (h.up rfl)
theorem mi_12 (h : mi P P1 a 12 2316 (xO 9 [.int 0, .int 0, .ref (a + 1), .int 0, .ref (a + 2), .ref (a + 3), .ref (a + 4), .ref (a + 5), .ref (a + 6), .ref (a + 7), .ref (a + 8), .ref (a + 9), .ref (a + 10), .ref (a + 11), .ref (a + 12), .null, .null, .null, .null, .null, .null, .null, .null, .int 0, .int 0, .int 0, .long 0, .int 0, .int 0, .int 0, .int 0, .null, .int 0, .null, .int 0, .null, .null])) (hr1 : a + 25 ≤ w.z + 601024) (hr2 : P.2.2 + 8000 ≤ 7293034) (kont : ∀ P2, mi P P2 a 13 2340 (xO 9 [.int 0, .int 0, .ref (a + 1), .int 0, .ref (a + 2), .ref (a + 3), .ref (a + 4), .ref (a + 5), .ref (a + 6), .ref (a + 7), .ref (a + 8), .ref (a + 9), .ref (a + 10), .ref (a + 11), .ref (a + 12), .ref (a + 13), .null, .null, .null, .null, .null, .null, .null, .int 0, .int 0, .int 0, .long 0, .int 0, .int 0, .int 0, .int 0, .null, .int 0, .null, .int 0, .null, .null]) → X w mX11_init d Q 109 [some (.ref a)] [] P2) : X w mX11_init d Q 101 [some (.ref a)] [] P1 := by
  obtain ⟨z1, z2, _, z4, _⟩ := id h
  refine sX11_init_101 (sX11_init_102 (sX11_init_104 (N := 24) (by decide) (by decide) (by decide) (by omega) (by omega) ?_))
  have zo : (xal P1 (xA 0 24 zI) 24).1 a = some (xO 9 [.int 0, .int 0, .ref (a + 1), .int 0, .ref (a + 2), .ref (a + 3), .ref (a + 4), .ref (a + 5), .ref (a + 6), .ref (a + 7), .ref (a + 8), .ref (a + 9), .ref (a + 10), .ref (a + 11), .ref (a + 12), .null, .null, .null, .null, .null, .null, .null, .null, .int 0, .int 0, .int 0, .long 0, .int 0, .int 0, .int 0, .int 0, .null, .int 0, .null, .int 0, .null, .null]) := xal_n (by omega) z4
  refine sX11_init_106 zo (ble rfl) ?_
  rw [z1]
  exact kont _ (h.up rfl)
theorem mi_13 (h : mi P P1 a 13 2340 (xO 9 [.int 0, .int 0, .ref (a + 1), .int 0, .ref (a + 2), .ref (a + 3), .ref (a + 4), .ref (a + 5), .ref (a + 6), .ref (a + 7), .ref (a + 8), .ref (a + 9), .ref (a + 10), .ref (a + 11), .ref (a + 12), .ref (a + 13), .null, .null, .null, .null, .null, .null, .null, .int 0, .int 0, .int 0, .long 0, .int 0, .int 0, .int 0, .int 0, .null, .int 0, .null, .int 0, .null, .null])) (hr1 : a + 25 ≤ w.z + 601024) (hr2 : P.2.2 + 8000 ≤ 7293034) (kont : ∀ P2, mi P P2 a 14 2364 (xO 9 [.int 0, .int 0, .ref (a + 1), .int 0, .ref (a + 2), .ref (a + 3), .ref (a + 4), .ref (a + 5), .ref (a + 6), .ref (a + 7), .ref (a + 8), .ref (a + 9), .ref (a + 10), .ref (a + 11), .ref (a + 12), .ref (a + 13), .ref (a + 14), .null, .null, .null, .null, .null, .null, .int 0, .int 0, .int 0, .long 0, .int 0, .int 0, .int 0, .int 0, .null, .int 0, .null, .int 0, .null, .null]) → X w mX11_init d Q 117 [some (.ref a)] [] P2) : X w mX11_init d Q 109 [some (.ref a)] [] P1 := by
  obtain ⟨z1, z2, _, z4, _⟩ := id h
  refine sX11_init_109 (sX11_init_110 (sX11_init_112 (N := 24) (by decide) (by decide) (by decide) (by omega) (by omega) ?_))
  have zo : (xal P1 (xA 0 24 zI) 24).1 a = some (xO 9 [.int 0, .int 0, .ref (a + 1), .int 0, .ref (a + 2), .ref (a + 3), .ref (a + 4), .ref (a + 5), .ref (a + 6), .ref (a + 7), .ref (a + 8), .ref (a + 9), .ref (a + 10), .ref (a + 11), .ref (a + 12), .ref (a + 13), .null, .null, .null, .null, .null, .null, .null, .int 0, .int 0, .int 0, .long 0, .int 0, .int 0, .int 0, .int 0, .null, .int 0, .null, .int 0, .null, .null]) := xal_n (by omega) z4
  refine sX11_init_114 zo (ble rfl) ?_
  rw [z1]
  exact kont _ (h.up rfl)
theorem mi_14 (h : mi P P1 a 14 2364 (xO 9 [.int 0, .int 0, .ref (a + 1), .int 0, .ref (a + 2), .ref (a + 3), .ref (a + 4), .ref (a + 5), .ref (a + 6), .ref (a + 7), .ref (a + 8), .ref (a + 9), .ref (a + 10), .ref (a + 11), .ref (a + 12), .ref (a + 13), .ref (a + 14), .null, .null, .null, .null, .null, .null, .int 0, .int 0, .int 0, .long 0, .int 0, .int 0, .int 0, .int 0, .null, .int 0, .null, .int 0, .null, .null])) (hr1 : a + 25 ≤ w.z + 601024) (hr2 : P.2.2 + 8000 ≤ 7293034) (kont : ∀ P2, mi P P2 a 15 2436 (xO 9 [.int 0, .int 0, .ref (a + 1), .int 0, .ref (a + 2), .ref (a + 3), .ref (a + 4), .ref (a + 5), .ref (a + 6), .ref (a + 7), .ref (a + 8), .ref (a + 9), .ref (a + 10), .ref (a + 11), .ref (a + 12), .ref (a + 13), .ref (a + 14), .ref (a + 15), .null, .null, .null, .null, .null, .int 0, .int 0, .int 0, .long 0, .int 0, .int 0, .int 0, .int 0, .null, .int 0, .null, .int 0, .null, .null]) → X w mX11_init d Q 125 [some (.ref a)] [] P2) : X w mX11_init d Q 117 [some (.ref a)] [] P1 := by
  obtain ⟨z1, z2, _, z4, _⟩ := id h
  refine sX11_init_117 (sX11_init_118 (sX11_init_120 (N := 72) (by decide) (by decide) (by decide) (by omega) (by omega) ?_))
  have zo : (xal P1 (xA 0 72 zI) 72).1 a = some (xO 9 [.int 0, .int 0, .ref (a + 1), .int 0, .ref (a + 2), .ref (a + 3), .ref (a + 4), .ref (a + 5), .ref (a + 6), .ref (a + 7), .ref (a + 8), .ref (a + 9), .ref (a + 10), .ref (a + 11), .ref (a + 12), .ref (a + 13), .ref (a + 14), .null, .null, .null, .null, .null, .null, .int 0, .int 0, .int 0, .long 0, .int 0, .int 0, .int 0, .int 0, .null, .int 0, .null, .int 0, .null, .null]) := xal_n (by omega) z4
  refine sX11_init_122 zo (ble rfl) ?_
  rw [z1]
  exact kont _ (h.up rfl)
theorem mi_15 (h : mi P P1 a 15 2436 (xO 9 [.int 0, .int 0, .ref (a + 1), .int 0, .ref (a + 2), .ref (a + 3), .ref (a + 4), .ref (a + 5), .ref (a + 6), .ref (a + 7), .ref (a + 8), .ref (a + 9), .ref (a + 10), .ref (a + 11), .ref (a + 12), .ref (a + 13), .ref (a + 14), .ref (a + 15), .null, .null, .null, .null, .null, .int 0, .int 0, .int 0, .long 0, .int 0, .int 0, .int 0, .int 0, .null, .int 0, .null, .int 0, .null, .null])) (hr1 : a + 25 ≤ w.z + 601024) (hr2 : P.2.2 + 8000 ≤ 7293034) (kont : ∀ P2, mi P P2 a 16 2532 (xO 9 [.int 0, .int 0, .ref (a + 1), .int 0, .ref (a + 2), .ref (a + 3), .ref (a + 4), .ref (a + 5), .ref (a + 6), .ref (a + 7), .ref (a + 8), .ref (a + 9), .ref (a + 10), .ref (a + 11), .ref (a + 12), .ref (a + 13), .ref (a + 14), .ref (a + 15), .ref (a + 16), .null, .null, .null, .null, .int 0, .int 0, .int 0, .long 0, .int 0, .int 0, .int 0, .int 0, .null, .int 0, .null, .int 0, .null, .null]) → X w mX11_init d Q 133 [some (.ref a)] [] P2) : X w mX11_init d Q 125 [some (.ref a)] [] P1 := by
  obtain ⟨z1, z2, _, z4, _⟩ := id h
  refine sX11_init_125 (sX11_init_126 (sX11_init_128 (N := 96) (by decide) (by decide) (by decide) (by omega) (by omega) ?_))
  have zo : (xal P1 (xA 3 96 zI) 96).1 a = some (xO 9 [.int 0, .int 0, .ref (a + 1), .int 0, .ref (a + 2), .ref (a + 3), .ref (a + 4), .ref (a + 5), .ref (a + 6), .ref (a + 7), .ref (a + 8), .ref (a + 9), .ref (a + 10), .ref (a + 11), .ref (a + 12), .ref (a + 13), .ref (a + 14), .ref (a + 15), .null, .null, .null, .null, .null, .int 0, .int 0, .int 0, .long 0, .int 0, .int 0, .int 0, .int 0, .null, .int 0, .null, .int 0, .null, .null]) := xal_n (by omega) z4
  refine sX11_init_130 zo (ble rfl) ?_
  rw [z1]
  exact kont _ (h.up rfl)
theorem mi_16 (h : mi P P1 a 16 2532 (xO 9 [.int 0, .int 0, .ref (a + 1), .int 0, .ref (a + 2), .ref (a + 3), .ref (a + 4), .ref (a + 5), .ref (a + 6), .ref (a + 7), .ref (a + 8), .ref (a + 9), .ref (a + 10), .ref (a + 11), .ref (a + 12), .ref (a + 13), .ref (a + 14), .ref (a + 15), .ref (a + 16), .null, .null, .null, .null, .int 0, .int 0, .int 0, .long 0, .int 0, .int 0, .int 0, .int 0, .null, .int 0, .null, .int 0, .null, .null])) (hr1 : a + 25 ≤ w.z + 601024) (hr2 : P.2.2 + 8000 ≤ 7293034) (kont : ∀ P2, mi P P2 a 17 2604 (xO 9 [.int 0, .int 0, .ref (a + 1), .int 0, .ref (a + 2), .ref (a + 3), .ref (a + 4), .ref (a + 5), .ref (a + 6), .ref (a + 7), .ref (a + 8), .ref (a + 9), .ref (a + 10), .ref (a + 11), .ref (a + 12), .ref (a + 13), .ref (a + 14), .ref (a + 15), .ref (a + 16), .ref (a + 17), .null, .null, .null, .int 0, .int 0, .int 0, .long 0, .int 0, .int 0, .int 0, .int 0, .null, .int 0, .null, .int 0, .null, .null]) → X w mX11_init d Q 141 [some (.ref a)] [] P2) : X w mX11_init d Q 133 [some (.ref a)] [] P1 := by
  obtain ⟨z1, z2, _, z4, _⟩ := id h
  refine sX11_init_133 (sX11_init_134 (sX11_init_136 (N := 72) (by decide) (by decide) (by decide) (by omega) (by omega) ?_))
  have zo : (xal P1 (xJ 72 zJ) 72).1 a = some (xO 9 [.int 0, .int 0, .ref (a + 1), .int 0, .ref (a + 2), .ref (a + 3), .ref (a + 4), .ref (a + 5), .ref (a + 6), .ref (a + 7), .ref (a + 8), .ref (a + 9), .ref (a + 10), .ref (a + 11), .ref (a + 12), .ref (a + 13), .ref (a + 14), .ref (a + 15), .ref (a + 16), .null, .null, .null, .null, .int 0, .int 0, .int 0, .long 0, .int 0, .int 0, .int 0, .int 0, .null, .int 0, .null, .int 0, .null, .null]) := xal_n (by omega) z4
  refine sX11_init_138 zo (ble rfl) ?_
  rw [z1]
  exact kont _ (h.up rfl)
theorem mi_17 (h : mi P P1 a 17 2604 (xO 9 [.int 0, .int 0, .ref (a + 1), .int 0, .ref (a + 2), .ref (a + 3), .ref (a + 4), .ref (a + 5), .ref (a + 6), .ref (a + 7), .ref (a + 8), .ref (a + 9), .ref (a + 10), .ref (a + 11), .ref (a + 12), .ref (a + 13), .ref (a + 14), .ref (a + 15), .ref (a + 16), .ref (a + 17), .null, .null, .null, .int 0, .int 0, .int 0, .long 0, .int 0, .int 0, .int 0, .int 0, .null, .int 0, .null, .int 0, .null, .null])) (hr1 : a + 25 ≤ w.z + 601024) (hr2 : P.2.2 + 8000 ≤ 7293034) (kont : ∀ P2, mi P P2 a 18 2628 (xO 9 [.int 0, .int 0, .ref (a + 1), .int 0, .ref (a + 2), .ref (a + 3), .ref (a + 4), .ref (a + 5), .ref (a + 6), .ref (a + 7), .ref (a + 8), .ref (a + 9), .ref (a + 10), .ref (a + 11), .ref (a + 12), .ref (a + 13), .ref (a + 14), .ref (a + 15), .ref (a + 16), .ref (a + 17), .ref (a + 18), .null, .null, .int 0, .int 0, .int 0, .long 0, .int 0, .int 0, .int 0, .int 0, .null, .int 0, .null, .int 0, .null, .null]) → X w mX11_init d Q 149 [some (.ref a)] [] P2) : X w mX11_init d Q 141 [some (.ref a)] [] P1 := by
  obtain ⟨z1, z2, _, z4, _⟩ := id h
  refine sX11_init_141 (sX11_init_142 (sX11_init_144 (N := 24) (by decide) (by decide) (by decide) (by omega) (by omega) ?_))
  have zo : (xal P1 (xA 0 24 zI) 24).1 a = some (xO 9 [.int 0, .int 0, .ref (a + 1), .int 0, .ref (a + 2), .ref (a + 3), .ref (a + 4), .ref (a + 5), .ref (a + 6), .ref (a + 7), .ref (a + 8), .ref (a + 9), .ref (a + 10), .ref (a + 11), .ref (a + 12), .ref (a + 13), .ref (a + 14), .ref (a + 15), .ref (a + 16), .ref (a + 17), .null, .null, .null, .int 0, .int 0, .int 0, .long 0, .int 0, .int 0, .int 0, .int 0, .null, .int 0, .null, .int 0, .null, .null]) := xal_n (by omega) z4
  refine sX11_init_146 zo (ble rfl) ?_
  rw [z1]
  exact kont _ (h.up rfl)
theorem mi_18 (h : mi P P1 a 18 2628 (xO 9 [.int 0, .int 0, .ref (a + 1), .int 0, .ref (a + 2), .ref (a + 3), .ref (a + 4), .ref (a + 5), .ref (a + 6), .ref (a + 7), .ref (a + 8), .ref (a + 9), .ref (a + 10), .ref (a + 11), .ref (a + 12), .ref (a + 13), .ref (a + 14), .ref (a + 15), .ref (a + 16), .ref (a + 17), .ref (a + 18), .null, .null, .int 0, .int 0, .int 0, .long 0, .int 0, .int 0, .int 0, .int 0, .null, .int 0, .null, .int 0, .null, .null])) (hr1 : a + 25 ≤ w.z + 601024) (hr2 : P.2.2 + 8000 ≤ 7293034) (kont : ∀ P2, mi P P2 a 19 3828 (xO 9 [.int 0, .int 0, .ref (a + 1), .int 0, .ref (a + 2), .ref (a + 3), .ref (a + 4), .ref (a + 5), .ref (a + 6), .ref (a + 7), .ref (a + 8), .ref (a + 9), .ref (a + 10), .ref (a + 11), .ref (a + 12), .ref (a + 13), .ref (a + 14), .ref (a + 15), .ref (a + 16), .ref (a + 17), .ref (a + 18), .ref (a + 19), .null, .int 0, .int 0, .int 0, .long 0, .int 0, .int 0, .int 0, .int 0, .null, .int 0, .null, .int 0, .null, .null]) → X w mX11_init d Q 158 [some (.ref a)] [] P2) : X w mX11_init d Q 149 [some (.ref a)] [] P1 := by
  obtain ⟨z1, z2, _, z4, _⟩ := id h
  refine sX11_init_149 (sX11_init_150 (sX11_init_153 (N := 1200) (by decide) (by decide) (by decide) (by omega) (by omega) ?_))
  have zo : (xal P1 (xA 0 1200 zI) 1200).1 a = some (xO 9 [.int 0, .int 0, .ref (a + 1), .int 0, .ref (a + 2), .ref (a + 3), .ref (a + 4), .ref (a + 5), .ref (a + 6), .ref (a + 7), .ref (a + 8), .ref (a + 9), .ref (a + 10), .ref (a + 11), .ref (a + 12), .ref (a + 13), .ref (a + 14), .ref (a + 15), .ref (a + 16), .ref (a + 17), .ref (a + 18), .null, .null, .int 0, .int 0, .int 0, .long 0, .int 0, .int 0, .int 0, .int 0, .null, .int 0, .null, .int 0, .null, .null]) := xal_n (by omega) z4
  refine sX11_init_155 zo (ble rfl) ?_
  rw [z1]
  exact kont _ (h.up rfl)
theorem mi_19 (h : mi P P1 a 19 3828 (xO 9 [.int 0, .int 0, .ref (a + 1), .int 0, .ref (a + 2), .ref (a + 3), .ref (a + 4), .ref (a + 5), .ref (a + 6), .ref (a + 7), .ref (a + 8), .ref (a + 9), .ref (a + 10), .ref (a + 11), .ref (a + 12), .ref (a + 13), .ref (a + 14), .ref (a + 15), .ref (a + 16), .ref (a + 17), .ref (a + 18), .ref (a + 19), .null, .int 0, .int 0, .int 0, .long 0, .int 0, .int 0, .int 0, .int 0, .null, .int 0, .null, .int 0, .null, .null])) (hr1 : a + 25 ≤ w.z + 601024) (hr2 : P.2.2 + 8000 ≤ 7293034) (kont : ∀ P2, mi P P2 a 20 5364 (xO 9 [.int 0, .int 0, .ref (a + 1), .int 0, .ref (a + 2), .ref (a + 3), .ref (a + 4), .ref (a + 5), .ref (a + 6), .ref (a + 7), .ref (a + 8), .ref (a + 9), .ref (a + 10), .ref (a + 11), .ref (a + 12), .ref (a + 13), .ref (a + 14), .ref (a + 15), .ref (a + 16), .ref (a + 17), .ref (a + 18), .ref (a + 19), .ref (a + 20), .int 0, .int 0, .int 0, .long 0, .int 0, .int 0, .int 0, .int 0, .null, .int 0, .null, .int 0, .null, .null]) → X w mX11_init d Q 167 [some (.ref a)] [] P2) : X w mX11_init d Q 158 [some (.ref a)] [] P1 := by
  obtain ⟨z1, z2, _, z4, _⟩ := id h
  refine sX11_init_158 (sX11_init_159 (sX11_init_162 (N := 1536) (by decide) (by decide) (by decide) (by omega) (by omega) ?_))
  have zo : (xal P1 (xA 0 1536 zI) 1536).1 a = some (xO 9 [.int 0, .int 0, .ref (a + 1), .int 0, .ref (a + 2), .ref (a + 3), .ref (a + 4), .ref (a + 5), .ref (a + 6), .ref (a + 7), .ref (a + 8), .ref (a + 9), .ref (a + 10), .ref (a + 11), .ref (a + 12), .ref (a + 13), .ref (a + 14), .ref (a + 15), .ref (a + 16), .ref (a + 17), .ref (a + 18), .ref (a + 19), .null, .int 0, .int 0, .int 0, .long 0, .int 0, .int 0, .int 0, .int 0, .null, .int 0, .null, .int 0, .null, .null]) := xal_n (by omega) z4
  refine sX11_init_164 zo (ble rfl) ?_
  rw [z1]
  exact kont _ (h.up rfl)
theorem mi_20 (h : mi P P1 a 20 5364 (xO 9 [.int 0, .int 0, .ref (a + 1), .int 0, .ref (a + 2), .ref (a + 3), .ref (a + 4), .ref (a + 5), .ref (a + 6), .ref (a + 7), .ref (a + 8), .ref (a + 9), .ref (a + 10), .ref (a + 11), .ref (a + 12), .ref (a + 13), .ref (a + 14), .ref (a + 15), .ref (a + 16), .ref (a + 17), .ref (a + 18), .ref (a + 19), .ref (a + 20), .int 0, .int 0, .int 0, .long 0, .int 0, .int 0, .int 0, .int 0, .null, .int 0, .null, .int 0, .null, .null])) (hr1 : a + 25 ≤ w.z + 601024) (hr2 : P.2.2 + 8000 ≤ 7293034) (kont : ∀ P2, mi P P2 a 21 6864 (xO 9 [.int 0, .int 0, .ref (a + 1), .int 0, .ref (a + 2), .ref (a + 3), .ref (a + 4), .ref (a + 5), .ref (a + 6), .ref (a + 7), .ref (a + 8), .ref (a + 9), .ref (a + 10), .ref (a + 11), .ref (a + 12), .ref (a + 13), .ref (a + 14), .ref (a + 15), .ref (a + 16), .ref (a + 17), .ref (a + 18), .ref (a + 19), .ref (a + 20), .int 0, .int 0, .int 0, .long 0, .int 0, .int 0, .int 0, .int 0, .ref (a + 21), .int 0, .null, .int 0, .null, .null]) → X w mX11_init d Q 176 [some (.ref a)] [] P2) : X w mX11_init d Q 167 [some (.ref a)] [] P1 := by
  obtain ⟨z1, z2, _, z4, _⟩ := id h
  refine sX11_init_167 (sX11_init_168 (sX11_init_171 (N := 1500) (by decide) (by decide) (by decide) (by omega) (by omega) ?_))
  have zo : (xal P1 (xA 0 1500 zI) 1500).1 a = some (xO 9 [.int 0, .int 0, .ref (a + 1), .int 0, .ref (a + 2), .ref (a + 3), .ref (a + 4), .ref (a + 5), .ref (a + 6), .ref (a + 7), .ref (a + 8), .ref (a + 9), .ref (a + 10), .ref (a + 11), .ref (a + 12), .ref (a + 13), .ref (a + 14), .ref (a + 15), .ref (a + 16), .ref (a + 17), .ref (a + 18), .ref (a + 19), .ref (a + 20), .int 0, .int 0, .int 0, .long 0, .int 0, .int 0, .int 0, .int 0, .null, .int 0, .null, .int 0, .null, .null]) := xal_n (by omega) z4
  refine sX11_init_173 zo (ble rfl) ?_
  rw [z1]
  exact kont _ (h.up rfl)
theorem mi_21 (h : mi P P1 a 21 6864 (xO 9 [.int 0, .int 0, .ref (a + 1), .int 0, .ref (a + 2), .ref (a + 3), .ref (a + 4), .ref (a + 5), .ref (a + 6), .ref (a + 7), .ref (a + 8), .ref (a + 9), .ref (a + 10), .ref (a + 11), .ref (a + 12), .ref (a + 13), .ref (a + 14), .ref (a + 15), .ref (a + 16), .ref (a + 17), .ref (a + 18), .ref (a + 19), .ref (a + 20), .int 0, .int 0, .int 0, .long 0, .int 0, .int 0, .int 0, .int 0, .ref (a + 21), .int 0, .null, .int 0, .null, .null])) (hr1 : a + 25 ≤ w.z + 601024) (hr2 : P.2.2 + 8000 ≤ 7293034) (kont : ∀ P2, mi P P2 a 22 7064 (xO 9 [.int 0, .int 0, .ref (a + 1), .int 0, .ref (a + 2), .ref (a + 3), .ref (a + 4), .ref (a + 5), .ref (a + 6), .ref (a + 7), .ref (a + 8), .ref (a + 9), .ref (a + 10), .ref (a + 11), .ref (a + 12), .ref (a + 13), .ref (a + 14), .ref (a + 15), .ref (a + 16), .ref (a + 17), .ref (a + 18), .ref (a + 19), .ref (a + 20), .int 0, .int 0, .int 0, .long 0, .int 0, .int 0, .int 0, .int 0, .ref (a + 21), .int 0, .ref (a + 22), .int 0, .null, .null]) → X w mX11_init d Q 185 [some (.ref a)] [] P2) : X w mX11_init d Q 176 [some (.ref a)] [] P1 := by
  obtain ⟨z1, z2, _, z4, _⟩ := id h
  refine sX11_init_176 (sX11_init_177 (sX11_init_180 (N := 200) (by decide) (by decide) (by decide) (by omega) (by omega) ?_))
  have zo : (xal P1 (xJ 200 zJ) 200).1 a = some (xO 9 [.int 0, .int 0, .ref (a + 1), .int 0, .ref (a + 2), .ref (a + 3), .ref (a + 4), .ref (a + 5), .ref (a + 6), .ref (a + 7), .ref (a + 8), .ref (a + 9), .ref (a + 10), .ref (a + 11), .ref (a + 12), .ref (a + 13), .ref (a + 14), .ref (a + 15), .ref (a + 16), .ref (a + 17), .ref (a + 18), .ref (a + 19), .ref (a + 20), .int 0, .int 0, .int 0, .long 0, .int 0, .int 0, .int 0, .int 0, .ref (a + 21), .int 0, .null, .int 0, .null, .null]) := xal_n (by omega) z4
  refine sX11_init_182 zo (ble rfl) ?_
  rw [z1]
  exact kont _ (h.up rfl)
theorem mi_22 (h : mi P P1 a 22 7064 (xO 9 [.int 0, .int 0, .ref (a + 1), .int 0, .ref (a + 2), .ref (a + 3), .ref (a + 4), .ref (a + 5), .ref (a + 6), .ref (a + 7), .ref (a + 8), .ref (a + 9), .ref (a + 10), .ref (a + 11), .ref (a + 12), .ref (a + 13), .ref (a + 14), .ref (a + 15), .ref (a + 16), .ref (a + 17), .ref (a + 18), .ref (a + 19), .ref (a + 20), .int 0, .int 0, .int 0, .long 0, .int 0, .int 0, .int 0, .int 0, .ref (a + 21), .int 0, .ref (a + 22), .int 0, .null, .null])) (hr1 : a + 25 ≤ w.z + 601024) (hr2 : P.2.2 + 8000 ≤ 7293034) (kont : ∀ P2, mi P P2 a 23 7070 (xO 9 [.int 0, .int 0, .ref (a + 1), .int 0, .ref (a + 2), .ref (a + 3), .ref (a + 4), .ref (a + 5), .ref (a + 6), .ref (a + 7), .ref (a + 8), .ref (a + 9), .ref (a + 10), .ref (a + 11), .ref (a + 12), .ref (a + 13), .ref (a + 14), .ref (a + 15), .ref (a + 16), .ref (a + 17), .ref (a + 18), .ref (a + 19), .ref (a + 20), .int 0, .int 0, .int 0, .long 0, .int 0, .int 0, .int 0, .int 0, .ref (a + 21), .int 0, .ref (a + 22), .int 0, .ref (a + 23), .null]) → X w mX11_init d Q 193 [some (.ref a)] [] P2) : X w mX11_init d Q 185 [some (.ref a)] [] P1 := by
  obtain ⟨z1, z2, _, z4, _⟩ := id h
  refine sX11_init_185 (sX11_init_186 (sX11_init_188 (N := 6) (by decide) (by decide) (by decide) (by omega) (by omega) ?_))
  have zo : (xal P1 (xA 0 6 zI) 6).1 a = some (xO 9 [.int 0, .int 0, .ref (a + 1), .int 0, .ref (a + 2), .ref (a + 3), .ref (a + 4), .ref (a + 5), .ref (a + 6), .ref (a + 7), .ref (a + 8), .ref (a + 9), .ref (a + 10), .ref (a + 11), .ref (a + 12), .ref (a + 13), .ref (a + 14), .ref (a + 15), .ref (a + 16), .ref (a + 17), .ref (a + 18), .ref (a + 19), .ref (a + 20), .int 0, .int 0, .int 0, .long 0, .int 0, .int 0, .int 0, .int 0, .ref (a + 21), .int 0, .ref (a + 22), .int 0, .null, .null]) := xal_n (by omega) z4
  refine sX11_init_190 zo (ble rfl) ?_
  rw [z1]
  exact kont _ (h.up rfl)
theorem mi_23 (h : mi P P1 a 23 7070 (xO 9 [.int 0, .int 0, .ref (a + 1), .int 0, .ref (a + 2), .ref (a + 3), .ref (a + 4), .ref (a + 5), .ref (a + 6), .ref (a + 7), .ref (a + 8), .ref (a + 9), .ref (a + 10), .ref (a + 11), .ref (a + 12), .ref (a + 13), .ref (a + 14), .ref (a + 15), .ref (a + 16), .ref (a + 17), .ref (a + 18), .ref (a + 19), .ref (a + 20), .int 0, .int 0, .int 0, .long 0, .int 0, .int 0, .int 0, .int 0, .ref (a + 21), .int 0, .ref (a + 22), .int 0, .ref (a + 23), .null])) (hr1 : a + 25 ≤ w.z + 601024) (hr2 : P.2.2 + 8000 ≤ 7293034) (kont : ∀ P2, mi P P2 a 24 7082 (xO 9 [.int 0, .int 0, .ref (a + 1), .int 0, .ref (a + 2), .ref (a + 3), .ref (a + 4), .ref (a + 5), .ref (a + 6), .ref (a + 7), .ref (a + 8), .ref (a + 9), .ref (a + 10), .ref (a + 11), .ref (a + 12), .ref (a + 13), .ref (a + 14), .ref (a + 15), .ref (a + 16), .ref (a + 17), .ref (a + 18), .ref (a + 19), .ref (a + 20), .int 0, .int 0, .int 0, .long 0, .int 0, .int 0, .int 0, .int 0, .ref (a + 21), .int 0, .ref (a + 22), .int 0, .ref (a + 23), .ref (a + 24)]) → X w mX11_init d Q 201 [some (.ref a)] [] P2) : X w mX11_init d Q 193 [some (.ref a)] [] P1 := by
  obtain ⟨z1, z2, _, z4, _⟩ := id h
  refine sX11_init_193 (sX11_init_194 (sX11_init_196 (N := 12) (by decide) (by decide) (by decide) (by omega) (by omega) ?_))
  have zo : (xal P1 (xA 0 12 zI) 12).1 a = some (xO 9 [.int 0, .int 0, .ref (a + 1), .int 0, .ref (a + 2), .ref (a + 3), .ref (a + 4), .ref (a + 5), .ref (a + 6), .ref (a + 7), .ref (a + 8), .ref (a + 9), .ref (a + 10), .ref (a + 11), .ref (a + 12), .ref (a + 13), .ref (a + 14), .ref (a + 15), .ref (a + 16), .ref (a + 17), .ref (a + 18), .ref (a + 19), .ref (a + 20), .int 0, .int 0, .int 0, .long 0, .int 0, .int 0, .int 0, .int 0, .ref (a + 21), .int 0, .ref (a + 22), .int 0, .ref (a + 23), .null]) := xal_n (by omega) z4
  refine sX11_init_198 zo (ble rfl) ?_
  rw [z1]
  exact kont _ (h.up rfl)
theorem c_modInit (hC : P.1 a = some (xO 9 [.int 0, .int 0, .null, .int 0, .null, .null, .null, .null, .null, .null, .null, .null, .null, .null, .null, .null, .null, .null, .null, .null, .null, .null, .null, .int 0, .int 0, .int 0, .long 0, .int 0, .int 0, .int 0, .int 0, .null, .int 0, .null, .int 0, .null, .null])) (hz : P.2.1 = a + 1) (hr1 : a + 25 ≤ w.z + 601024) (hr2 : P.2.2 + 8000 ≤ 7293034) : xC w d mX11_init [.ref a] P (xRl none (fun P1 => pM P1 a mF0 ∧ P1.2.1 = a + 25 ∧ P1.2.2 = P.2.2 + 7082 ∧ ∀ q, q < a → P1.1 q = P.1 q)) := by
  refine xC_of (by decide) (ble rfl) (ls := [some (.ref a)]) rfl ?_
  refine sX11_init_0 (sX11_init_1 (ble rfl) ?_)
  have h0 : mi P P a 0 0 (xO 9 [.int 0, .int 0, .null, .int 0, .null, .null, .null, .null, .null, .null, .null, .null, .null, .null, .null, .null, .null, .null, .null, .null, .null, .null, .null, .int 0, .int 0, .int 0, .long 0, .int 0, .int 0, .int 0, .int 0, .null, .int 0, .null, .int 0, .null, .null]) := ⟨hz, rfl, fun _ _ => rfl, hC, fun r p q => by omega⟩
  refine mi_0 h0 hr1 hr2 (fun P1 h1 => mi_1 h1 hr1 hr2 (fun P2 h2 => mi_2 h2 hr1 hr2 (fun P3 h3 => mi_3 h3 hr1 hr2 (fun P4 h4 => mi_4 h4 hr1 hr2 (fun P5 h5 => mi_5 h5 hr1 hr2 (fun P6 h6 => mi_6 h6 hr1 hr2 (fun P7 h7 => mi_7 h7 hr1 hr2 (fun P8 h8 => mi_8 h8 hr1 hr2 (fun P9 h9 => mi_9 h9 hr1 hr2 (fun P10 h10 => mi_10 h10 hr1 hr2 (fun P11 h11 => mi_11 h11 hr1 hr2 (fun P12 h12 => mi_12 h12 hr1 hr2 (fun P13 h13 => mi_13 h13 hr1 hr2 (fun P14 h14 => mi_14 h14 hr1 hr2 (fun P15 h15 => mi_15 h15 hr1 hr2 (fun P16 h16 => mi_16 h16 hr1 hr2 (fun P17 h17 => mi_17 h17 hr1 hr2 (fun P18 h18 => mi_18 h18 hr1 hr2 (fun P19 h19 => mi_19 h19 hr1 hr2 (fun P20 h20 => mi_20 h20 hr1 hr2 (fun P21 h21 => mi_21 h21 hr1 hr2 (fun P22 h22 => mi_22 h22 hr1 hr2 (fun P23 h23 => mi_23 h23 hr1 hr2 (fun P24 h24 => ?_))))))))))))))))))))))))
  obtain ⟨z1, z2, z3, z4, z5⟩ := h24
  refine sX11_init_201 ⟨rfl, ?_, z1, z2, z3⟩
  intro r hr
  by_cases e : r = 0
  · subst e; exact z4
  · exact z5 r (by omega) (by omega)
end RN2
