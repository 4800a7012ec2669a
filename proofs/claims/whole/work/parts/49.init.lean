section Init
variable {w : xWd} {d : Nat} {P : xH}
theorem xal_s {P : xH} {e : xE} {n : Nat} : (xal P e n).1 P.2.1 = some e := by simp [xal, va_up]
theorem xal_n {P : xH} {e : xE} {n b : Nat} {o : Option xE} (h : b ≠ P.2.1) (hb : P.1 b = o) : (xal P e n).1 b = o := by simp [xal, va_up, h, hb]
/-- from a on the heap holds the entries es and nothing behind them; sl slots were booked; below a nothing is different -/
def xt (P P1 : xH) (a : Nat) (es : List xE) (sl : Nat) : Prop := P1.2.1 = a + es.length ∧ P1.2.2 = P.2.2 + sl ∧ (∀ q, q < a → P1.1 q = P.1 q) ∧ ∀ i e, es[i]? = some e → P1.1 (a + i) = some e
theorem xt.at {P P1 : xH} {a sl : Nat} {es : List xE} (h : xt P P1 a es sl) (i : Nat) {e : xE} (he : es[i]? = some e) : P1.1 (a + i) = some e := h.2.2.2 i e he
theorem xt.at0 {P P1 : xH} {a sl : Nat} {es : List xE} {e : xE} (h : xt P P1 a (e :: es) sl) : P1.1 a = some e := h.2.2.2 0 e rfl
theorem xt.rf {P : xH} {a : Nat} {e : xE} (hC : P.1 a = some e) (hz : P.2.1 = a + 1) : xt P P a [e] 0 := ⟨hz, rfl, fun _ _ => rfl, fun i e' he => by
  match i, he with
  | 0, he => cases he; exact hC⟩
theorem xt.al {P P1 : xH} {a sl n : Nat} {es : List xE} {e : xE} (h : xt P P1 a es sl) : xt P (xal P1 e n) a (es ++ [e]) (sl + n) := by
  refine ⟨?_, ?_, fun q hq => ?_, fun i e' he => ?_⟩
  · show P1.2.1 + 1 = _; rw [h.1, List.length_append]; rfl
  · show P1.2.2 + n = _; rw [h.2.1]; omega
  · exact (xal_n (o := P1.1 q) (by rw [h.1]; omega) rfl).trans (h.2.2.1 q hq)
  · rcases Nat.lt_or_ge i es.length with hi | hi
    · rw [List.getElem?_append_left hi] at he
      exact xal_n (by rw [h.1]; omega) (h.2.2.2 i e' he)
    · rw [List.getElem?_append_right hi] at he
      match hk : i - es.length, he with
      | 0, he =>
        cases he
        rw [show a + i = P1.2.1 by rw [h.1]; omega]
        exact xal_s
      | q + 1, he => simp at he
theorem xt.put {P P1 : xH} {a sl : Nat} {es : List xE} {e : xE} (h : xt P P1 a es sl) (i : Nat) : xt P (xs P1 (a + i) e) a (es.set i e) sl := by
  refine ⟨?_, h.2.1, fun q hq => ?_, fun k e' he => ?_⟩
  · show P1.2.1 = _; rw [h.1, List.length_set]
  · exact (xs_n (o := P1.1 q) (by omega) rfl).trans (h.2.2.1 q hq)
  · by_cases hk : k = i
    · subst hk
      have hlt : k < es.length := by
        rcases Nat.lt_or_ge k es.length with h9 | h9
        · exact h9
        · rw [List.getElem?_eq_none (by simpa using h9)] at he; cases he
      rw [List.getElem?_set_self hlt] at he
      cases he
      exact xs_s
    · rw [List.getElem?_set_ne (fun h9 => hk h9.symm)] at he
      exact xs_n (by omega) (h.2.2.2 k e' he)
theorem xt.put0 {P P1 : xH} {a sl : Nat} {es : List xE} {e : xE} (h : xt P P1 a es sl) : xt P (xs P1 a e) a (es.set 0 e) sl := h.put 0
theorem xt.cat {P P1 P2 : xH} {a b sl sl2 : Nat} {es fs : List xE} {e : xE} (h : xt P P1 a (es ++ [e]) sl) (h2 : xt P1 P2 b fs sl2) (hb : b = a + es.length) : xt P P2 a (es ++ fs) (sl + sl2) := by
  subst hb
  refine ⟨?_, ?_, fun q hq => ?_, fun i e' he => ?_⟩
  · rw [h2.1, List.length_append]; omega
  · rw [h2.2.1, h.2.1]; omega
  · rw [h2.2.2.1 q (by omega)]; exact h.2.2.1 q hq
  · rcases Nat.lt_or_ge i es.length with hi | hi
    · rw [List.getElem?_append_left hi] at he
      rw [h2.2.2.1 (a + i) (by omega)]
      exact h.2.2.2 i e' (by rw [List.getElem?_append_left hi]; exact he)
    · rw [List.getElem?_append_right hi] at he
      have := h2.2.2.2 _ e' he
      rw [show a + es.length + (i - es.length) = a + i by omega] at this
      exact this
theorem xt.get {P P1 : xH} {a sl q : Nat} {es : List xE} {o : Option xE} (h : xt P P1 a es sl) (hq : q < a) (ho : P.1 q = o) : P1.1 q = o := (h.2.2.1 q hq).trans ho
theorem xt.cast {P P1 : xH} {a sl sl2 : Nat} {es es2 : List xE} (h : xt P P1 a es sl) (he : es = es2) (hs : sl = sl2) : xt P P1 a es2 sl2 := by subst he; subst hs; exact h
variable {a : Nat}
def zI : Nat → Int32 := fun _ => 0
def zJ : Nat → Int64 := fun _ => 0
def axEs (a : Nat) : List xE := [aO a 0, xA 0 4 zI]
theorem c_axisInit (hC : P.1 a = some (xO 0 [.null, .int 0])) (hz : P.2.1 = a + 1) (hr1 : P.2.1 + 1 ≤ w.z + 601024) (hr2 : P.2.2 + 4 ≤ 7293034) : xC w d mX0_init [.ref a] P (xRl none (fun P1 => xt P P1 a (axEs a) 4)) := by
  have h0 := xt.rf hC hz
  refine xC_of (by decide) (ble rfl) (ls := [some (.ref a)]) rfl ?_
  refine sX0_init_0 (sX0_init_1 (ble rfl) (sX0_init_4 (sX0_init_5 (sX0_init_6 (N := 4) (by decide) (by decide) (by decide) hr1 hr2 (sX0_init_8 (h0.al.at0) (ble rfl) (sX0_init_11 ⟨rfl, ?_⟩))))))
  rw [hz]
  exact (h0.al (e := xA 0 4 zI) (n := 4)).put0 (e := aO a 0)
def tbEs (a : Nat) : List xE := [bO a, aO (a + 1) 0, xA 0 4 zI, aO (a + 3) 0, xA 0 4 zI, xA 0 16 zI]
theorem c_tableInit (hC : P.1 a = some (xO 5 [.null, .null, .null])) (hz : P.2.1 = a + 1) (hr1 : P.2.1 + 5 ≤ w.z + 601024) (hr2 : P.2.2 + 28 ≤ 7293034) : xC w (d + 1) mX7_init [.ref a] P (xRl none (fun P1 => xt P P1 a (tbEs a) 28)) := by
  have h0 := xt.rf hC hz
  refine xC_of (by decide) (ble rfl) (ls := [some (.ref a)]) rfl ?_
  refine sX7_init_0 (sX7_init_1 (ble rfl) (sX7_init_4 (sX7_init_5 (by omega) (by omega) ?_)))
  rw [hz]
  have h1 := h0.al (e := xO 0 [.null, .int 0]) (n := 2)
  generalize xal P (xO 0 [.null, .int 0]) 2 = P1 at h1 ⊢
  have z1 : P1.2.1 = a + 2 := h1.1
  have y1 : P1.2.2 = P.2.2 + 2 := h1.2.1
  refine sX7_init_8 rfl (sX7_init_9_r (ble rfl) (c_axisInit (h1.at 1 rfl) h1.1 (by omega) (by omega)) (fun P2 hR => ?_))
  have h2 := h1.cat (es := [_]) hR rfl
  refine sX7_init_12 h2.at0 (ble rfl) ?_
  have h3 := h2.put0 (e := xO 5 [.ref (a + 1), .null, .null])
  show X w mX7_init (d + 1) _ 15 _ _ (xs P2 a (xO 5 [.ref (a + 1), .null, .null]))
  generalize xs P2 a (xO 5 [.ref (a + 1), .null, .null]) = P3 at h3 ⊢
  have z3 : P3.2.1 = a + 3 := h3.1
  have y3 : P3.2.2 = P.2.2 + 6 := h3.2.1
  refine sX7_init_15 (sX7_init_16 (by omega) (by omega) ?_)
  rw [z3]
  have h4 := h3.al (e := xO 0 [.null, .int 0]) (n := 2)
  generalize xal P3 (xO 0 [.null, .int 0]) 2 = P4 at h4 ⊢
  have z4 : P4.2.1 = a + 4 := h4.1
  have y4 : P4.2.2 = P.2.2 + 8 := h4.2.1
  refine sX7_init_19 rfl (sX7_init_20_r (ble rfl) (c_axisInit (h4.at 3 rfl) h4.1 (by omega) (by omega)) (fun P5 hR => ?_))
  have h5 := h4.cat (es := [_, _, _]) hR rfl
  refine sX7_init_23 h5.at0 (ble rfl) ?_
  have h6 := h5.put0 (e := xO 5 [.ref (a + 1), .ref (a + 3), .null])
  show X w mX7_init (d + 1) _ 26 _ _ (xs P5 a (xO 5 [.ref (a + 1), .ref (a + 3), .null]))
  generalize xs P5 a (xO 5 [.ref (a + 1), .ref (a + 3), .null]) = P6 at h6 ⊢
  have z6 : P6.2.1 = a + 5 := h6.1
  have y6 : P6.2.2 = P.2.2 + 12 := h6.2.1
  refine sX7_init_26 (sX7_init_27 (sX7_init_29 (N := 16) (by decide) (by decide) (by decide) (by omega) (by omega) (sX7_init_31 (h6.al.at0) (ble rfl) (sX7_init_34 ⟨rfl, ?_⟩))))
  rw [z6]
  exact (h6.al (e := xA 0 16 zI) (n := 16)).put0 (e := bO a)
def ceEs (a : Nat) : List xE := [cO a 0 0 0 0 0 0, xJ 9 zJ, xJ 3 zJ, xA 0 3 zI, xA 3 3 zI, xA 0 64 zI, xA 0 50 zI]
def cOi (x y z u v q : Value) : xE := xO 1 [.long 0, .int 0, x, .int 0, .int 0, y, z, u, v, .int 0, q, .int 0]
theorem c_cellInit (hC : P.1 a = some (cOi .null .null .null .null .null .null)) (hz : P.2.1 = a + 1) (hr1 : P.2.1 + 6 ≤ w.z + 601024) (hr2 : P.2.2 + 132 ≤ 7293034) : xC w d mX1_init [.ref a] P (xRl none (fun P1 => xt P P1 a (ceEs a) 132)) := by
  have h0 := xt.rf hC hz
  refine xC_of (by decide) (ble rfl) (ls := [some (.ref a)]) rfl ?_
  refine sX1_init_0 (sX1_init_1 (ble rfl) (sX1_init_4 (sX1_init_5 (sX1_init_7 (N := 9) (by decide) (by decide) (by decide) (by omega) (by omega) (sX1_init_9 (h0.al.at0) (ble rfl) ?_)))))
  rw [hz]
  have h1 := (h0.al (e := xJ 9 zJ) (n := 9)).put0 (e := cOi (.ref (a + 1)) .null .null .null .null .null)
  show X w mX1_init d _ 12 _ _ (xs (xal P (xJ 9 zJ) 9) a (cOi (.ref (a + 1)) .null .null .null .null .null))
  generalize xs (xal P (xJ 9 zJ) 9) a (cOi (.ref (a + 1)) .null .null .null .null .null) = P1 at h1 ⊢
  have z1 : P1.2.1 = a + 2 := h1.1
  have y1 : P1.2.2 = P.2.2 + 9 := h1.2.1
  refine sX1_init_12 (sX1_init_13 (sX1_init_14 (N := 3) (by decide) (by decide) (by decide) (by omega) (by omega) (sX1_init_16 (h1.al.at0) (ble rfl) ?_)))
  rw [z1]
  have h2 := (h1.al (e := xJ 3 zJ) (n := 3)).put0 (e := cOi (.ref (a + 1)) (.ref (a + 2)) .null .null .null .null)
  show X w mX1_init d _ 19 _ _ (xs (xal P1 (xJ 3 zJ) 3) a (cOi (.ref (a + 1)) (.ref (a + 2)) .null .null .null .null))
  generalize xs (xal P1 (xJ 3 zJ) 3) a (cOi (.ref (a + 1)) (.ref (a + 2)) .null .null .null .null) = P2 at h2 ⊢
  have z2 : P2.2.1 = a + 3 := h2.1
  have y2 : P2.2.2 = P.2.2 + 12 := h2.2.1
  refine sX1_init_19 (sX1_init_20 (sX1_init_21 (N := 3) (by decide) (by decide) (by decide) (by omega) (by omega) (sX1_init_23 (h2.al.at0) (ble rfl) ?_)))
  rw [z2]
  have h3 := (h2.al (e := xA 0 3 zI) (n := 3)).put0 (e := cOi (.ref (a + 1)) (.ref (a + 2)) (.ref (a + 3)) .null .null .null)
  show X w mX1_init d _ 26 _ _ (xs (xal P2 (xA 0 3 zI) 3) a (cOi (.ref (a + 1)) (.ref (a + 2)) (.ref (a + 3)) .null .null .null))
  generalize xs (xal P2 (xA 0 3 zI) 3) a (cOi (.ref (a + 1)) (.ref (a + 2)) (.ref (a + 3)) .null .null .null) = P3 at h3 ⊢
  have z3 : P3.2.1 = a + 4 := h3.1
  have y3 : P3.2.2 = P.2.2 + 15 := h3.2.1
  refine sX1_init_26 (sX1_init_27 (sX1_init_28 (N := 3) (by decide) (by decide) (by decide) (by omega) (by omega) (sX1_init_30 (h3.al.at0) (ble rfl) ?_)))
  rw [z3]
  have h4 := (h3.al (e := xA 3 3 zI) (n := 3)).put0 (e := cOi (.ref (a + 1)) (.ref (a + 2)) (.ref (a + 3)) (.ref (a + 4)) .null .null)
  show X w mX1_init d _ 33 _ _ (xs (xal P3 (xA 3 3 zI) 3) a (cOi (.ref (a + 1)) (.ref (a + 2)) (.ref (a + 3)) (.ref (a + 4)) .null .null))
  generalize xs (xal P3 (xA 3 3 zI) 3) a (cOi (.ref (a + 1)) (.ref (a + 2)) (.ref (a + 3)) (.ref (a + 4)) .null .null) = P4 at h4 ⊢
  have z4 : P4.2.1 = a + 5 := h4.1
  have y4 : P4.2.2 = P.2.2 + 18 := h4.2.1
  refine sX1_init_33 (sX1_init_34 (sX1_init_36 (N := 64) (by decide) (by decide) (by decide) (by omega) (by omega) (sX1_init_38 (h4.al.at0) (ble rfl) ?_)))
  rw [z4]
  have h5 := (h4.al (e := xA 0 64 zI) (n := 64)).put0 (e := cOi (.ref (a + 1)) (.ref (a + 2)) (.ref (a + 3)) (.ref (a + 4)) (.ref (a + 5)) .null)
  show X w mX1_init d _ 41 _ _ (xs (xal P4 (xA 0 64 zI) 64) a (cOi (.ref (a + 1)) (.ref (a + 2)) (.ref (a + 3)) (.ref (a + 4)) (.ref (a + 5)) .null))
  generalize xs (xal P4 (xA 0 64 zI) 64) a (cOi (.ref (a + 1)) (.ref (a + 2)) (.ref (a + 3)) (.ref (a + 4)) (.ref (a + 5)) .null) = P5 at h5 ⊢
  have z5 : P5.2.1 = a + 6 := h5.1
  have y5 : P5.2.2 = P.2.2 + 82 := h5.2.1
  refine sX1_init_41 (sX1_init_42 (sX1_init_44 (N := 50) (by decide) (by decide) (by decide) (by omega) (by omega) (sX1_init_46 (h5.al.at0) (ble rfl) (sX1_init_49 ⟨rfl, ?_⟩))))
  rw [z5]
  exact (h5.al (e := xA 0 50 zI) (n := 50)).put0 (e := cO a 0 0 0 0 0 0)
end Init
