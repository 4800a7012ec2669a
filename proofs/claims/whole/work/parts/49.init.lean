section Init
variable {w : xWd} {d : Nat} {P : xH}
theorem xal_s {P : xH} {e : xE} {n : Nat} : (xal P e n).1 P.2.1 = some e := by simp [xal, va_up]
theorem xal_n {P : xH} {e : xE} {n b : Nat} {o : Option xE} (h : b ≠ P.2.1) (hb : P.1 b = o) : (xal P e n).1 b = o := by simp [xal, va_up, h, hb]
/-- the heap has grown to sz cells, sl slots were booked, nothing below a is different -/
def gr (P P1 : xH) (a sz sl : Nat) : Prop := P1.2.1 = sz ∧ P1.2.2 = P.2.2 + sl ∧ ∀ q, q < a → P1.1 q = P.1 q
theorem gr.get {P P1 : xH} {a sz sl q : Nat} {o : Option xE} (h : gr P P1 a sz sl) (hq : q < a) (ho : P.1 q = o) : P1.1 q = o := (h.2.2 q hq).trans ho
theorem gr.rf {a sz : Nat} (h : P.2.1 = sz) : gr P P a sz 0 := ⟨h, rfl, fun _ _ => rfl⟩
theorem gr.al {P P1 : xH} {a sz sl n : Nat} {e : xE} (h : gr P P1 a sz sl) (ha : a ≤ sz) : gr P (xal P1 e n) a (sz + 1) (sl + n) := ⟨by show P1.2.1 + 1 = _; rw [h.1], by show P1.2.2 + n = _; rw [h.2.1]; omega, fun q hq => (xal_n (o := P1.1 q) (by rw [h.1]; omega) rfl).trans (h.2.2 q hq)⟩
theorem gr.xs {P P1 : xH} {a sz sl b : Nat} {e : xE} (h : gr P P1 a sz sl) (hb : a ≤ b) : gr P (xs P1 b e) a sz sl := ⟨h.1, h.2.1, fun q hq => (xs_n (o := P1.1 q) (by omega) rfl).trans (h.2.2 q hq)⟩
theorem gr.tr {P P1 P2 : xH} {a b sz sz2 sl sl2 : Nat} (h : gr P P1 a sz sl) (h2 : gr P1 P2 b sz2 sl2) (hb : a ≤ b) : gr P P2 a sz2 (sl + sl2) := ⟨h2.1, by rw [h2.2.1, h.2.1]; omega, fun q hq => (h2.2.2 q (by omega)).trans (h.2.2 q hq)⟩
theorem gr.get2 {P P1 P2 : xH} {a sz sl b : Nat} {o : Option xE} (h : gr P P1 a sz sl) (hb : b < a) (ho : P.1 b = o) : P1.1 b = o := (h.2.2 b hb).trans ho
variable {a : Nat}
theorem c_axisInit (hC : P.1 a = some (xO 0 [.null, .int 0])) (hz : P.2.1 = a + 1) (hr1 : P.2.1 + 1 ≤ w.z + 601024) (hr2 : P.2.2 + 4 ≤ 7293034) : xC w d mX0_init [.ref a] P (xRl none (fun P1 => pA P1 a (fun _ => 0) 0 ∧ gr P P1 a (a + 2) 4)) := by
  refine xC_of (by decide) (ble rfl) (ls := [some (.ref a)]) rfl ?_
  refine sX0_init_0 (sX0_init_1 (ble rfl) (sX0_init_4 (sX0_init_5 (sX0_init_6 (by decide) (by decide) (by decide) hr1 hr2 (sX0_init_8 (xal_n (by omega) hC) (ble rfl) (sX0_init_11 ⟨rfl, ⟨?_, ?_⟩, ?_⟩))))))
  · rw [hz]; exact xs_s
  · refine xs_n (by omega) ?_
    rw [← hz]; exact xal_s
  · exact ((gr.rf hz).al (by omega)).xs (Nat.le_refl _)
end Init
