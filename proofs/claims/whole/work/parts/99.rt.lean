section RT
variable {w : xWd} {P : xH}
theorem and15 (x : Int32) : ∃ u : Nat, u < 16 ∧ x &&& 15 = nI u := by
  refine ⟨(x &&& 15).toBitVec.toNat, ?_, ?_⟩
  · rw [Int32.toBitVec_and, BitVec.toNat_and, show (15 : Int32).toBitVec.toNat = 2 ^ 4 - 1 by decide, Nat.and_two_pow_sub_one_eq_mod]
    exact Nat.mod_lt _ (by decide)
  · apply Int32.toBitVec_inj.mp
    apply BitVec.eq_of_toNat_eq
    show _ = (BitVec.ofNat 32 _).toNat
    rw [BitVec.toNat_ofNat, Nat.mod_eq_of_lt]
    exact (x &&& 15).toBitVec.isLt
theorem lt6 {L i : Nat} (hL : L ≤ 4000) (hi : i ≤ 4000) : nI L - 6 < nI i ↔ L < i + 6 := by
  rw [Int32.lt_iff_toInt_lt, Int32.toInt_sub, nI_t (by omega), nI_t (by omega), show (6 : Int32).toInt = 6 from rfl, Int.bmod_eq_of_le (by omega) (by omega)]
  omega
theorem LI.up {b i : Nat} (h : LI P b i) : LI P b (i + 6) := by
  obtain ⟨S, S', Tc, Tm, n, L, t, L2, F, bk, g, f, hc, hm, hz, ht, ho, hp1, hp2, hp3⟩ := h
  exact ⟨S, S', Tc, Tm, n, L, t, L2, F, bk, g, f, hc, hm, hz, ht, ho, hp1, by omega, by omega⟩
theorem lw_op {b i : Nat} {l5 l6 l7 : Option Value} (hb : b = w.z) (hi : i + 6 ≤ w.2.2.2.2.2.1) (hL : w.2.2.2.2.2.1 ≤ 3072) (hI : LI P b i) (kont : ∀ P' l5 l6 l7, LI P' b (i + 6) → X w mL_law 200 xQ1 1089 (lls w b i l5 l6 l7) [] P') : ∀ u, u < 16 → X w mL_law 200 xQ1 40 (lls w b i l5 l6 l7) [.int (nI u)] P := by
  intro u hu
  match u, hu with
  | 0, _ => exact X_tableIn (M := mL_law) (off := 76) (tgt := 116) dL_law_40 (by decide) (by decide) rfl rfl (lw_unit hb hi hL hI kont)
  | 1, _ => exact X_tableIn (M := mL_law) (off := 101) (tgt := 141) dL_law_40 (by decide) (by decide) rfl rfl (lw_units hb hi hL hI kont)
  | 2, _ => exact X_tableIn (M := mL_law) (off := 126) (tgt := 166) dL_law_40 (by decide) (by decide) rfl rfl (lw_read hb hi hL hI kont)
  | 3, _ => exact X_tableIn (M := mL_law) (off := 139) (tgt := 179) dL_law_40 (by decide) (by decide) rfl rfl (lw_cell hb hi hL hI kont)
  | 4, _ => exact X_tableIn (M := mL_law) (off := 207) (tgt := 247) dL_law_40 (by decide) (by decide) rfl rfl (lw_truth hb hi hL hI kont)
  | 5, _ => exact X_tableIn (M := mL_law) (off := 274) (tgt := 314) dL_law_40 (by decide) (by decide) rfl rfl (lw_sense hb hi hL hI kont)
  | 6, _ => exact X_tableIn (M := mL_law) (off := 354) (tgt := 394) dL_law_40 (by decide) (by decide) rfl rfl (lw_arc hb hi hL hI kont)
  | 7, _ => exact X_tableIn (M := mL_law) (off := 434) (tgt := 474) dL_law_40 (by decide) (by decide) rfl rfl (lw_delay hb hi hL hI kont)
  | 8, _ => exact X_tableIn (M := mL_law) (off := 554) (tgt := 594) dL_law_40 (by decide) (by decide) rfl rfl (lw_power hb hi hL hI kont)
  | 9, _ => exact X_tableIn (M := mL_law) (off := 622) (tgt := 662) dL_law_40 (by decide) (by decide) rfl rfl (lw_alike hb hi hL hI kont)
  | 10, _ => exact X_tableIn (M := mL_law) (off := 697) (tgt := 737) dL_law_40 (by decide) (by decide) rfl rfl (lw_order hb hi hL hI kont)
  | 11, _ => exact X_tableIn (M := mL_law) (off := 777) (tgt := 817) dL_law_40 (by decide) (by decide) rfl rfl (lw_family hb hi hL hI kont)
  | 12, _ => exact X_tableIn (M := mL_law) (off := 845) (tgt := 885) dL_law_40 (by decide) (by decide) rfl rfl (lw_best hb hi hL hI kont)
  | 13, _ => exact X_tableIn (M := mL_law) (off := 913) (tgt := 953) dL_law_40 (by decide) (by decide) rfl rfl (lw_letter hb hi hL hI kont)
  | 14, _ => exact X_tableIn (M := mL_law) (off := 993) (tgt := 1033) dL_law_40 (by decide) (by decide) rfl rfl (lw_count hb hi hL hI kont)
  | 15, _ => exact X_tableOut (M := mL_law) (tgt := 1089) dL_law_40 (.inr (by decide)) rfl (kont P _ _ _ hI.up)
  | u + 16, hu => exact absurd hu (by omega)
theorem lw_loop {b : Nat} (hb : b = w.z) (hL : w.2.2.2.2.2.1 ≤ 3072) : ∀ n i, w.2.2.2.2.2.1 ≤ i + n → i ≤ 3072 → ∀ P l5 l6 l7, LI P b i → X w mL_law 200 xQ1 23 (lls w b i l5 l6 l7) [] P := by
  intro n
  induction n with
  | zero =>
    intro i h1 h2 P l5 l6 l7 hI
    refine sL_law_23 (sL_law_25 (sL_law_26 (sL_law_27 (sL_law_29 (sL_law_30 (fun _ => ?_) (fun z => ?_))))))
    · exact sL_law_1095 (sL_law_1096 (.inr rfl) rfl)
    · exact absurd ((lt6 (by omega) (by omega)).mpr (by omega)) z
  | succ n ih =>
    intro i h1 h2 P l5 l6 l7 hI
    refine sL_law_23 (sL_law_25 (sL_law_26 (sL_law_27 (sL_law_29 (sL_law_30 (fun _ => ?_) (fun z => ?_))))))
    · exact sL_law_1095 (sL_law_1096 (.inr rfl) rfl)
    · have hi : i + 6 ≤ w.2.2.2.2.2.1 := Nat.le_of_not_lt (fun y => z ((lt6 (by omega) (by omega)).mpr y))
      refine sL_law_33 (sL_law_34 (sL_law_36_s (vp_in_nI (by omega) (by omega)) (sL_law_37 (sL_law_39 ?_))))
      obtain ⟨u, hu, e⟩ := and15 (w.2.2.2.2.2.2 (nI i).toNatClampNeg)
      rw [e]
      refine lw_op hb hi hL hI (fun P' l5 l6 l7 hI' => ?_) u hu
      refine sL_law_1089 rfl (sL_law_1092 ?_)
      rw [show nI i + 6 = nI (i + 6) from nI_add (a := i) (b := 6)]
      exact ih (i + 6) (by omega) (by omega) P' l5 l6 l7 hI'
theorem lw_z : mZ mF0 zI 0 0 Lz := ⟨rfl, rfl, Nat.zero_le _, rfl, by decide, ⟨⟨rfl, Nat.zero_le _, fun i h => absurd h (Nat.not_lt_zero _), fun i j h => absurd h (Nat.not_lt_zero _), fun k h => absurd h (Nat.not_lt_zero _)⟩, rfl, fun k h => absurd h (Nat.not_lt_zero _), fun k h => absurd h (Nat.not_lt_zero _)⟩, Nat.zero_le _, Nat.zero_le _, fun i h => absurd h (Nat.not_lt_zero _), fun i j h => absurd h (Nat.not_lt_zero _), fun k h => absurd h (Nat.not_lt_zero _), fun k h => absurd h (Nat.not_lt_zero _)⟩
theorem lw_all (w : xWd) (hL : w.2.2.2.2.2.1 ≤ 3072) : X w xMlaw 200 xQ1 0 [some (.ref (w.ad 0)), none, none, none, none, none, none, none] [] (xP0 w) := by
  show X w mL_law 200 xQ1 0 [some (.ref (w.ad 0)), none, none, none, none, none, none, none] [] (xP0 w)
  have e0 : (xP0 w).2.1 = w.z := rfl
  have e1 : (xP0 w).2.2 = 0 := rfl
  generalize xP0 w = P0 at e0 e1
  refine sL_law_0 (by omega) (by omega) ?_
  rw [e0]
  have g1 : (xal P0 (xO 8 [.null, .int 0, .null, .null, .null, .null]) 6).1 w.z = some (xO 8 [.null, .int 0, .null, .null, .null, .null]) := by rw [← e0]; exact xal_s
  have g2 : (xal P0 (xO 8 [.null, .int 0, .null, .null, .null, .null]) 6).2.1 = w.z + 1 := by rw [← e0]; rfl
  have g3 : (xal P0 (xO 8 [.null, .int 0, .null, .null, .null, .null]) 6).2.2 = 6 := by show P0.2.2 + 6 = 6; omega
  generalize xal P0 (xO 8 [.null, .int 0, .null, .null, .null, .null]) 6 = P1 at g1 g2 g3
  refine sL_law_3 rfl (sL_law_4_r (ble rfl) (c_libInit (d := 195) g1 g2 (by omega) (by omega)) (fun P2 q => ?_))
  obtain ⟨hc, z2, y2, -⟩ := q
  refine sL_law_7 rfl (sL_law_8 (by omega) (by omega) ?_)
  have f1 : (xal P2 (xO 9 [.int 0, .int 0, .null, .int 0, .null, .null, .null, .null, .null, .null, .null, .null, .null, .null, .null, .null, .null, .null, .null, .null, .null, .null, .null, .int 0, .int 0, .int 0, .long 0, .int 0, .int 0, .int 0, .int 0, .null, .int 0, .null, .int 0, .null, .null]) 37).1 (w.z + 335) = some (xO 9 [.int 0, .int 0, .null, .int 0, .null, .null, .null, .null, .null, .null, .null, .null, .null, .null, .null, .null, .null, .null, .null, .null, .null, .null, .null, .int 0, .int 0, .int 0, .long 0, .int 0, .int 0, .int 0, .int 0, .null, .int 0, .null, .int 0, .null, .null]) := by rw [← z2]; exact xal_s
  have f2 : (xal P2 (xO 9 [.int 0, .int 0, .null, .int 0, .null, .null, .null, .null, .null, .null, .null, .null, .null, .null, .null, .null, .null, .null, .null, .null, .null, .null, .null, .int 0, .int 0, .int 0, .long 0, .int 0, .int 0, .int 0, .int 0, .null, .int 0, .null, .int 0, .null, .null]) 37).2.1 = w.z + 335 + 1 := by rw [← z2]; rfl
  have f3 : (xal P2 (xO 9 [.int 0, .int 0, .null, .int 0, .null, .null, .null, .null, .null, .null, .null, .null, .null, .null, .null, .null, .null, .null, .null, .null, .null, .null, .null, .int 0, .int 0, .int 0, .long 0, .int 0, .int 0, .int 0, .int 0, .null, .int 0, .null, .int 0, .null, .null]) 37).2.2 = P2.2.2 + 37 := rfl
  have f4 : ∀ a, a < w.z + 335 → (xal P2 (xO 9 [.int 0, .int 0, .null, .int 0, .null, .null, .null, .null, .null, .null, .null, .null, .null, .null, .null, .null, .null, .null, .null, .null, .null, .null, .null, .int 0, .int 0, .int 0, .long 0, .int 0, .int 0, .int 0, .int 0, .null, .int 0, .null, .int 0, .null, .null]) 37).1 a = P2.1 a := fun a ha => xal_n (by omega) rfl
  rw [z2]
  generalize xal P2 (xO 9 [.int 0, .int 0, .null, .int 0, .null, .null, .null, .null, .null, .null, .null, .null, .null, .null, .null, .null, .null, .null, .null, .null, .null, .null, .null, .int 0, .int 0, .int 0, .long 0, .int 0, .int 0, .int 0, .int 0, .null, .int 0, .null, .int 0, .null, .null]) 37 = P3 at f1 f2 f3 f4
  refine sL_law_11 rfl (sL_law_12_r (ble rfl) (c_modInit f1 f2 (by omega) (by omega)) (fun P4 q => ?_))
  obtain ⟨hm, z4, y4, b4⟩ := q
  refine sL_law_15 rfl (sL_law_16 (sL_law_17 (N := 1) (by decide) rfl (by decide) (by omega) (by omega) ?_))
  have k1 : (xal P4 (xJ 1 (fun _ => 0)) 1).1 (w.z + 360) = some (xJ 1 (fun _ => 0)) := by rw [show w.z + 360 = P4.2.1 by omega]; exact xal_s
  have k2 : (xal P4 (xJ 1 (fun _ => 0)) 1).2.1 = w.z + 361 := by show P4.2.1 + 1 = _; omega
  have k3 : (xal P4 (xJ 1 (fun _ => 0)) 1).2.2 = P4.2.2 + 1 := rfl
  have k4 : ∀ a, a < w.z + 360 → (xal P4 (xJ 1 (fun _ => 0)) 1).1 a = P4.1 a := fun a ha => xal_n (by omega) rfl
  rw [show P4.2.1 = w.z + 360 by omega]
  generalize xal P4 (xJ 1 (fun _ => 0)) 1 = P5 at k1 k2 k3 k4
  refine sL_law_19 rfl (sL_law_20 (sL_law_21 rfl ?_))
  refine lw_loop rfl hL 3072 0 (by omega) (by omega) P5 _ _ _ ?_
  exact ⟨_, _, zI, zI, 0, Lz, tz, Lz, mF0, 0, fun _ => 0, zI, hc.cg (fun a p q => (k4 a (by omega)).trans ((b4 a (by omega)).trans (f4 a (by omega)))) (by omega), fun r hr => (k4 _ (by omega)).trans (hm r hr), lw_z, fun j hj => rfl, k1, by omega, by omega, by omega⟩
end RT
