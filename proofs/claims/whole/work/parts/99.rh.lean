section RH
variable {w : xWd} {d : Nat} {P P1 P2 : xH} {b S S' n q k : Nat} {T : Nat → Int32} {t : tSt} {L L2 : liT} {f : Nat → Int32}
theorem xk_1 : Cond.classLink RX10 50 xISE ∈ lw_tbl := List.mem_of_getElem? (i := 347) (by decide +kernel)
theorem xk_2 : Cond.castable xISE xISE ∈ lw_tbl := List.mem_of_getElem? (i := 440) (by decide +kernel)
theorem xk_3 : Cond.classLink RL 13 xIOE ∈ lw_tbl := List.mem_of_getElem? (i := 704) (by decide +kernel)
theorem xk_4 : Cond.castable xIOE xIOE ∈ lw_tbl := List.mem_of_getElem? (i := 718) (by decide +kernel)
theorem xk_5 : Cond.classLink RL 30 xIAE ∈ lw_tbl := List.mem_of_getElem? (i := 770) (by decide +kernel)
theorem xk_6 : Cond.castable xIAE xIAE ∈ lw_tbl := List.mem_of_getElem? (i := 778) (by decide +kernel)
theorem r_text {ta0 : Nat} {l0 s0 e0 k0 : Int32} (hR : P.1 (b + 162) = some (xO 3 [.ref (b + 163), .ref (b + 165), .ref S])) (hW : P.1 (b + 163) = some (xO 7 [.ref ta0, .int l0, .int s0, .int e0, .int k0])) (hT : P.1 (b + 1) = some (xA 2 1400 T)) (hM : pT P (b + 165) t) (hS : pSh P S L) (hn : n ≤ 1400) (hS2 : S = b + 2 ∨ S = b + 170) (hr : P.2.1 + 1 ≤ w.z + 601024 ∧ P.2.2 + 6 ≤ 7293034) (ht : t.1 ≤ 16) (hw : wS L) :
    xC w (d + 8) mX5_readText [.ref (b + 162), .ref (b + 1), .int (nI n)] P (rO w b S T n P (bnd (rAll (tkOf T n) L t) (fun x => .ok (none, x.2.2, x.2.1, x.1)))) := by
  refine xC_of (by decide) (ble rfl) (ls := [some (.ref (b + 162)), some (.ref (b + 1)), some (.int (nI n)), none]) rfl ?_
  have hO := hS.1.1
  refine sX5_readText_0 (sX5_readText_1 (by assumption) (by rfl) (sX5_readText_4 (ble rfl) hO (c_sclear hS.1) ?_))
  have K : ∀ a, a ≠ S → (xs P S (sO S 0 0)).1 a = P.1 a := fun a ha => xs_n ha rfl
  have hR1 : (xs P S (sO S 0 0)).1 (b + 162) = some (xO 3 [.ref (b + 163), .ref (b + 165), .ref S]) := (K _ (by omega)).trans hR
  have hW1 : (xs P S (sO S 0 0)).1 (b + 163) = some (xO 7 [.ref ta0, .int l0, .int s0, .int e0, .int k0]) := (K _ (by omega)).trans hW
  have hT1 : (xs P S (sO S 0 0)).1 (b + 1) = some (xA 2 1400 T) := (K _ (by omega)).trans hT
  refine sX5_readText_7 (sX5_readText_8 (by assumption) (by rfl) (sX5_readText_11 (sX5_readText_12 (sX5_readText_13 (ble rfl) hW1 (c_open hW1 hT1 hn (by omega)) ?_))))
  have K2 : ∀ a, a ≠ b + 163 → a ≠ S → (xs (xs P S (sO S 0 0)) (b + 163) (wO (b + 1) n (nI (tkS T n 0)) (nI (tkE T n (tkS T n 0))) (nI (tkK T n (tkS T n 0) (tkE T n (tkS T n 0)))))).1 a = P.1 a := fun a h1 h2 => (xs_n h1 rfl).trans (K a h2)
  have h0 : rP w (xs (xs P S (sO S 0 0)) (b + 163) (wO (b + 1) n (nI (tkS T n 0)) (nI (tkE T n (tkS T n 0))) (nI (tkK T n (tkS T n 0) (tkE T n (tkS T n 0)))))) b S T n 0 t (0, L.tn, L.ts, 0, L.cs) := by
    refine ⟨(K2 _ (by omega) (by omega)).trans hR, xs_s, (K2 _ (by omega) (by omega)).trans hT, hM.cg (fun i a c => K2 _ (by omega) (by omega)), ⟨?_, fun j hj => (hS.2.1 j hj).cg (fun i a c => K2 _ (by omega) (by omega)), fun j hj => (hS.2.2 j hj).cg (fun i a c => K2 _ (by omega) (by omega))⟩, hn, Nat.zero_le _, hS2, hr, ht, by show 0 ≤ 12; omega, by show 0 ≤ 12; omega, hw.2.2⟩
    exact ⟨xs_n (by omega) xs_s, (K2 _ (by omega) (by omega)).trans hS.1.2.1, (K2 _ (by omega) (by omega)).trans hS.1.2.2.1, (K2 _ (by omega) (by omega)).trans hS.1.2.2.2⟩
  have F0 : rF P (xs (xs P S (sO S 0 0)) (b + 163) (wO (b + 1) n (nI (tkS T n 0)) (nI (tkE T n (tkS T n 0))) (nI (tkK T n (tkS T n 0) (tkE T n (tkS T n 0)))))) b S := ⟨rfl, fun a ha => K2 a (by omega) (by omega)⟩
  generalize xs (xs P S (sO S 0 0)) (b + 163) (wO (b + 1) n (nI (tkS T n 0)) (nI (tkE T n (tkS T n 0))) (nI (tkK T n (tkS T n 0) (tkE T n (tkS T n 0))))) = P0 at h0 F0 ⊢
  have Lp : ∀ m i (L : liT) t q P1, i + m = 1400 → rP w P1 b S T n q t L → rF P P1 b S → X w mX5_readText (d + 8) (rO w b S T n P (bnd (rText (tkOf T n) m L t q) (fun x => .ok (none, x.2.2, x.2.1, x.1)))) 18 [some (.ref (b + 162)), some (.ref (b + 1)), some (.int (nI n)), some (.int (nI i))] [] P1 := by
    intro m
    induction m with
    | zero =>
      intro i L t q P1 hi h1 F1
      refine sX5_readText_18 (sX5_readText_19 (sX5_readText_22 (fun _ => ?_) (fun z => absurd (nI_le (a := 1400) (by omega) (by omega)) z)))
      refine sX5_readText_76 ⟨rfl, h1, F1⟩
    | succ m ih =>
      intro i L t q P1 hi h1 F1
      obtain ⟨hR1, hW1, _, _, _, _, h7, _, hr1, _⟩ := id h1
      have h4 := sK_le T h7
      have Nx : ∀ (x : liT × tSt × Nat) P2, rP w P2 b S T n x.2.2 x.2.1 x.1 → rF P P2 b S → X w mX5_readText (d + 8) (rO w b S T n P (bnd (rText (tkOf T n) m x.1 x.2.1 x.2.2) (fun x => .ok (none, x.2.2, x.2.1, x.1)))) 70 [some (.ref (b + 162)), some (.ref (b + 1)), some (.int (nI n)), some (.int (nI i))] [] P2 := by
        intro x P2 h2 F2
        refine sX5_readText_70 rfl (sX5_readText_73 ?_)
        rw [nI_1]
        exact ih (i + 1) x.1 x.2.1 x.2.2 P2 (by omega) h2 F2
      refine sX5_readText_18 (sX5_readText_19 (sX5_readText_22 (fun z => absurd z (nI_ge (b := 1400) (by omega) (by omega))) (fun _ => ?_)))
      refine sX5_readText_25 (sX5_readText_26 (by assumption) (by rfl) (sX5_readText_29 (by assumption) (by rfl) (sX5_readText_32 (fun z => ?_) (fun z => ?_))))
      · rw [show rText (tkOf T n) (m + 1) L t q = .ok (L, t, q) from if_pos (show sK T n q = 0 from (nI_eq (b := 0) (by omega) (by omega)).mp z)]
        refine sX5_readText_76 ⟨rfl, h1, F1⟩
      have z : ¬ sK T n q = 0 := fun y => z (by rw [y]; rfl)
      refine sX5_readText_35 (sX5_readText_36 (by assumption) (by rfl) (sX5_readText_39 (sX5_readText_41 (ble rfl) hW1 (w_is (i := 0) h1 (by decide)) (sX5_readText_44 (fun y => ?_) (fun y => ?_)))))
      rotate_left
      · rw [show rText (tkOf T n) (m + 1) L t q = bnd (rTable (tkOf T n) L q) (fun x => rText (tkOf T n) m x.1 t x.2) from (if_neg z).trans (if_pos y)]
        match g : rTable (tkOf T n) L q with
        | .error s =>
          refine sX5_readText_47 (sX5_readText_48_g (ble rfl) hR1 (rO_er (r_table h1) (s := s) (by rw [g]; rfl)) (fun _ _ z => (rE.no z).elim) (fun _ _ z => Xt_out rfl (z.up F1)))
        | .ok x =>
          refine sX5_readText_47 (sX5_readText_48_r (ble rfl) hR1 (rO_ok (r_table h1) (x := (none, x.2, t, x.1)) (by rw [g]; rfl)) (fun P2 h2 => ?_))
          refine sX5_readText_51 ?_
          exact Nx (x.1, t, x.2) P2 h2.1 (F1.tr h2.2)
      rw [show rText (tkOf T n) (m + 1) L t q = dmd (¬ sW T n q 4 = 0) (sS T n q) (bnd (rCell (tkOf T n) L t q) (fun x => rText (tkOf T n) m x.1 x.2.1 x.2.2)) from (if_neg z).trans (if_neg (fun v => v y))]
      refine sX5_readText_54 (sX5_readText_55 (by assumption) (by rfl) (sX5_readText_58 (sX5_readText_60 (ble rfl) hW1 (w_is (i := 4) h1 (by decide)) ?_)))
      by_cases i4 : sW T n q 4 = 0
      · rw [i4, dmd_f (fun v => v rfl)]
        refine sX5_readText_63_t (ble rfl) (c_dem0 hr1) (rE.mk' h1 F1)
      · rw [dmd_t i4]
        refine sX5_readText_63 (ble rfl) (c_dem1 i4) ?_
        match g : rCell (tkOf T n) L t q with
        | .error s =>
          refine sX5_readText_66 (sX5_readText_67_g (ble rfl) hR1 (rO_er (r_cell h1) (s := s) (by rw [g]; rfl)) (fun _ _ z => (rE.no z).elim) (fun _ _ z => Xt_out rfl (z.up F1)))
        | .ok x =>
          refine sX5_readText_66 (sX5_readText_67_r (ble rfl) hR1 (rO_ok (r_cell h1) (x := (none, x.2.2, x.2.1, x.1)) (by rw [g]; rfl)) (fun P2 h2 => ?_))
          exact Nx x P2 h2.1 (F1.tr h2.2)
  refine sX5_readText_16 (sX5_readText_17 rfl ?_)
  exact Lp 1400 0 _ t 0 P0 rfl h0 F0
/-! THE OBJECT -/
def cZ (P : xH) (b S S' : Nat) (T : Nat → Int32) (n : Nat) (L : liT) (t : tSt) (L2 : liT) (f : Nat → Int32) : Prop :=
  P.1 b = some (xO 8 [.ref (b + 1), .int (nI n), .ref S, .ref (b + 162), .ref (b + 330), .ref (b + 334)]) ∧ P.1 (b + 1) = some (xA 2 1400 T) ∧ pSh P S L ∧ P.1 (b + 162) = some (xO 3 [.ref (b + 163), .ref (b + 165), .ref S']) ∧ (∃ ta0 l0 s0 e0 k0, P.1 (b + 163) = some (xO 7 [.ref ta0, .int l0, .int s0, .int e0, .int k0])) ∧ pT P (b + 165) t ∧ pSh P S' L2 ∧
  (∃ mi sf p1 p2, P.1 (b + 330) = some (xO 2 [.ref (b + 331), .ref (b + 332), .ref (b + 333), .int mi]) ∧ P.1 (b + 331) = some (xA 0 6 sf) ∧ P.1 (b + 332) = some (xJ 128 p1) ∧ P.1 (b + 333) = some (xJ 128 p2)) ∧
  P.1 (b + 334) = some (xA 0 12 f) ∧ n ≤ 1400 ∧ ((S = b + 2 ∧ S' = b + 170) ∨ (S = b + 170 ∧ S' = b + 2)) ∧ wS L ∧ wS L2 ∧ t.1 ≤ 16 ∧ b + 335 ≤ P.2.1
theorem cZ.cg (h : cZ P b S S' T n L t L2 f) (k : ∀ a, b ≤ a → a < b + 335 → P1.1 a = P.1 a) (hz : b + 335 ≤ P1.2.1) : cZ P1 b S S' T n L t L2 f := by
  obtain ⟨h1, h2, h3, h4, ⟨ta0, l0, s0, e0, k0, h5⟩, h6, h7, ⟨mi, sf, p1, p2, m1, m2, m3, m4⟩, h9, h10, h11, h12, h13, h14, h15⟩ := h
  exact ⟨(k _ (by omega) (by omega)).trans h1, (k _ (by omega) (by omega)).trans h2, h3.cg (fun i a c => k _ (by omega) (by omega)), (k _ (by omega) (by omega)).trans h4, ⟨ta0, l0, s0, e0, k0, (k _ (by omega) (by omega)).trans h5⟩, h6.cg (fun i a c => k _ (by omega) (by omega)), h7.cg (fun i a c => k _ (by omega) (by omega)), ⟨mi, sf, p1, p2, (k _ (by omega) (by omega)).trans m1, (k _ (by omega) (by omega)).trans m2, (k _ (by omega) (by omega)).trans m3, (k _ (by omega) (by omega)).trans m4⟩, (k _ (by omega) (by omega)).trans h9, h10, h11, h12, h13, h14, hz⟩
/-- nothing is different outside the object but one thrown exception -/
def cF (P P1 : xH) (b : Nat) : Prop := (∀ a, a < P.2.1 → ¬ (b ≤ a ∧ a < b + 335) → P1.1 a = P.1 a) ∧ P.2.1 ≤ P1.2.1 ∧ P1.2.1 ≤ P.2.1 + 1 ∧ P1.2.2 ≤ P.2.2 + 6
theorem cF.rf : cF P P b := ⟨fun _ _ _ => rfl, by omega, by omega, by omega⟩
theorem cF.of (h2 : P1.2 = P.2) (k : ∀ a, ¬ (b ≤ a ∧ a < b + 335) → P1.1 a = P.1 a) : cF P P1 b := ⟨fun a _ ha => k a ha, by rw [h2]; omega, by rw [h2]; omega, by rw [h2]; omega⟩
theorem cF.ex {j : Nat} (h2 : P1.2 = P.2) (k : ∀ a, ¬ (b ≤ a ∧ a < b + 335) → P1.1 a = P.1 a) : cF P (xEx P1 j) b := ⟨fun a hl ha => xal_n (by rw [h2]; omega) (k a ha), by show P.2.1 ≤ P1.2.1 + 1; rw [h2]; omega, by show P1.2.1 + 1 ≤ _; rw [h2]; omega, by show P1.2.2 + 6 ≤ _; rw [h2]; omega⟩
theorem c_place {s0 : Int32} {ta0 : Nat} {l0 e0 k0 : Int32} (hR : P.1 (b + 162) = some (xO 3 [.ref (b + 163), .ref (b + 165), .ref S])) (hW : P.1 (b + 163) = some (xO 7 [.ref ta0, .int l0, .int s0, .int e0, .int k0])) : xC w d mX5_place [.ref (b + 162)] P (xRet (some (.int s0)) P) := by
  refine xC_of (by decide) (ble rfl) (ls := [some (.ref (b + 162))]) rfl ?_
  refine sX5_place_0 (sX5_place_1 (by assumption) (by rfl) (sX5_place_4 (by assumption) (by rfl) (sX5_place_7 ⟨rfl, rfl⟩)))
theorem c_exchange (hR : P.1 (b + 162) = some (xO 3 [.ref (b + 163), .ref (b + 165), .ref S])) : xC w d mX5_exchange [.ref (b + 162), .ref S'] P (xRet (some (.ref S)) (xs P (b + 162) (xO 3 [.ref (b + 163), .ref (b + 165), .ref S']))) := by
  refine xC_of (by decide) (ble rfl) (ls := [some (.ref (b + 162)), some (.ref S'), none]) rfl ?_
  refine sX5_exchange_0 (sX5_exchange_1 (by assumption) (by rfl) (sX5_exchange_4 rfl (sX5_exchange_5 (sX5_exchange_6 (sX5_exchange_7 hR (ble rfl) (sX5_exchange_10 (sX5_exchange_11 ⟨rfl, rfl⟩)))))))
theorem c_read (h : cZ P b S S' T n L t L2 f) (hr : P.2.1 + 1 ≤ w.z + 601024 ∧ P.2.2 + 6 ≤ 7293034) : xC w (d + 9) mX10_read [.ref b] P (fun oc P' => oc = .returned (some (.int (rdV (rAll (tkOf T n) L2 t)))) ∧ (∃ S1 S2 t3 L3, cZ P' b S1 S2 T 0 (rdL L (rAll (tkOf T n) L2 t)) t3 L3 f) ∧ cF P P' b) := by
  obtain ⟨h1, h2, h3, h4, ⟨ta0, l0, s0, e0, k0, h5⟩, h6, h7, ⟨mi, sf, p1, p2, m1, m2, m3, m4⟩, h9, h10, h11, h12, h13, h14, h15⟩ := id h
  have hS' : S' = b + 2 ∨ S' = b + 170 := by omega
  refine xC_of (by decide) (ble rfl) (ls := [some (.ref b), none, none]) rfl ?_
  refine sX10_read_0 (sX10_read_1 (by assumption) (by rfl) (sX10_read_4 rfl (sX10_read_5 (sX10_read_6 (sX10_read_7 h1 (ble rfl) ?_)))))
  show X w mX10_read (d + 9) _ 10 _ [] (xs P b (xO 8 [.ref (b + 1), .int 0, .ref S, .ref (b + 162), .ref (b + 330), .ref (b + 334)]))
  have K : ∀ a, a ≠ b → (xs P b (xO 8 [.ref (b + 1), .int 0, .ref S, .ref (b + 162), .ref (b + 330), .ref (b + 334)])).1 a = P.1 a := fun a ha => xs_n ha rfl
  have g1 : (xs P b (xO 8 [.ref (b + 1), .int 0, .ref S, .ref (b + 162), .ref (b + 330), .ref (b + 334)])).1 b = some (xO 8 [.ref (b + 1), .int 0, .ref S, .ref (b + 162), .ref (b + 330), .ref (b + 334)]) := xs_s
  have hP2 : (xs P b (xO 8 [.ref (b + 1), .int 0, .ref S, .ref (b + 162), .ref (b + 330), .ref (b + 334)])).2 = P.2 := rfl
  have g4 := (K (b + 162) (by omega)).trans h4
  have rt := r_text (w := w) (d := d) (n := n) g4 ((K _ (by omega)).trans h5) ((K _ (by omega)).trans h2) (h6.cg (fun i a c => K _ (by omega))) (h7.cg (fun i a c => K _ (by omega))) h10 hS' (by rw [hP2]; exact hr) h14 h13
  generalize xs P b (xO 8 [.ref (b + 1), .int 0, .ref S, .ref (b + 162), .ref (b + 330), .ref (b + 334)]) = P0 at K g1 hP2 g4 rt ⊢
  -- what is left of the object behind the reading
  have A : ∀ P1, rF P0 P1 b S' → P1.2 = P.2 ∧ (∀ a, a ≠ b → ¬ (a = b + 163 ∨ (b + 165 ≤ a ∧ a < b + 170) ∨ (S' ≤ a ∧ a < S' + 160)) → P1.1 a = P.1 a) ∧ P1.1 b = some (xO 8 [.ref (b + 1), .int 0, .ref S, .ref (b + 162), .ref (b + 330), .ref (b + 334)]) := fun P1 F => ⟨F.1.trans hP2, fun a ha hb => (F.2 a hb).trans (K a ha), (F.2 b (by omega)).trans g1⟩
  match hR : rAll (tkOf T n) L2 t with
  | .error s =>
    refine sX10_read_10 (sX10_read_11 (by assumption) (by rfl) (sX10_read_14 (sX10_read_15 (by assumption) (by rfl) (sX10_read_18 (sX10_read_19_g (ble rfl) g4 (rO_er rt (s := s) (by rw [hR]; rfl)) (fun _ _ z => (rE.no z).elim) (fun q9 P9 z => ?_))))))
    obtain ⟨P1, q1, t1, L1, e1, rfl, hp, rfl, F1⟩ := z
    cases e1
    obtain ⟨a1, a2, a3⟩ := A P1 F1
    refine Xt_catch (k := 10) (x := (10, 22, 25, 50)) (suf := []) rfl (by decide) (by decide) xk_1 xk_2 xal_s rfl ?_
    obtain ⟨r1, r2, r3, r4, r5, r6, r7, r8, r9, r10, r11⟩ := hp
    have N : ∀ {a : Nat} {o : Option xE}, a < b + 335 → P1.1 a = o → (xEx P1 10).1 a = o := fun ha e => xal_n (by rw [a1]; omega) e
    have n1 := N (by omega) a3
    have n2 := N (by omega) r1
    refine sX10_read_25 rfl (sX10_read_26 (sX10_read_27 (sX10_read_28 (by assumption) (by rfl) (sX10_read_31 (ble rfl) n2 (c_place n2 (N (by omega) r2)) (sX10_read_34 (sX10_read_35 ⟨rfl, ⟨S, S', t1, L1, ?_⟩, ?_⟩))))))
    · exact ⟨n1, N (by omega) r3, h3.cg (fun i a c => N (by omega) (a2 i (by omega) (by omega))), n2, ⟨_, _, _, _, _, N (by omega) r2⟩, r4.cg (fun i a c => N (by omega) rfl), r5.cg (fun i a c => N (by omega) rfl), ⟨mi, sf, p1, p2, N (by omega) ((a2 _ (by omega) (by omega)).trans m1), N (by omega) ((a2 _ (by omega) (by omega)).trans m2), N (by omega) ((a2 _ (by omega) (by omega)).trans m3), N (by omega) ((a2 _ (by omega) (by omega)).trans m4)⟩, N (by omega) ((a2 _ (by omega) (by omega)).trans h9), by omega, h11, h12, r11, r10, by show b + 335 ≤ P1.2.1 + 1; rw [a1]; omega⟩
    · exact cF.ex a1 (fun a ha => a2 a (by omega) (by omega))
  | .ok x =>
    refine sX10_read_10 (sX10_read_11 (by assumption) (by rfl) (sX10_read_14 (sX10_read_15 (by assumption) (by rfl) (sX10_read_18 (sX10_read_19_r (ble rfl) g4 (rO_ok rt (x := (none, x.2.2, x.2.1, x.1)) (by rw [hR]; rfl)) (fun P1 hp => ?_))))))
    obtain ⟨hp, F1⟩ := hp
    obtain ⟨a1, a2, a3⟩ := A P1 F1
    obtain ⟨r1, r2, r3, r4, r5, r6, r7, r8, r9, r10, r11⟩ := hp
    refine sX10_read_22 (sX10_read_36 (sX10_read_37 (sX10_read_38 (by assumption) (by rfl) (sX10_read_41 (sX10_read_42 (by assumption) (by rfl) (sX10_read_45 (ble rfl) r1 (c_exchange r1) ?_))))))
    have c3 : (xs P1 (b + 162) (xO 3 [.ref (b + 163), .ref (b + 165), .ref S])).1 b = some (xO 8 [.ref (b + 1), .int 0, .ref S, .ref (b + 162), .ref (b + 330), .ref (b + 334)]) := xs_n (by omega) a3
    refine sX10_read_48 c3 (ble rfl) ?_
    show X w mX10_read (d + 9) _ 51 _ [] (xs (xs P1 (b + 162) (xO 3 [.ref (b + 163), .ref (b + 165), .ref S])) b (xO 8 [.ref (b + 1), .int 0, .ref S', .ref (b + 162), .ref (b + 330), .ref (b + 334)]))
    have M : ∀ {a : Nat} {o : Option xE}, a ≠ b → a ≠ b + 162 → P1.1 a = o → (xs (xs P1 (b + 162) (xO 3 [.ref (b + 163), .ref (b + 165), .ref S])) b (xO 8 [.ref (b + 1), .int 0, .ref S', .ref (b + 162), .ref (b + 330), .ref (b + 334)])).1 a = o := fun h1 h2 e => xs_n h1 (xs_n h2 e)
    have d1 : (xs (xs P1 (b + 162) (xO 3 [.ref (b + 163), .ref (b + 165), .ref S])) b (xO 8 [.ref (b + 1), .int 0, .ref S', .ref (b + 162), .ref (b + 330), .ref (b + 334)])).1 b = some (xO 8 [.ref (b + 1), .int 0, .ref S', .ref (b + 162), .ref (b + 330), .ref (b + 334)]) := xs_s
    have d2 := M (by omega) (by omega) r5.1.1
    refine sX10_read_51 (sX10_read_52 (by assumption) (by rfl) (sX10_read_55 (by assumption) (by rfl) (sX10_read_58 ⟨rfl, ⟨S', S, x.2.1, L, d1, M (by omega) (by omega) r3, r5.cg (fun i a c => M (by omega) (by omega) rfl), xs_n (by omega) xs_s, ⟨_, _, _, _, _, M (by omega) (by omega) r2⟩, r4.cg (fun i a c => M (by omega) (by omega) rfl), h3.cg (fun i a c => M (by omega) (by omega) (a2 i (by omega) (by omega))), ⟨mi, sf, p1, p2, M (by omega) (by omega) ((a2 _ (by omega) (by omega)).trans m1), M (by omega) (by omega) ((a2 _ (by omega) (by omega)).trans m2), M (by omega) (by omega) ((a2 _ (by omega) (by omega)).trans m3), M (by omega) (by omega) ((a2 _ (by omega) (by omega)).trans m4)⟩, M (by omega) (by omega) ((a2 _ (by omega) (by omega)).trans h9), by omega, by omega, r11, h12, r10, by show b + 335 ≤ P1.2.1; rw [a1]; omega⟩, cF.of a1 (fun a ha => M (by omega) (by omega) (a2 a (by omega) (by omega)))⟩)))
end RH
