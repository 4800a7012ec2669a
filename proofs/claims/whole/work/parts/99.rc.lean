section RC
variable {w : xWd} {d : Nat} {P P1 P2 : xH} {b S n q : Nat} {T : Nat → Int32} {t : tSt} {L : liT}
theorem upB_id {k : Nat} : upB L k (L.ts k) = L := by
  unfold upB
  rw [upT_id]
theorem r_table (h : rP w P b S T n q t L) : xC w (d + 6) mX5_readTable [.ref (b + 162)] P (rO w b S T n P (bnd (rTable (tkOf T n) L q) (fun x => .ok (none, x.2, t, x.1)))) := by
  obtain ⟨hR, hW, _, _, _, _, _, _, hr, _⟩ := id h
  refine xC_of (by decide) (ble rfl) (ls := [some (.ref (b + 162)), none, none, none]) rfl ?_
  refine sX5_readTable_0 (sX5_readTable_1 (by assumption) (by rfl) (sX5_readTable_4_r (ble rfl) hW (w_step h) (fun P1 h1 => ?_)))
  obtain ⟨h1, F1⟩ := h1
  have e1 : rTable (tkOf T n) L q = dmd (¬ sN T n (sE T n q) = 0 ∧ L.tc < 12) (sS T n (sE T n q)) (dmd (fnd L.tn (sN T n (sE T n q)) 0 L.tc = -1) (sS T n (sE T n q))
    (bnd (rTab (tkOf T n) (L.ts L.tc) (sE T n (sE T n q))) (fun x => .ok ((L.tc + 1, uL L.tn L.tc (sN T n (sE T n q)), upT L.ts L.tc x.1, L.cc, L.cs), x.2)))) := rfl
  rw [e1]
  clear e1
  generalize sE T n q = q1 at h1 ⊢
  obtain ⟨hR1, hW1, _, _, hS1, _, h7, _, hr1, _, hw1⟩ := id h1
  have hO := hS1.1.1
  have hN := hS1.1.2.1
  have htc := hw1.1
  refine sX5_readTable_7 (sX5_readTable_8 (by assumption) (by rfl) (sX5_readTable_11 (ble rfl) hW1 (w_name h1) (sX5_readTable_14 rfl (sX5_readTable_15 (sX5_readTable_16 (sX5_readTable_17 (sX5_readTable_18 (fun z => ?_) (fun z => ?_))))))))
  · rw [lg_cmp_eq] at z
    rw [dmd_f (fun y => y.1 z)]
    refine sX5_readTable_37 (sX5_readTable_38_t (ble rfl) (c_dem0 hr1) (rE.mk' h1 F1))
  rw [lg_cmp_eq] at z
  refine sX5_readTable_21 (sX5_readTable_22 (by assumption) (by rfl) (sX5_readTable_25 (by assumption) (by rfl) (sX5_readTable_28 (sX5_readTable_30 (fun y => ?_) (fun y => ?_)))))
  · have y : ¬ L.tc < 12 := fun x => absurd y (nI_ge (b := 12) x (by omega))
    rw [dmd_f (fun x => y x.2)]
    refine sX5_readTable_37 (sX5_readTable_38_t (ble rfl) (c_dem0 hr1) (rE.mk' h1 F1))
  have y : L.tc < 12 := by
    rcases Nat.lt_or_ge L.tc 12 with x | x
    · exact x
    · exact absurd (nI_le (a := 12) x (by omega)) y
  rw [dmd_t ⟨z, y⟩]
  refine sX5_readTable_33 (sX5_readTable_34 (sX5_readTable_38 (ble rfl) (c_dem1 (by decide)) (sX5_readTable_41 (sX5_readTable_42 (sX5_readTable_43 (by assumption) (by rfl) (sX5_readTable_46 (by assumption) (by rfl) (sX5_readTable_49 (sX5_readTable_50 (by assumption) (by rfl) (sX5_readTable_53 (by assumption) (by rfl) (sX5_readTable_56 (ble rfl) (c_find L.tn _ hN (by omega) (by omega)) (sX5_readTable_59 (sX5_readTable_60 (fun x => ?_) (fun x => ?_)))))))))))))
  · rw [dmd_f x]
    refine sX5_readTable_67 (sX5_readTable_68_t (ble rfl) (c_dem0 hr1) (rE.mk' h1 F1))
  rw [dmd_t x]
  refine sX5_readTable_63 (sX5_readTable_64 (sX5_readTable_68 (ble rfl) (c_dem1 (by decide)) (sX5_readTable_71 (sX5_readTable_72 (by assumption) (by rfl) (sX5_readTable_75 (sX5_readTable_76_r (ble rfl) hO (c_addTable (sN T n q1) hS1.1 y) (fun P2 h2 => ?_)))))))
  obtain ⟨hp2, hs2⟩ := h2
  have K : ∀ a, ¬ (S ≤ a ∧ a < S + 2) → P2.1 a = P1.1 a := hs2.2
  obtain ⟨h2, F2⟩ := h1.sh (L' := (L.tc + 1, uL L.tn L.tc (sN T n q1), L.ts, L.cc, L.cs)) ⟨hp2, fun j hj => (hS1.2.1 j hj).cg (fun i a c => K _ (by omega)), fun j hj => (hS1.2.2 j hj).cg (fun i a c => K _ (by omega))⟩ hs2.1 (fun a ha => K a (by omega)) ⟨by show L.tc + 1 ≤ 12; omega, hw1.2.1, hw1.2.2.1, hw1.2.2.2⟩
  have eL : ((L.tc + 1, uL L.tn L.tc (sN T n q1), L.ts, L.cc, L.cs) : liT) = upB (L.tc + 1, uL L.tn L.tc (sN T n q1), L.ts, L.cc, L.cs) L.tc (L.ts L.tc) := (upB_id (L := (L.tc + 1, uL L.tn L.tc (sN T n q1), L.ts, L.cc, L.cs)) (k := L.tc)).symm
  have eU : ∀ z : taT, ((L.tc + 1, uL L.tn L.tc (sN T n q1), upT L.ts L.tc z, L.cc, L.cs) : liT) = upB (L.tc + 1, uL L.tn L.tc (sN T n q1), L.ts, L.cc, L.cs) L.tc z := fun z => rfl
  rw [eL] at h2
  simp only [eU]
  clear eL eU
  generalize hL1 : ((L.tc + 1, uL L.tn L.tc (sN T n q1), L.ts, L.cc, L.cs) : liT) = L1 at h2 ⊢
  generalize L.ts L.tc = x0 at h2 ⊢
  generalize L.tc = k at y h2 ⊢
  have F02 := F1.tr F2
  have hR2 := h2.1
  have hW2 := h2.2.1
  refine sX5_readTable_79 rfl (sX5_readTable_80 (sX5_readTable_81 (by assumption) (by rfl) (sX5_readTable_84_r (ble rfl) hW2 (w_step h2) (fun P3 h3 => ?_))))
  obtain ⟨h3, F3⟩ := h3
  generalize sE T n q1 = q3 at h3 ⊢
  have F03 := F02.tr F3
  unfold rTab
  match hs : rSign (tkOf T n) 1 q3 with
  | .error s =>
    refine sX5_readTable_87 (sX5_readTable_88 (sX5_readTable_90_g (ble rfl) h3.1 (rO_er (r_sign (i := 1) h3 (by decide)) (s := s) (by rw [hs]; rfl)) (fun _ _ z => (rE.no z).elim) (fun _ _ z => Xt_out rfl (z.up F03))))
  | .ok q4 =>
  refine sX5_readTable_87 (sX5_readTable_88 (sX5_readTable_90_r (ble rfl) h3.1 (rO_ok (r_sign (i := 1) h3 (by decide)) (x := (none, q4, t, upB L1 k x0)) (by rw [hs]; rfl)) (fun P4 h4 => ?_)))
  obtain ⟨h4, F4⟩ := h4
  have F04 := F03.tr F4
  have hB4 := h4.2.2.2.2.1.2.1 k y
  have hT4 := hB4.1
  have a4 := r_axis (d := d) (tb_sl (L := L1) (x := x0) y) (f := x0.1) (z := x0.2.1) h4
  show X w mX5_readTable (d + 6) (rO w b S T n P (bnd (bnd (bnd (rAxis (tkOf T n) x0.1 q4) (fun x => bnd (rSign (tkOf T n) 2 x.2.2) (fun q2 => bnd (rAxis (tkOf T n) x0.2.2.1 q2) (fun y => bnd (rSign (tkOf T n) 2 y.2.2) (fun q3 => bnd (rNums (tkOf T n) (x.2.1 * y.2.1) 0 x0.2.2.2.2 q3) (fun v => bnd (rSign (tkOf T n) 3 v.2) (fun q4 => .ok ((x.1, x.2.1, y.1, y.2.1, v.1), q4)))))))) (fun x => .ok (upB L1 k x.1, x.2))) (fun x => .ok (none, x.2, t, x.1)))) 93 _ _ _
  match hx1 : rAxis (tkOf T n) x0.1 q4 with
  | .error s =>
    refine sX5_readTable_93 (sX5_readTable_94 (sX5_readTable_95 (by assumption) (by rfl) (sX5_readTable_98_g (ble rfl) h4.1 (rO_er (r_axis (tb_sl (L := L1) (x := x0) y) (f := x0.1) (z := x0.2.1) h4) (s := s) (by rw [hx1]; rfl)) (fun _ _ z => (rE.no z).elim) (fun _ _ z => Xt_out rfl (z.up F04)))))
  | .ok x1 =>
  refine sX5_readTable_93 (sX5_readTable_94 (sX5_readTable_95 (by assumption) (by rfl) (sX5_readTable_98_r (ble rfl) h4.1 (rO_ok (r_axis (tb_sl (L := L1) (x := x0) y) (f := x0.1) (z := x0.2.1) h4) (x := (none, x1.2.2, t, upB L1 k (x1.1, x1.2.1, x0.2.2.1, x0.2.2.2.1, x0.2.2.2.2))) (by rw [hx1]; rfl)) (fun P5 h5 => ?_))))
  obtain ⟨h5, F5⟩ := h5
  have F05 := F04.tr F5
  obtain ⟨f1, sn, q5⟩ := x1
  have h5 : rP w P5 b S T n q5 t (upB L1 k (f1, sn, x0.2.2.1, x0.2.2.2.1, x0.2.2.2.2)) := h5
  show X w mX5_readTable (d + 6) (rO w b S T n P (bnd (bnd (bnd (rSign (tkOf T n) 2 q5) (fun q2 => bnd (rAxis (tkOf T n) x0.2.2.1 q2) (fun y => bnd (rSign (tkOf T n) 2 y.2.2) (fun q3 => bnd (rNums (tkOf T n) (sn * y.2.1) 0 x0.2.2.2.2 q3) (fun v => bnd (rSign (tkOf T n) 3 v.2) (fun q4 => .ok ((f1, sn, y.1, y.2.1, v.1), q4))))))) (fun x => .ok (upB L1 k x.1, x.2))) (fun x => .ok (none, x.2, t, x.1)))) 101 _ _ _
  match hs2 : rSign (tkOf T n) 2 q5 with
  | .error s =>
    refine sX5_readTable_101 (sX5_readTable_102 (sX5_readTable_104_g (ble rfl) h5.1 (rO_er (r_sign (i := 2) h5 (by decide)) (s := s) (by rw [hs2]; rfl)) (fun _ _ z => (rE.no z).elim) (fun _ _ z => Xt_out rfl (z.up F05))))
  | .ok q6 =>
  refine sX5_readTable_101 (sX5_readTable_102 (sX5_readTable_104_r (ble rfl) h5.1 (rO_ok (r_sign (i := 2) h5 (by decide)) (x := (none, q6, t, upB L1 k (f1, sn, x0.2.2.1, x0.2.2.2.1, x0.2.2.2.2))) (by rw [hs2]; rfl)) (fun P6 h6 => ?_)))
  obtain ⟨h6, F6⟩ := h6
  have F06 := F05.tr F6
  have hT6 := (h6.2.2.2.2.1.2.1 k y).1
  show X w mX5_readTable (d + 6) (rO w b S T n P (bnd (bnd (bnd (rAxis (tkOf T n) x0.2.2.1 q6) (fun y => bnd (rSign (tkOf T n) 2 y.2.2) (fun q3 => bnd (rNums (tkOf T n) (sn * y.2.1) 0 x0.2.2.2.2 q3) (fun v => bnd (rSign (tkOf T n) 3 v.2) (fun q4 => .ok ((f1, sn, y.1, y.2.1, v.1), q4)))))) (fun x => .ok (upB L1 k x.1, x.2))) (fun x => .ok (none, x.2, t, x.1)))) 107 _ _ _
  match hx2 : rAxis (tkOf T n) x0.2.2.1 q6 with
  | .error s =>
    refine sX5_readTable_107 (sX5_readTable_108 (sX5_readTable_109 (by assumption) (by rfl) (sX5_readTable_112_g (ble rfl) h6.1 (rO_er (r_axis (tb_ld (L := L1) (x := (f1, sn, x0.2.2.1, x0.2.2.2.1, x0.2.2.2.2)) y) (f := x0.2.2.1) (z := x0.2.2.2.1) h6) (s := s) (by rw [hx2]; rfl)) (fun _ _ z => (rE.no z).elim) (fun _ _ z => Xt_out rfl (z.up F06)))))
  | .ok x2 =>
  refine sX5_readTable_107 (sX5_readTable_108 (sX5_readTable_109 (by assumption) (by rfl) (sX5_readTable_112_r (ble rfl) h6.1 (rO_ok (r_axis (tb_ld (L := L1) (x := (f1, sn, x0.2.2.1, x0.2.2.2.1, x0.2.2.2.2)) y) (f := x0.2.2.1) (z := x0.2.2.2.1) h6) (x := (none, x2.2.2, t, upB L1 k (f1, sn, x2.1, x2.2.1, x0.2.2.2.2))) (by rw [hx2]; rfl)) (fun P7 h7' => ?_))))
  obtain ⟨h7', F7⟩ := h7'
  have F07 := F06.tr F7
  obtain ⟨f2, ln, q7⟩ := x2
  have h7' : rP w P7 b S T n q7 t (upB L1 k (f1, sn, f2, ln, x0.2.2.2.2)) := h7'
  show X w mX5_readTable (d + 6) (rO w b S T n P (bnd (bnd (bnd (rSign (tkOf T n) 2 q7) (fun q3 => bnd (rNums (tkOf T n) (sn * ln) 0 x0.2.2.2.2 q3) (fun v => bnd (rSign (tkOf T n) 3 v.2) (fun q4 => .ok ((f1, sn, f2, ln, v.1), q4))))) (fun x => .ok (upB L1 k x.1, x.2))) (fun x => .ok (none, x.2, t, x.1)))) 115 _ _ _
  match hs3 : rSign (tkOf T n) 2 q7 with
  | .error s =>
    refine sX5_readTable_115 (sX5_readTable_116 (sX5_readTable_118_g (ble rfl) h7'.1 (rO_er (r_sign (i := 2) h7' (by decide)) (s := s) (by rw [hs3]; rfl)) (fun _ _ z => (rE.no z).elim) (fun _ _ z => Xt_out rfl (z.up F07))))
  | .ok q8 =>
  refine sX5_readTable_115 (sX5_readTable_116 (sX5_readTable_118_r (ble rfl) h7'.1 (rO_ok (r_sign (i := 2) h7' (by decide)) (x := (none, q8, t, upB L1 k (f1, sn, f2, ln, x0.2.2.2.2))) (by rw [hs3]; rfl)) (fun P8 h8 => ?_)))
  obtain ⟨h8, F8⟩ := h8
  have F08 := F07.tr F8
  have hB8 := h8.2.2.2.2.1.2.1 k y
  have hw8 := h8.2.2.2.2.2.2.2.2.2.2.2.2.2 k y
  rw [show (upB L1 k (f1, sn, f2, ln, x0.2.2.2.2)).ts k = (f1, sn, f2, ln, x0.2.2.2.2) from upT_s] at hB8 hw8
  have hT8 := hB8.1
  have hA8 := hB8.2.1.1
  have hD8 := hB8.2.2.1.1
  have p16 := p44 hw8.1 hw8.2
  show X w mX5_readTable (d + 6) (rO w b S T n P (bnd (bnd (bnd (rNums (tkOf T n) (sn * ln) 0 x0.2.2.2.2 q8) (fun v => bnd (rSign (tkOf T n) 3 v.2) (fun q4 => .ok ((f1, sn, f2, ln, v.1), q4)))) (fun x => .ok (upB L1 k x.1, x.2))) (fun x => .ok (none, x.2, t, x.1)))) 121 _ _ _
  refine sX5_readTable_121 (sX5_readTable_122 (sX5_readTable_123 (by assumption) (by rfl) (sX5_readTable_126 (sX5_readTable_127 (by assumption) (by rfl) (sX5_readTable_130 (by assumption) (by rfl) (sX5_readTable_133 (sX5_readTable_134 (by assumption) (by rfl) (sX5_readTable_137 (by assumption) (by rfl) (sX5_readTable_140 ?_)))))))))
  rw [show nI (f1, sn, f2, ln, x0.2.2.2.2).2.1 * nI (f1, sn, f2, ln, x0.2.2.2.2).2.2.2.1 = nI (sn * ln) from pk_mul sn ln]
  have vl := tb_vl (w := w) (b := b) (S := S) (T := T) (n := n) (t := t) (L := L1) (x := (f1, sn, f2, ln, x0.2.2.2.2)) y
  match hx3 : rNums (tkOf T n) (sn * ln) 0 x0.2.2.2.2 q8 with
  | .error s =>
    refine sX5_readTable_141_g (ble rfl) h8.1 (rO_er (r_nums vl (f := x0.2.2.2.2) (by omega) p16 h8) (s := s) (by rw [hx3]; rfl)) (fun _ _ z => (rE.no z).elim) (fun _ _ z => Xt_out rfl (z.up F08))
  | .ok x3 =>
  refine sX5_readTable_141_r (ble rfl) h8.1 (rO_ok (r_nums vl (f := x0.2.2.2.2) (by omega) p16 h8) (x := (none, x3.2, t, upB L1 k (f1, sn, f2, ln, x3.1))) (by rw [hx3]; rfl)) (fun P9 h9 => ?_)
  obtain ⟨h9, F9⟩ := h9
  have F09 := F08.tr F9
  have h9 : rP w P9 b S T n x3.2 t (upB L1 k (f1, sn, f2, ln, x3.1)) := h9
  show X w mX5_readTable (d + 6) (rO w b S T n P (bnd (bnd (bnd (rSign (tkOf T n) 3 x3.2) (fun q4 => .ok ((f1, sn, f2, ln, x3.1), q4))) (fun x => .ok (upB L1 k x.1, x.2))) (fun x => .ok (none, x.2, t, x.1)))) 144 _ _ _
  match hs4 : rSign (tkOf T n) 3 x3.2 with
  | .error s =>
    refine sX5_readTable_144 (sX5_readTable_145 (sX5_readTable_147_g (ble rfl) h9.1 (rO_er (r_sign (i := 3) h9 (by decide)) (s := s) (by rw [hs4]; rfl)) (fun _ _ z => (rE.no z).elim) (fun _ _ z => Xt_out rfl (z.up F09))))
  | .ok q10 =>
  refine sX5_readTable_144 (sX5_readTable_145 (sX5_readTable_147_r (ble rfl) h9.1 (rO_ok (r_sign (i := 3) h9 (by decide)) (x := (none, q10, t, upB L1 k (f1, sn, f2, ln, x3.1))) (by rw [hs4]; rfl)) (fun P10 h10 => ?_)))
  refine sX5_readTable_150 ⟨rfl, h10.1, F09.tr h10.2⟩
end RC
