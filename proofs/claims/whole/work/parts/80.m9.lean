section Bits
theorem l64_b {a b : Int64} (h : ∀ i, a.toBitVec.getLsbD i = b.toBitVec.getLsbD i) : a = b := Int64.toBitVec_inj.mp (BitVec.eq_of_getLsbD_eq (fun i _ => h i))
theorem m1_b : (-1 : Int64).toBitVec = BitVec.allOnes 64 := by decide
theorem z_b : (0 : Int64).toBitVec = 0#64 := by decide
theorem i_1 (v M : Int64) : ((v &&& M) ^^^ -1) &&& M = (v ^^^ -1) &&& M := by
  refine l64_b (fun i => ?_)
  simp only [Int64.toBitVec_and, Int64.toBitVec_xor, BitVec.getLsbD_and, BitVec.getLsbD_xor]
  cases v.toBitVec.getLsbD i <;> cases M.toBitVec.getLsbD i <;> simp
theorem i_2 (v : Int64) : (v ^^^ -1) ^^^ -1 = v := by
  refine l64_b (fun i => ?_)
  simp only [Int64.toBitVec_xor, BitVec.getLsbD_xor]
  cases v.toBitVec.getLsbD i <;> cases (-1 : Int64).toBitVec.getLsbD i <;> rfl
theorem i_3 (v : Int64) : v ^^^ 0 = v := by
  refine l64_b (fun i => ?_)
  simp only [Int64.toBitVec_xor, BitVec.getLsbD_xor, z_b, BitVec.getLsbD_zero, Bool.xor_false]
theorem i_4 (a v M : Int64) : (a &&& M) &&& (v &&& M) = (a &&& v) &&& M := by
  refine l64_b (fun i => ?_)
  simp only [Int64.toBitVec_and, BitVec.getLsbD_and]
  cases v.toBitVec.getLsbD i <;> cases M.toBitVec.getLsbD i <;> simp
theorem i_5 (a v M : Int64) : (a &&& M) ^^^ (v &&& M) = (a ^^^ v) &&& M := by
  refine l64_b (fun i => ?_)
  simp only [Int64.toBitVec_and, Int64.toBitVec_xor, BitVec.getLsbD_and, BitVec.getLsbD_xor]
  cases v.toBitVec.getLsbD i <;> cases M.toBitVec.getLsbD i <;> simp
theorem i_6 (a v M : Int64) : (a &&& M) ||| (v &&& M) = (a ||| v) &&& M := by
  refine l64_b (fun i => ?_)
  simp only [Int64.toBitVec_and, Int64.toBitVec_or, BitVec.getLsbD_and, BitVec.getLsbD_or]
  cases v.toBitVec.getLsbD i <;> cases M.toBitVec.getLsbD i <;> simp
theorem i_7 (v : Int64) : -1 &&& v = v := by
  refine Int64.toBitVec_inj.mp ?_
  rw [Int64.toBitVec_and, m1_b, BitVec.allOnes_and]
theorem i_8 (v : Int64) : 0 ^^^ v = v := by
  refine l64_b (fun i => ?_)
  simp only [Int64.toBitVec_xor, BitVec.getLsbD_xor, z_b, BitVec.getLsbD_zero, Bool.false_xor]
theorem i_9 (v : Int64) : 0 ||| v = v := by
  refine l64_b (fun i => ?_)
  simp only [Int64.toBitVec_or, BitVec.getLsbD_or, z_b, BitVec.getLsbD_zero, Bool.false_or]
theorem i_10 (v : Int64) : v &&& 0 = 0 := by
  refine l64_b (fun i => ?_)
  simp only [Int64.toBitVec_and, BitVec.getLsbD_and, z_b, BitVec.getLsbD_zero, Bool.and_false]
theorem i_11 (v M : Int64) : (v &&& M) &&& M = v &&& M := by
  refine l64_b (fun i => ?_)
  simp only [Int64.toBitVec_and, BitVec.getLsbD_and]
  cases v.toBitVec.getLsbD i <;> cases M.toBitVec.getLsbD i <;> rfl
/-- b times turned -/
def nots (M : Int64) : Nat → Int64 → Int64
  | 0, v => v
  | b + 1, v => nots M b ((v ^^^ -1) &&& M)
def par (b : Nat) (u : Int64) : Prop := u = if b % 2 = 0 then 0 else -1
theorem nots_p (M : Int64) : ∀ b v u, par b u → nots M b (v &&& M) = (v ^^^ u) &&& M := by
  intro b
  induction b with
  | zero => intro v u h; rw [show u = 0 from h, i_3]; rfl
  | succ b ih =>
    intro v u h
    show nots M b (((v &&& M) ^^^ -1) &&& M) = _
    rw [i_1]
    have hp : u = if (b + 1) % 2 = 0 then 0 else -1 := h
    rcases Nat.mod_two_eq_zero_or_one b with hb | hb
    · rw [if_neg (by omega)] at hp
      rw [ih (v ^^^ -1) 0 (by unfold par; rw [if_pos hb]), i_3, hp]
    · rw [if_pos (by omega)] at hp
      rw [ih (v ^^^ -1) (-1) (by unfold par; rw [if_neg (by omega)]), i_2, hp, i_3]
theorem par_s {b : Nat} {u : Int64} (h : par b u) : par (b + 1) (u ^^^ -1) := by
  unfold par at *
  rw [h]
  rcases Nat.mod_two_eq_zero_or_one b with hb | hb
  · rw [if_pos hb, if_neg (by omega)]; decide
  · rw [if_neg (by omega), if_pos (by omega)]; decide
end Bits
section M9
variable {w : xWd} {d o : Nat} {F : mF} {T : Nat → Int32} {n : Nat}
variable {u k q tc : Nat} {c : ceT} {tn : Nat → Int64}
/-- only the word and the stacks are different -/
def eK (F F' : mF) : Prop := (∀ j, j ≠ 23 → j ≠ 24 → j ≠ 25 → j ≠ 27 → j ≠ 28 → j ≠ 32 → j ≠ 34 → F'.s j = F.s j) ∧ (∀ r, r ≠ 21 → F'.a r = F.a r) ∧ ∀ r, r ≠ 22 → F'.l r = F.l r
theorem eK.rf : eK F F := ⟨fun _ _ _ _ _ _ _ _ => rfl, fun _ _ => rfl, fun _ _ => rfl⟩
theorem eK.tr {F F1 F2 : mF} (h : eK F F1) (h2 : eK F1 F2) : eK F F2 := ⟨fun j a b c d' e f g => (h2.1 j a b c d' e f g).trans (h.1 j a b c d' e f g), fun r a => (h2.2.1 r a).trans (h.2.1 r a), fun r a => (h2.2.2 r a).trans (h.2.2 r a)⟩
theorem xK.eK {F F' : mF} (h : xK F F') : eK F F' := ⟨fun j _ _ _ _ _ a b => h.1 j a b, h.2.2.1, h.2.2.2⟩
theorem keepT.eK {F F' : mF} (h : keepT F F') : eK F F' := ⟨fun j a b c d' e _ _ => h.1 j a b c d' e, fun r _ => by rw [h.2.1], fun r _ => by rw [h.2.2]⟩
theorem eK.cK {F F' : mF} (c : Nat) (h : eK F F') : cK F F' c := ⟨fun r _ _ => ⟨h.2.1 r (by omega), h.2.2 r (by omega)⟩, fun r i _ _ _ => ⟨by rw [h.2.1 r (by omega)], by rw [h.2.2 r (by omega)]⟩, h.1 0 (by omega) (by omega) (by omega) (by omega) (by omega) (by omega) (by omega), h.1 3 (by omega) (by omega) (by omega) (by omega) (by omega) (by omega) (by omega), h.1 29 (by omega) (by omega) (by omega) (by omega) (by omega) (by omega) (by omega), h.1 30 (by omega) (by omega) (by omega) (by omega) (by omega) (by omega) (by omega)⟩
theorem celR.eK {F F' : mF} {c : Nat} {x : ceT} (h : celR F c x) (k : eK F F') : celR F' c x := by
  unfold celR
  rw [k.2.1 11 (by omega), k.2.1 13 (by omega), k.2.1 14 (by omega), k.2.1 15 (by omega), k.2.1 16 (by omega), k.2.1 18 (by omega), k.2.1 19 (by omega), k.2.1 20 (by omega), k.2.2 10 (by omega), k.2.2 12 (by omega), k.2.2 17 (by omega)]
  exact h
theorem shC.eK {F F' : mF} {u k : Nat} (h : shC F u k) (kt : eK F F') : shC F' u k := by
  unfold shC
  rw [kt.2.1 13 (by omega), kt.2.1 14 (by omega), kt.2.1 18 (by omega), kt.1 29 (by omega) (by omega) (by omega) (by omega) (by omega) (by omega) (by omega), kt.1 30 (by omega) (by omega) (by omega) (by omega) (by omega) (by omega) (by omega)]
  exact h
theorem stk.kT {F F' : mF} {wl : List Int32} {vl : List Int64} (h : stk F wl vl) (k : keepT F F') : stk F' wl vl := by
  unfold stk
  rw [k.2.1, k.2.2, k.1 32 (by omega) (by omega) (by omega) (by omega) (by omega), k.1 34 (by omega) (by omega) (by omega) (by omega) (by omega)]
  exact h
theorem m_turn {i cc : Nat} (hi : i ≤ 6) (hc : cc < 24) : ∀ (b : Nat) (rest : List Int32) (vl : List Int64) (v : Int64) (F : mF), F.s 30 = nI cc → F.a 13 cc = nI i → stk F (List.replicate b 33 ++ rest) (v :: vl) → (∀ c l, rest = c :: l → ¬ c = 33) →
    Y w mX11_turn (d + 1) (fun r F' => r = none ∧ stk F' rest (nots (allM i) b v :: vl) ∧ xK F F') o 0 [some (.ref o)] [] F := by
  intro b
  induction b with
  | zero =>
    intro rest vl v F h30 h13 hs hr
    obtain ⟨s1, s2, s3, s4, s5, s6⟩ := hs
    match rest, s1, s3, s5, hr with
    | [], s1, s3, s5, hr =>
      refine yX11_turn_0 (yX11_turn_1 ?_)
      rw [s1]
      refine yX11_turn_4 (fun _ => ?_) (fun h9 => absurd (show nI 0 ≤ 0 by decide) h9)
      refine yX11_turn_75 ⟨rfl, ⟨s1, s2, s3, s4, s5, s6⟩, xK.rf⟩
    | c :: l, s1, s3, s5, hr =>
      have hr := hr c l rfl
      have s1' : F.s 32 = nI (l.length + 1) := s1
      have s5' : l.length + 1 ≤ 1400 := s5
      have e1 : F.s 32 - 1 = nI l.length := by rw [s1', nI_pred]
      have s31 : F.a 21 l.length = c := s3.1
      refine yX11_turn_0 (yX11_turn_1 (yX11_turn_4 (fun h9 => absurd h9 (by rw [s1']; exact nI_nle (by omega) (by omega))) (fun _ => ?_)))
      refine yX11_turn_7 (yX11_turn_8 (yX11_turn_11 (yX11_turn_12 (yX11_turn_15 (yX11_turn_16 (yX11_turn_17 (ble rfl) rfl (i := l.length) e1 (by omega) ?_))))))
      rw [s31]
      refine yX11_turn_18 (yX11_turn_20 (fun _ => ?_) (fun h8 => absurd h8 hr))
      refine yX11_turn_75 ⟨rfl, ⟨s1, s2, s3, s4, s5, s6⟩, xK.rf⟩
  | succ b ih =>
    intro rest vl v F h30 h13 hs hr
    rw [List.replicate_succ] at hs
    obtain ⟨s1, s2, s3, s4, s5, s6⟩ := hs
    have s1' : F.s 32 = nI ((List.replicate b (33 : Int32) ++ rest).length + 1) := s1
    have s5' : (List.replicate b (33 : Int32) ++ rest).length + 1 ≤ 1400 := s5
    have s2' : F.s 34 = nI (vl.length + 1) := s2
    have s6' : vl.length + 1 ≤ 190 := s6
    have e1 : F.s 32 - 1 = nI (List.replicate b (33 : Int32) ++ rest).length := by rw [s1', nI_pred]
    have e2 : F.s 34 - 1 = nI vl.length := by rw [s2', nI_pred]
    have s31 : F.a 21 (List.replicate b (33 : Int32) ++ rest).length = 33 := s3.1
    have s41 : F.l 22 vl.length = v := s4.1
    refine yX11_turn_0 (yX11_turn_1 (yX11_turn_4 (fun h9 => absurd h9 (by rw [s1']; exact nI_nle (by omega) (by omega))) (fun _ => ?_)))
    refine yX11_turn_7 (yX11_turn_8 (yX11_turn_11 (yX11_turn_12 (yX11_turn_15 (yX11_turn_16 (yX11_turn_17 (ble rfl) rfl (i := (List.replicate b (33 : Int32) ++ rest).length) e1 (by omega) ?_))))))
    rw [s31]
    refine yX11_turn_18 (yX11_turn_20 (fun h8 => absurd rfl h8) (fun _ => ?_))
    refine yX11_turn_23 (yX11_turn_24 (yX11_turn_27 (yX11_turn_28 (yX11_turn_31 (yX11_turn_32 (yX11_turn_33 (yX11_turn_34 (yX11_turn_37 (yX11_turn_38 (yX11_turn_41 (yX11_turn_42 (yX11_turn_43 (ble rfl) rfl (i := vl.length) e2 (by omega) (yX11_turn_44 (yX11_turn_47 (yX11_turn_48 (yX11_turn_49 (yX11_turn_52 (yX11_turn_53 (yX11_turn_56 (ble rfl) rfl (i := cc) h30 hc ?_)))))))))))))))))))
    rw [h13, s41]
    refine yX11_turn_57 (ble rfl) (m_all hi) (yX11_turn_60 (yX11_turn_61 (ble rfl) (fun _ => rfl) (i := vl.length) e2 (by omega) (yX11_turn_62 (yX11_turn_63 rfl (yX11_turn_64 (yX11_turn_67 (yX11_turn_68 ?_)))))))
    rw [show (F.uL 22 (vp_updL (F.l 22) vl.length ((v ^^^ -1) &&& allM i))).s 32 - 1 = nI (List.replicate b (33 : Int32) ++ rest).length from e1]
    refine yX11_turn_69 (yX11_turn_72 ?_)
    have kx : xK F ((F.uL 22 (vp_updL (F.l 22) vl.length ((v ^^^ -1) &&& allM i))).uS 32 (nI (List.replicate b (33 : Int32) ++ rest).length)) := xK.uL.tr (xK.uS (Or.inl rfl))
    refine Y_imp (ih rest vl ((v ^^^ -1) &&& allM i) _ h30 h13 ⟨rfl, s2, s3.2, ⟨pk_uLs, stv_up s4.2 (Nat.le_refl _)⟩, by omega, s6⟩ hr) (fun r F' hh => ⟨hh.1, hh.2.1, kx.tr hh.2.2⟩)
theorem m_push {wl : List Int32} {vl : List Int64} (c : Int32) (ha : al F T n q) (hs : stk F wl vl) (hl : wl.length < 1400) : yC w (d + 3) mX11_push [.ref o, .int c] o F (fun r F' => r = none ∧ al F' T n (sE T n q) ∧ stk F' (c :: wl) vl ∧ eK F F') := by
  obtain ⟨s1, s2, s3, s4, s5, s6⟩ := hs
  refine yC_of (by decide) (ble rfl) (ls := [some (.ref o), some (.int c)]) rfl ?_
  refine yX11_push_0 (yX11_push_1 (yX11_push_4 (yX11_push_5 (yX11_push_8 (yX11_push_9 (ble rfl) (fun _ => rfl) (i := wl.length) s1 (by omega) (yX11_push_10 (yX11_push_11 rfl (yX11_push_12 (yX11_push_15 (yX11_push_16 ?_))))))))))
  rw [show (F.uA 21 (upd (F.a 21) wl.length c)).s 32 + 1 = nI (wl.length + 1) by show F.s 32 + 1 = _; rw [s1, nI_1]]
  refine yX11_push_17 ?_
  have kx : xK F ((F.uA 21 (upd (F.a 21) wl.length c)).uS 32 (nI (wl.length + 1))) := xK.uA.tr (xK.uS (Or.inl rfl))
  have a1 := ha.xK kx
  have st1 : stk ((F.uA 21 (upd (F.a 21) wl.length c)).uS 32 (nI (wl.length + 1))) (c :: wl) vl := ⟨rfl, s2, ⟨pk_us, stw_up s3 (Nat.le_refl _)⟩, s4, hl, s6⟩
  generalize (F.uA 21 (upd (F.a 21) wl.length c)).uS 32 (nI (wl.length + 1)) = F1 at kx a1 st1 ⊢
  refine yX11_push_20 (yX11_push_21_g (ble rfl) (g_a a1) (fun v F2 hF => ?_))
  obtain ⟨rfl, a2, k2⟩ := hF
  refine yX11_push_24 ⟨rfl, a2, st1.kT k2, kx.eK.tr k2.eK⟩
theorem sg10 : sgOK 10 := ⟨rfl, by decide, by decide⟩
theorem sg11 : sgOK 11 := ⟨rfl, by decide, by decide⟩
theorem sg14 : sgOK 14 := ⟨rfl, by decide, by decide⟩
theorem sg15 : sgOK 15 := ⟨rfl, by decide, by decide⟩
theorem sg16 : sgOK 16 := ⟨rfl, by decide, by decide⟩
theorem sg17 : sgOK 17 := ⟨rfl, by decide, by decide⟩
/-- sgn as a number: 1 where the word is the sign -/
theorem sgn_W {i : Nat} (hq : q ≤ n) (hi : sgOK i) : sgn T n q (chr i 0) = sW T n q i := by
  rcases sgn_01 T n q (chr i 0) with h | h
  · rcases sW_01 T n q i with h2 | h2
    · rw [h, h2]
    · have := (sgn_iff (T := T) hq hi).mpr (by rw [h2]; decide)
      rw [h] at this; exact absurd this (by decide)
  · rw [h]
    rcases sW_01 T n q i with h2 | h2
    · exact absurd h2 ((sgn_iff (T := T) hq hi).mp h)
    · exact h2.symm
theorem op_bang {wl : List Int32} {vl : List Int64} {x : Int32} (ha : al F T n q) (hs : stk F wl vl) (hl : wl.length < 1400) (hb : ¬ sW T n q 10 = 0) : yC w (d + 4) mX11_operand [.ref o, .int x] o F (fun r F' => r = some (.int 0) ∧ al F' T n (sE T n q) ∧ stk F' (33 :: wl) vl ∧ eK F F') := by
  have hq := ha.2.2.2.2.1
  have ht := ha.2.2.2.2.2
  have hg : sgn T n q 33 = 1 := (sgn_iff (T := T) hq sg10).mpr hb
  obtain ⟨hk, hc⟩ := (sign_iff T hq sg10.1 sg10.2.1 sg10.2.2).mp hb
  have hlt : sS T n q < n := by rcases kcase T hq with h | h | h | h | h <;> omega
  have h14 := ha.2.2.1
  refine yC_of (by decide) (ble rfl) (ls := [some (.ref o), some (.int x), none, none]) rfl ?_
  refine yX11_operand_0 (yX11_operand_1 (yX11_operand_3 (ble rfl) (m_isSign 33 ha.1 h14 hq ht) ?_))
  rw [hg]
  refine yX11_operand_6 (fun _ => ?_) (fun h9 => absurd h9 (by decide))
  refine yX11_operand_18 (yX11_operand_19 (yX11_operand_20 (yX11_operand_22 (ble rfl) (m_isSign 33 ha.1 h14 hq ht) ?_)))
  rw [hg]
  refine yX11_operand_25 (fun _ => ?_) (fun h9 => absurd h9 (by decide))
  refine yX11_operand_34 (yX11_operand_35 (yX11_operand_39 (ble rfl) (n_1 ha.2.2.2.1) (yX11_operand_42 (yX11_operand_43 (yX11_operand_46 (fun h9 => absurd (ha.2.2.2.1.symm.trans h9) (by decide)) (fun _ => ?_))))))
  refine yX11_operand_49 (yX11_operand_50 (yX11_operand_51 (yX11_operand_54 (yX11_operand_55 (yX11_operand_58 (ble rfl) rfl (i := sS T n q) ht.1 (by omega) ?_)))))
  rw [ha.1, hc]
  refine yX11_operand_59_g (ble rfl) (m_push (chr 10 0) ha hs hl) (fun v F1 hF => ?_)
  obtain ⟨rfl, r1, r2, r3⟩ := hF
  refine yX11_operand_62 (yX11_operand_63 (Or.inl rfl) ⟨rfl, r1, r2, r3⟩)
theorem op_par {wl : List Int32} {vl : List Int64} {x : Nat} (hx : x ≤ 16) (ha : al F T n q) (hs : stk F wl vl) (hl : wl.length < 1400) (hb0 : sW T n q 10 = 0) (hb : ¬ sW T n q 11 = 0) : yC w (d + 4) mX11_operand [.ref o, .int (nI x)] o F (fun r F' => r = some (.int 0) ∧ eK F F' ∧ (x < 16 → al F' T n (sE T n q) ∧ stk F' (40 :: wl) vl) ∧ (¬ x < 16 → de F' T n (sS T n q))) := by
  have hq := ha.2.2.2.2.1
  have ht := ha.2.2.2.2.2
  have hg0 : sgn T n q 33 = 0 := (sgn_W (T := T) hq sg10).trans hb0
  have hg : sgn T n q 40 = 1 := (sgn_iff (T := T) hq sg11).mpr hb
  obtain ⟨hk, hc⟩ := (sign_iff T hq sg11.1 sg11.2.1 sg11.2.2).mp hb
  have hlt : sS T n q < n := by rcases kcase T hq with h | h | h | h | h <;> omega
  have h14 := ha.2.2.1
  refine yC_of (by decide) (ble rfl) (ls := [some (.ref o), some (.int (nI x)), none, none]) rfl ?_
  refine yX11_operand_0 (yX11_operand_1 (yX11_operand_3 (ble rfl) (m_isSign 33 ha.1 h14 hq ht) ?_))
  rw [hg0]
  refine yX11_operand_6 (fun h9 => absurd rfl h9) (fun _ => ?_)
  refine yX11_operand_9 (yX11_operand_10 (yX11_operand_12 (ble rfl) (m_isSign 40 ha.1 h14 hq ht) ?_))
  rw [hg]
  refine yX11_operand_15 (fun h9 => absurd h9 (by decide)) (fun _ => ?_)
  refine yX11_operand_18 (yX11_operand_19 (yX11_operand_20 (yX11_operand_22 (ble rfl) (m_isSign 33 ha.1 h14 hq ht) ?_)))
  rw [hg0]
  refine yX11_operand_25 (fun h9 => absurd rfl h9) (fun _ => ?_)
  refine yX11_operand_28 (yX11_operand_29 (yX11_operand_31 (fun h9 => ?_) (fun h9 => ?_)))
  · have h9 : 16 ≤ x := (nI_leI (a := 16) (by omega) (by omega)).mp h9
    refine yX11_operand_38 (yX11_operand_39 (ble rfl) n_0 (yX11_operand_42 (yX11_operand_43 (yX11_operand_46 (fun _ => ?_) (fun h9 => absurd rfl h9)))))
    refine yX11_operand_62 (yX11_operand_63 (Or.inl rfl) ⟨rfl, die_kT.eK, fun z => by omega, fun _ => ha.die⟩)
  · have h9 : x < 16 := by
      rcases Nat.lt_or_ge x 16 with z | z
      · exact z
      · exact absurd (nI_le (a := 16) z (by omega)) h9
    refine yX11_operand_34 (yX11_operand_35 (yX11_operand_39 (ble rfl) (n_1 ha.2.2.2.1) (yX11_operand_42 (yX11_operand_43 (yX11_operand_46 (fun h9 => absurd (ha.2.2.2.1.symm.trans h9) (by decide)) (fun _ => ?_))))))
    refine yX11_operand_49 (yX11_operand_50 (yX11_operand_51 (yX11_operand_54 (yX11_operand_55 (yX11_operand_58 (ble rfl) rfl (i := sS T n q) ht.1 (by omega) ?_)))))
    rw [ha.1, hc]
    refine yX11_operand_59_g (ble rfl) (m_push (chr 11 0) ha hs hl) (fun v F1 hF => ?_)
    obtain ⟨rfl, r1, r2, r3⟩ := hF
    refine yX11_operand_62 (yX11_operand_63 (Or.inl rfl) ⟨rfl, r3, fun _ => ⟨r1, r2⟩, fun z => absurd h9 z⟩)
end M9
