section M14
variable {w : xWd} {d o : Nat} {F : mF} {T : Nat → Int32} {n : Nat}
variable {u k q : Nat} {c : ceT} {L : liT} {K : tkT}
theorem bnd_as {α β γ : Type} {r : Except Nat α} {f : α → Except Nat β} {g : β → Except Nat γ} : bnd (bnd r f) g = bnd r (fun x => bnd (f x) g) := by cases r <;> rfl
/-! the reading goes on -/
def pg (q n q' : Nat) : Prop := q ≤ q' ∧ q' ≤ n
theorem pg.tr {q n q1 q2 : Nat} (h : pg q n q1) (h2 : pg q1 n q2) : pg q n q2 := ⟨Nat.le_trans h.1 h2.1, h2.2⟩
theorem pg.rf (h : q ≤ n) : pg q n q := ⟨Nat.le_refl _, h⟩
def mo (K : tkT) (n : Nat) : Prop := ∀ q, q ≤ n → pg q n (K.E q)
theorem mo_tk : mo (tkOf T n) n := fun q hq => ⟨Nat.le_trans (tkS_le T hq).1 (sE_le T hq).1, (sE_le T hq).2⟩
theorem mo_sign {i q' : Nat} (m : mo K n) (hq : q ≤ n) (h : rSign K i q = .ok q') : pg q n q' := by
  obtain ⟨_, h⟩ := dmd_ok h
  cases h
  exact m q hq
theorem mo_num {x : Int32 × Nat} (m : mo K n) (hq : q ≤ n) (h : rNum K q = .ok x) : pg q n x.2 := by
  obtain ⟨_, h⟩ := dmd_ok h
  cases h
  exact m q hq
theorem mo_nums (m : mo K n) : ∀ j i f q x, q ≤ n → rNums K j i f q = .ok x → pg q n x.2 := by
  intro j
  induction j with
  | zero => intro i f q x hq h; cases h; exact pg.rf hq
  | succ j ih =>
    intro i f q x hq h
    obtain ⟨y, h1, h⟩ := bnd_ok h
    have a := mo_num m hq h1
    exact a.tr (ih _ _ _ _ a.2 h)
theorem mo_pin {x : ceT × Nat} (m : mo K n) (hq : q ≤ n) (h : rPin K c q = .ok x) : pg q n x.2 := by
  obtain ⟨_, h⟩ := dmd_ok h
  cases h
  exact m q hq
theorem mo_inp {x : ceT × Nat} (m : mo K n) (hq : q ≤ n) (h : rInp K c q = .ok x) : pg q n x.2 := by
  obtain ⟨_, h⟩ := dmd_ok h
  obtain ⟨_, h⟩ := dmd_ok h
  obtain ⟨y, h1, h⟩ := bnd_ok h
  cases h
  exact (m q hq).tr (mo_pin (x := y) m (m q hq).2 h1)
theorem mo_outN {x : ceT × Nat} (m : mo K n) (hq : q ≤ n) (h : rOutN K c q = .ok x) : pg q n x.2 := by
  obtain ⟨_, h⟩ := dmd_ok h
  obtain ⟨y, h1, h⟩ := bnd_ok h
  obtain ⟨z, h2, h⟩ := bnd_ok h
  cases h
  have a := (m q hq).tr (mo_pin m (m q hq).2 h1)
  exact a.tr (mo_sign m a.2 h2)
theorem mo_opens (m : mo K n) : ∀ j t q x, q ≤ n → rOpens K j t q = .ok x → pg q n x.2 := by
  intro j
  induction j with
  | zero => intro t q x hq h; cases h; exact pg.rf hq
  | succ j ih =>
    intro t q x hq h
    unfold rOpens at h
    split at h
    · exact (m q hq).tr (ih _ _ _ (m q hq).2 h)
    · split at h
      · obtain ⟨_, h⟩ := dmd_ok h
        exact (m q hq).tr (ih _ _ _ (m q hq).2 h)
      · cases h; exact pg.rf hq
theorem mo_prim {x : Int64 × Nat} (m : mo K n) (hq : q ≤ n) (h : rPrim K c q = .ok x) : pg q n x.2 := by
  unfold rPrim at h
  split at h
  · obtain ⟨_, h⟩ := dmd_ok h
    cases h
    exact m q hq
  · obtain ⟨_, h⟩ := dmd_ok h
    cases h
    exact m q hq
theorem mo_closes (m : mo K n) : ∀ j t q, q ≤ n → pg q n (rCloses K j t q).2 := by
  intro j
  induction j with
  | zero => intro t q hq; exact pg.rf hq
  | succ j ih =>
    intro t q hq
    unfold rCloses
    split
    · exact (m q hq).tr (ih _ _ (m q hq).2)
    · exact pg.rf hq
theorem mo_op {t : tSt} (m : mo K n) (hq : q ≤ n) : pg q n (rOp K t q).2.2 := by
  unfold rOp
  split
  · exact m q hq
  · split
    · exact m q hq
    · split
      · exact m q hq
      · exact pg.rf hq
theorem mo_fun (m : mo K n) : ∀ j t q x, q ≤ n → rFun K c j t q = .ok x → pg q n x.2 := by
  intro j
  induction j with
  | zero => intro t q x hq h; cases h; exact pg.rf hq
  | succ j ih =>
    intro t q x hq h
    obtain ⟨y, h1, h⟩ := bnd_ok h
    obtain ⟨v, h2, h⟩ := bnd_ok h
    have a := mo_opens m _ _ _ _ hq h1
    have b := a.tr (mo_prim m a.2 h2)
    have e := b.tr (mo_closes m 1400 (tPut y.1 v.1) v.2 b.2)
    have e2 := e.tr (mo_op (t := (rCloses K 1400 (tPut y.1 v.1) v.2).1) m e.2)
    have h : (if (rOp K (rCloses K 1400 (tPut y.1 v.1) v.2).1 (rCloses K 1400 (tPut y.1 v.1) v.2).2).1 = 0 then Except.ok (rOp K (rCloses K 1400 (tPut y.1 v.1) v.2).1 (rCloses K 1400 (tPut y.1 v.1) v.2).2).2 else rFun K c j (rOp K (rCloses K 1400 (tPut y.1 v.1) v.2).1 (rCloses K 1400 (tPut y.1 v.1) v.2).2).2.1 (rOp K (rCloses K 1400 (tPut y.1 v.1) v.2).1 (rCloses K 1400 (tPut y.1 v.1) v.2).2).2.2) = .ok x := h
    split at h
    · cases h; exact e2
    · exact e2.tr (ih _ _ _ e2.2 h)
theorem mo_function {t : tSt} {x : ceT × tSt × Nat} (m : mo K n) (hq : q ≤ n) (h : rFunction K c t q = .ok x) : pg q n x.2.2 := by
  obtain ⟨y, h1, h⟩ := bnd_ok h
  obtain ⟨_, h⟩ := dmd_ok h
  cases h
  exact mo_fun m _ _ _ _ hq h1
theorem mo_am {j : Nat} {x : ceT × Nat} (m : mo K n) (hq : q ≤ n) (h : rAmount K c j q = .ok x) : pg q n x.2 := by
  obtain ⟨_, h⟩ := dmd_ok h
  obtain ⟨y, h1, h⟩ := bnd_ok h
  cases h
  exact (m q hq).tr (mo_num m (m q hq).2 h1)
theorem mo_pw {x : ceT × Nat} (m : mo K n) (hq : q ≤ n) (h : rPower K c q = .ok x) : pg q n x.2 := by
  obtain ⟨_, h⟩ := dmd_ok h
  obtain ⟨y, h1, h⟩ := bnd_ok h
  cases h
  exact (m q hq).tr (mo_nums m _ _ _ _ _ (m q hq).2 h1)
theorem mo_arc {x : ceT × Nat} (m : mo K n) (hq : q ≤ n) (h : rArc K L c q = .ok x) : pg q n x.2 := by
  obtain ⟨_, h⟩ := dmd_ok h
  obtain ⟨_, h⟩ := dmd_ok h
  obtain ⟨_, h⟩ := dmd_ok h
  obtain ⟨y1, h1, h⟩ := bnd_ok h
  obtain ⟨y2, h2, h⟩ := bnd_ok h
  obtain ⟨y3, h3, h⟩ := bnd_ok h
  cases h
  obtain ⟨_, h1⟩ := dmd_ok h1
  obtain ⟨_, h2⟩ := dmd_ok h2
  obtain ⟨_, h3⟩ := dmd_ok h3
  cases h1
  cases h2
  cases h3
  have a1 := m q hq
  have a2 := a1.tr (m _ a1.2)
  have a3 := a2.tr (m _ a2.2)
  have a4 := a3.tr (m _ a3.2)
  have a5 := a4.tr (m _ a4.2)
  exact a5.tr (m _ a5.2)
theorem mo_item {t : tSt} {x : ceT × tSt × Nat} (m : mo K n) (hq : q ≤ n) (h : rItem K L c t q = .ok x) : pg q n x.2.2 := by
  unfold rItem at h
  split at h
  · obtain ⟨y, h1, h⟩ := bnd_ok h
    cases h
    exact mo_inp m hq h1
  split at h
  · obtain ⟨y, h1, h⟩ := bnd_ok h
    have a := mo_outN m hq h1
    exact a.tr (mo_function m a.2 h)
  split at h
  · obtain ⟨y, h1, h⟩ := bnd_ok h
    cases h
    exact mo_am m hq h1
  split at h
  · obtain ⟨y, h1, h⟩ := bnd_ok h
    cases h
    exact mo_am m hq h1
  split at h
  · obtain ⟨y, h1, h⟩ := bnd_ok h
    cases h
    exact mo_am m hq h1
  split at h
  · obtain ⟨y, h1, h⟩ := bnd_ok h
    cases h
    exact mo_arc m hq h1
  obtain ⟨_, h⟩ := dmd_ok h
  obtain ⟨y, h1, h⟩ := bnd_ok h
  cases h
  exact mo_pw m hq h1
theorem sg3 : sgOK 3 := ⟨rfl, by decide, by decide⟩
theorem sg5 : sgOK 5 := ⟨rfl, by decide, by decide⟩
theorem sg6 : sgOK 6 := ⟨rfl, by decide, by decide⟩
theorem sg1 : sgOK 1 := ⟨rfl, by decide, by decide⟩
theorem sg2 : sgOK 2 := ⟨rfl, by decide, by decide⟩
variable {tc : Nat} {tn : Nat → Int64}
/-- an item and its ; -/
def rIt (K : tkT) (r : Except Nat (ceT × Nat)) : Except Nat (ceT × Nat) := bnd r (fun x => bnd (rSign K 3 x.2) (fun q2 => .ok (x.1, q2)))
theorem it_S {r : Except Nat (ceT × Nat)} (h : mCR F T n u k tc tn r) : Y w mX11_readItem (d + 7) (qC F T n u k tc tn (rIt (tkOf T n) r)) o 167 [some (.ref o)] [] F := by
  match r, h with
  | .error p, h =>
    have h : mCd F T n u k tc tn p := h
    refine yX11_readItem_167 (yX11_readItem_168 (yX11_readItem_170 (ble rfl) (sg_d h.1) (yX11_readItem_173 ⟨rfl, h, cK.rf⟩)))
  | .ok x, h =>
    have h : mCo F T n u k tc tn x.1 x.2 := h
    refine yX11_readItem_167 (yX11_readItem_168 (yX11_readItem_170_g (ble rfl) (sg_a sg3 h.1) (fun v F2 hF => ?_)))
    obtain ⟨rfl, a2, k2⟩ := hF
    refine yX11_readItem_173 ⟨rfl, ?_, k2.cK _⟩
    show mCR F2 T n u k tc tn (bnd (rSign (tkOf T n) 3 x.2) (fun q2 => .ok (x.1, q2)))
    match rSign (tkOf T n) 3 x.2, a2 with
    | .error p, a2 => exact h.dd a2 k2
    | .ok q2, a2 => exact h.kT a2 k2
theorem it_a (t : tSt) (h : mCo F T n u k L.tc L.tn c q) : yC w (d + 7) mX11_readItem [.ref o] o F (qC F T n u k L.tc L.tn (bnd (rItem (tkOf T n) L c t q) (fun x => bnd (rSign (tkOf T n) 3 x.2.2) (fun q2 => .ok (x.1, q2))))) := by
  refine yC_of (by decide) (ble rfl) (ls := [some (.ref o)]) rfl ?_
  have ht := h.1.2.2.2.2.2
  have hq := h.1.2.2.2.2.1
  have fin : ∀ (r : Except Nat (ceT × Nat)) (v : Option Value) (F1 : mF), qC F T n u k L.tc L.tn r v F1 → Y w mX11_readItem (d + 7) (qC F T n u k L.tc L.tn (rIt (tkOf T n) r)) o 167 [some (.ref o)] [] F1 := fun r v F1 hF => Y_imp (it_S hF.2.1) (fun v' F' hh => qC.mono hF.2.2 hh)
  have lf : ∀ (r : Except Nat (ceT × Nat)), rItem (tkOf T n) L c t q = bnd r (fun x => .ok (x.1, t, x.2)) → bnd (rItem (tkOf T n) L c t q) (fun x => bnd (rSign (tkOf T n) 3 x.2.2) (fun q2 => .ok (x.1, q2))) = rIt (tkOf T n) r := by
    intro r hr
    rw [hr, bnd_as]
    rfl
  refine yX11_readItem_0 (yX11_readItem_1 (yX11_readItem_3 (yX11_readItem_5 (yX11_readItem_6 (yX11_readItem_7 (yX11_readItem_8 (ble rfl) (m_is 7 (by decide) hq ht) (yX11_readItem_11 (fun h7 => ?_) (fun h7 => ?_))))))))
  rotate_left
  · rw [lf (rInp (tkOf T n) c q) (if_pos h7)]
    refine yX11_readItem_14 (yX11_readItem_15_g (ble rfl) (ri_a h) (fun v F1 hF => ?_))
    obtain ⟨rfl, _⟩ := id hF
    refine yX11_readItem_18 ?_
    exact fin _ none F1 hF
  refine yX11_readItem_21 (yX11_readItem_22 (yX11_readItem_24 (yX11_readItem_26 (yX11_readItem_28 (yX11_readItem_29 (yX11_readItem_30 (ble rfl) (m_is 8 (by decide) hq ht) (yX11_readItem_33 (fun h8 => ?_) (fun h8 => ?_))))))))
  rotate_left
  · have e : bnd (rItem (tkOf T n) L c t q) (fun x => bnd (rSign (tkOf T n) 3 x.2.2) (fun q2 => .ok (x.1, q2))) = rIt (tkOf T n) (bnd (rOut (tkOf T n) c t q) (fun x => .ok (x.1, x.2.2))) := by
      rw [show rItem (tkOf T n) L c t q = rOut (tkOf T n) c t q from (if_neg (fun z => z h7)).trans (if_pos h8)]
      unfold rIt
      rw [bnd_as]
      rfl
    rw [e]
    refine yX11_readItem_36 (yX11_readItem_37_g (ble rfl) (ro_a t h) (fun v F1 hF => ?_))
    obtain ⟨rfl, _⟩ := id hF
    refine yX11_readItem_40 ?_
    exact fin _ none F1 hF
  refine yX11_readItem_43 (yX11_readItem_44 (yX11_readItem_46 (yX11_readItem_48 (yX11_readItem_50 (yX11_readItem_52 (yX11_readItem_54 (ble rfl) (m_is 18 (by decide) hq ht) (yX11_readItem_57 (fun h18 => ?_) (fun h18 => ?_))))))))
  rotate_left
  · rw [lf (rAmount (tkOf T n) c 0 q) ((if_neg (fun z => z h7)).trans ((if_neg (fun z => z h8)).trans (if_pos h18)))]
    refine yX11_readItem_60 (yX11_readItem_61 (yX11_readItem_62_g (ble rfl) (rn_a (j := 0) (by omega) h) (fun v F1 hF => ?_)))
    obtain ⟨rfl, _⟩ := id hF
    refine yX11_readItem_65 ?_
    exact fin _ none F1 hF
  refine yX11_readItem_68 (yX11_readItem_69 (yX11_readItem_71 (yX11_readItem_73 (yX11_readItem_75 (yX11_readItem_77 (yX11_readItem_78 (ble rfl) (m_is 19 (by decide) hq ht) (yX11_readItem_81 (fun h19 => ?_) (fun h19 => ?_))))))))
  rotate_left
  · rw [lf (rAmount (tkOf T n) c 1 q) ((if_neg (fun z => z h7)).trans ((if_neg (fun z => z h8)).trans ((if_neg (fun z => z h18)).trans (if_pos h19))))]
    refine yX11_readItem_84 (yX11_readItem_85 (yX11_readItem_86_g (ble rfl) (rn_a (j := 1) (by omega) h) (fun v F1 hF => ?_)))
    obtain ⟨rfl, _⟩ := id hF
    refine yX11_readItem_89 ?_
    exact fin _ none F1 hF
  refine yX11_readItem_92 (yX11_readItem_93 (yX11_readItem_95 (yX11_readItem_97 (yX11_readItem_99 (yX11_readItem_101 (yX11_readItem_102 (ble rfl) (m_is 20 (by decide) hq ht) (yX11_readItem_105 (fun h20 => ?_) (fun h20 => ?_))))))))
  rotate_left
  · rw [lf (rAmount (tkOf T n) c 2 q) ((if_neg (fun z => z h7)).trans ((if_neg (fun z => z h8)).trans ((if_neg (fun z => z h18)).trans ((if_neg (fun z => z h19)).trans (if_pos h20)))))]
    refine yX11_readItem_108 (yX11_readItem_109 (yX11_readItem_110_g (ble rfl) (rn_a (j := 2) (by omega) h) (fun v F1 hF => ?_)))
    obtain ⟨rfl, _⟩ := id hF
    refine yX11_readItem_113 ?_
    exact fin _ none F1 hF
  refine yX11_readItem_116 (yX11_readItem_117 (yX11_readItem_119 (yX11_readItem_121 (yX11_readItem_123 (yX11_readItem_124 (yX11_readItem_125 (ble rfl) (m_is 21 (by decide) hq ht) (yX11_readItem_128 (fun h21 => ?_) (fun h21 => ?_))))))))
  rotate_left
  · rw [lf (rArc (tkOf T n) L c q) ((if_neg (fun z => z h7)).trans ((if_neg (fun z => z h8)).trans ((if_neg (fun z => z h18)).trans ((if_neg (fun z => z h19)).trans ((if_neg (fun z => z h20)).trans (if_pos h21))))))]
    refine yX11_readItem_131 (yX11_readItem_132_g (ble rfl) (ra_a h) (fun v F1 hF => ?_))
    obtain ⟨rfl, _⟩ := id hF
    refine yX11_readItem_135 ?_
    exact fin _ none F1 hF
  have e9 : rItem (tkOf T n) L c t q = dmd (¬ sW T n q 25 = 0) (sS T n q) (bnd (rPower (tkOf T n) c q) (fun x => .ok (x.1, t, x.2))) := by
    exact (if_neg (fun z => z h7)).trans ((if_neg (fun z => z h8)).trans ((if_neg (fun z => z h18)).trans ((if_neg (fun z => z h19)).trans ((if_neg (fun z => z h20)).trans (if_neg (fun z => z h21))))))
  refine yX11_readItem_138 (yX11_readItem_139 (yX11_readItem_141 (yX11_readItem_143 (yX11_readItem_145 (yX11_readItem_147 (yX11_readItem_149 (ble rfl) (m_is 25 (by decide) hq ht) (yX11_readItem_152 (fun h25 => ?_) (fun h25 => ?_))))))))
  · rw [show rItem (tkOf T n) L c t q = .error (sS T n q) from e9.trans (dmd_f (fun z => z h25))]
    refine yX11_readItem_162 (yX11_readItem_163 (yX11_readItem_164 (ble rfl) n_0 ?_))
    exact fin (.error (sS T n q)) none _ ⟨rfl, h.die, die_kT.cK _⟩
  · rw [lf (rPower (tkOf T n) c q) (e9.trans (dmd_t h25))]
    refine yX11_readItem_155 (yX11_readItem_156_g (ble rfl) (rp_a h) (fun v F1 hF => ?_))
    obtain ⟨rfl, _⟩ := id hF
    refine yX11_readItem_159 ?_
    exact fin _ none F1 hF
theorem W_sg {i : Nat} (hq : q ≤ n) (hi : sgOK i) (h : ¬ sW T n q i = 0) : q < sE T n q := sE_gt hq (by rw [((sign_iff T hq hi.1 hi.2.1 hi.2.2).mp h).1]; decide)
end M14
