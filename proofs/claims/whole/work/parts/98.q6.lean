section Q6
variable {w : xWd} {d o : Nat} {F : mF} {T : Nat → Int32} {n b : Nat} {L : liT}
noncomputable def mtc (a c : ceT) : Option (Nat → Nat) := @dite _ (a.i = c.i ∧ ∃ v, LG a.i (a.tr 0) (c.tr 0) v) (Classical.propDecidable _) (fun h => some (Classical.choose h.2)) (fun _ => none)
noncomputable def mtB (a c : ceT) : Int32 := if (mtc a c).isSome then 1 else 0
theorem mtB_01 (a c : ceT) : mtB a c = 0 ∨ mtB a c = 1 := by unfold mtB; split; exact Or.inr rfl; exact Or.inl rfl
theorem fR_mt {a c : ceT} {z : Int32} {f : Nat → Int32} (h : fR a.i c.i (a.tr 0) (c.tr 0) z f) : z = mtB a c ∧ ∀ v, mtc a c = some v → ∀ j, j < a.i → f j = nI (v j) := by
  unfold mtB mtc
  rcases h with ⟨rfl, e, v, hv, hf⟩ | ⟨rfl, h⟩
  · rw [dif_pos ⟨e, v, hv⟩]
    refine ⟨rfl, fun v' hv' j hj => ?_⟩
    cases hv'
    rw [hf j hj, LG_uq hv (Classical.choose_spec (⟨v, hv⟩ : ∃ v, LG a.i (a.tr 0) (c.tr 0) v)) j hj]
  · rw [dif_neg]
    · exact ⟨rfl, fun v hv => by cases hv⟩
    · rintro ⟨e, v, hv⟩
      rcases h with h | h
      · exact h e
      · exact h v hv.1
noncomputable def ordV (a c : ceT) (k : Nat) : Int32 := match mtc a c with
  | some v => nI (v k)
  | none => -1
noncomputable def aAlike (L : liT) (a c : Int32) : Except Nat Int32 := if ix a L.cc then (if ix c L.cc then .ok (mtB (L.cs a.toNatClampNeg) (L.cs c.toNatClampNeg)) else .error 1) else .error 1
noncomputable def aOrder (L : liT) (a c k : Int32) : Except Nat Int32 := if ix a L.cc then (if ix c L.cc then (if ix k (L.cs a.toNatClampNeg).i then .ok (ordV (L.cs a.toNatClampNeg) (L.cs c.toNatClampNeg) k.toNatClampNeg) else .error 1) else .error 1) else .error 1
def insG (L : liT) (c : Nat) : Nat → (Nat → Int32) → (Nat → Int32)
  | 0, f => upd f 0 (nI c)
  | k + 1, f => if cmb ((L.cs c).am 0) ((L.cs (f k).toNatClampNeg).am 0) (L.cs c).nm (L.cs (f k).toNatClampNeg).nm = 0 then upd f (k + 1) (nI c) else insG L c k (upd f (k + 1) (f k))
noncomputable def gaG (L : liT) (k : Nat) : Nat → Nat → (Nat → Int32) → Nat → (Nat → Int32) × Nat
  | 0, _, f, s => (f, s)
  | m + 1, c, f, s => if mtB (L.cs k) (L.cs c) = 0 then gaG L k m (c + 1) f s else gaG L k m (c + 1) (insG L c s f) (s + 1)
/-- who is of the family, so far -/
def gOK (L : liT) (f : Nat → Int32) (s c : Nat) : Prop := s ≤ c ∧ ∀ j, j < s → ∃ m, m < L.cc ∧ f j = nI m
theorem insG_ok {c s0 : Nat} (hc : c < L.cc) (h12 : L.cc ≤ 12) : ∀ s f, s ≤ s0 → (∀ j, j < s0 + 1 → j ≠ s → ∃ m, m < L.cc ∧ f j = nI m) → ∀ j, j < s0 + 1 → ∃ m, m < L.cc ∧ insG L c s f j = nI m := by
  intro s
  induction s with
  | zero =>
    intro f _ h j hj
    show ∃ m, m < L.cc ∧ upd f 0 (nI c) j = nI m
    by_cases e : j = 0
    · subst e; rw [pk_us]; exact ⟨c, hc, rfl⟩
    · rw [pk_un e]; exact h j hj e
  | succ s ih =>
    intro f hs h j hj
    unfold insG
    split
    · by_cases e : j = s + 1
      · subst e; rw [pk_us]; exact ⟨c, hc, rfl⟩
      · rw [pk_un e]; exact h j hj e
    · refine ih _ (by omega) (fun i hi hne => ?_) j hj
      by_cases e : i = s + 1
      · subst e; rw [pk_us]; exact h s (by omega) (by omega)
      · rw [pk_un e]; exact h i hi e
theorem gOK_ins {f : Nat → Int32} {s c : Nat} (h : gOK L f s c) (hc : c < L.cc) (h12 : L.cc ≤ 12) : gOK L (insG L c s f) (s + 1) (c + 1) := ⟨by have := h.1; omega, insG_ok hc h12 s f (Nat.le_refl _) (fun j hj hne => h.2 j (by omega))⟩
theorem gOK_up {f : Nat → Int32} {s c : Nat} (h : gOK L f s c) : gOK L f s (c + 1) := ⟨by have := h.1; omega, h.2⟩
theorem gaG_ok {k : Nat} (h12 : L.cc ≤ 12) : ∀ m c f s, c + m = L.cc → gOK L f s c → gOK L (gaG L k m c f s).1 (gaG L k m c f s).2 L.cc := by
  intro m
  induction m with
  | zero => intro c f s hm h; obtain rfl : c = L.cc := by omega
            exact h
  | succ m ih =>
    intro c f s hm h
    unfold gaG
    split
    · exact ih _ _ _ (by omega) (gOK_up h)
    · exact ih _ _ _ (by omega) (gOK_ins h (by omega) h12)
noncomputable def aFamily (L : liT) (k i : Int32) (f : Nat → Int32) : Except Nat Int32 := if ix k L.cc then (if 0 ≤ i then .ok (if i < nI (gaG L k.toNatClampNeg L.cc 0 f 0).2 then (gaG L k.toNatClampNeg L.cc 0 f 0).1 i.toNatClampNeg else -1) else .error 1) else .error 1
noncomputable def gaF (L : liT) (k : Int32) (p : Prop) [Decidable p] (f : Nat → Int32) : Nat → Int32 := if ix k L.cc ∧ p then (gaG L k.toNatClampNeg L.cc 0 f 0).1 else f
def bsG (L : liT) (f : Nat → Int32) (ld : Int32) : Nat → Nat → Int32 → Int32
  | 0, _, x => x
  | m + 1, i, x => bsG L f ld m (i + 1) (if ld ≤ (L.cs (f i).toNatClampNeg).am 1 ∧ (x = -1 ∨ (L.cs (f i).toNatClampNeg).am 2 < (L.cs x.toNatClampNeg).am 2) then f i else x)
noncomputable def aBest (L : liT) (k ld : Int32) (f : Nat → Int32) : Except Nat Int32 := if ix k L.cc then (if ld < 0 then .error 2 else .ok (bsG L (gaG L k.toNatClampNeg L.cc 0 f 0).1 ld (gaG L k.toNatClampNeg L.cc 0 f 0).2 0 (-1))) else .error 1
/-- only the rows way and members are different -/
def vK (F F' : mF) : Prop := (∀ j, F'.s j = F.s j) ∧ (∀ r, r ≠ 23 → r ≠ 24 → F'.a r = F.a r) ∧ F'.l = F.l
theorem vK.rf : vK F F := ⟨fun _ => rfl, fun _ _ _ => rfl, rfl⟩
theorem vK.tr {F F1 F2 : mF} (h : vK F F1) (h2 : vK F1 F2) : vK F F2 := ⟨fun j => (h2.1 j).trans (h.1 j), fun r a c => (h2.2.1 r a c).trans (h.2.1 r a c), h2.2.2.trans h.2.2⟩
theorem vK.u {r : Nat} {f : Nat → Int32} (hr : r = 23 ∨ r = 24) : vK F (F.uA r f) := ⟨fun _ => rfl, fun k a c => uA_n (by omega), rfl⟩
theorem libR.vK {F' : mF} (h : libR F b L) (k : vK F F') : libR F' b L := by
  have e : ∀ r, r ≤ 20 → F'.a r = F.a r := fun r hr => k.2.1 r (by omega) (by omega)
  unfold libR tabN tabR celR
  rw [k.2.2, e 2 (by omega), e 9 (by omega), e 4 (by omega), e 5 (by omega), e 6 (by omega), e 7 (by omega), e 8 (by omega), e 11 (by omega), e 13 (by omega), e 14 (by omega), e 18 (by omega), e 15 (by omega), e 16 (by omega), e 19 (by omega), e 20 (by omega)]
  exact h
theorem mZ.vK {F' : mF} (h : mZ F T n b L) (k : vK F F') : mZ F' T n b L := ⟨(k.2.1 1 (by omega) (by omega)).trans h.1, (k.1 1).trans h.2.1, h.2.2.1, (k.1 3).trans h.2.2.2.1, h.2.2.2.2.1, h.2.2.2.2.2.1.vK k, h.2.2.2.2.2.2⟩
theorem mZ.u0 {v : Int32} (h : mZ F T n b L) : mZ (F.uS 0 v) T n b L := h
theorem m_fnd {ja jc : Nat} (hz : mZ F T n b L) (ha : ja < L.cc) (hc : jc < L.cc) : yC w (d + 1) mX11_find [.ref o, .int (nI (12 * b + ja)), .int (nI (12 * b + jc))] o F (fun r F' => r = some (.int (mtB (L.cs ja) (L.cs jc))) ∧ ∃ f, F' = F.uA 23 f ∧ ∀ v, mtc (L.cs ja) (L.cs jc) = some v → ∀ j, j < (L.cs ja).i → f j = nI (v j)) := by
  obtain ⟨rc, wc, o0, c24, _, _⟩ := hz.cell ha
  obtain ⟨rc', wc', o0', c24', _, _⟩ := hz.cell hc
  refine yC_imp (m_find wc.1 wc'.1 c24 c24' rc.2.2.1 rc'.2.2.1 (rc.2.2.2.2.2.2.2.2.2.2.1 0 o0) (rc'.2.2.2.2.2.2.2.2.2.2.1 0 o0')) ?_
  rintro r F' ⟨z, f, rfl, rfl, h⟩
  obtain ⟨rfl, h2⟩ := fR_mt h
  exact ⟨rfl, f, rfl, h2⟩
theorem q_alike (hz : mZ F T n b L) (a c : Int32) : yC w (d + 2) mX11_alike [.ref o, .int a, .int c] o F (fun r F' => r = some (.int (vI (aAlike L a c))) ∧ vK (F.uS 0 (eN (aAlike L a c))) F' ∧ F'.a 24 = F.a 24) := by
  refine yC_of (by decide) (ble rfl) (ls := [some (.ref o), some (.int a), some (.int c)]) rfl ?_
  have E : aAlike L a c = .error 1 → Y w mX11_alike (d + 2) (fun r F' => r = some (.int (vI (aAlike L a c))) ∧ vK (F.uS 0 (eN (aAlike L a c))) F' ∧ F'.a 24 = F.a 24) o 21 [some (.ref o), some (.int a), some (.int c)] [.ref o] F := by
    intro e
    rw [e]
    refine yX11_alike_21 (yX11_alike_22 (yX11_alike_25 (yX11_alike_26 (yX11_alike_29 (fun _ => ?_) (fun h => absurd (show (1 : Int32) = 0 from h) (by decide))))))
    refine yX11_alike_61 (yX11_alike_62 (Or.inl rfl) ⟨rfl, vK.rf, rfl⟩)
  refine yX11_alike_0 (yX11_alike_1 (yX11_alike_2 (yX11_alike_3 (ble rfl) (m_isCell hz a) (yX11_alike_6 (fun h6 => ?_) (fun h6 => ?_)))))
  · exact E (if_neg (b1_0 h6))
  have g6 := b1_1 h6
  refine yX11_alike_9 (yX11_alike_10 (yX11_alike_11 (ble rfl) (m_isCell hz c) (yX11_alike_14 (fun h7 => ?_) (fun h7 => ?_))))
  · exact E (by unfold aAlike; rw [if_pos g6, if_neg (b1_0 h7)])
  have g7 := b1_1 h7
  obtain ⟨ja, hja, rfl⟩ := ix_of hz.cc g6
  obtain ⟨jc, hjc, rfl⟩ := ix_of hz.cc g7
  obtain ⟨_, _, _, _, ea, ja31⟩ := hz.cell hja
  obtain ⟨_, _, _, _, ec, jc31⟩ := hz.cell hjc
  rw [show aAlike L (nI ja) (nI jc) = .ok (mtB (L.cs ja) (L.cs jc)) by unfold aAlike; rw [if_pos g6, if_pos g7, nI_clamp ja31, nI_clamp jc31]]
  refine yX11_alike_17 (yX11_alike_18 (yX11_alike_22 (yX11_alike_25 (yX11_alike_26 (yX11_alike_29 (fun h => absurd (show (0 : Int32) = 0 from rfl) h) (fun _ => ?_))))))
  refine yX11_alike_32 (yX11_alike_33 (yX11_alike_35 (yX11_alike_36 (yX11_alike_39 (yX11_alike_40 (yX11_alike_41 (yX11_alike_42 (yX11_alike_44 (yX11_alike_45 (yX11_alike_48 (yX11_alike_49 (yX11_alike_50 ?_))))))))))))
  rw [show (12 : Int32) * (F.uS 0 0).s 3 + nI ja = nI (12 * b + ja) from ea, show (12 : Int32) * (F.uS 0 0).s 3 + nI jc = nI (12 * b + jc) from ec]
  refine yX11_alike_51_g (ble rfl) (m_fnd (F := F.uS 0 0) hz.u0 hja hjc) (fun r F1 hF => ?_)
  obtain ⟨rfl, f, rfl, _⟩ := hF
  show Y w mX11_alike (d + 2) _ o 54 _ [.int (mtB (L.cs ja) (L.cs jc))] _
  refine yX11_alike_54 (fun h => ?_) (fun h => ?_)
  · refine yX11_alike_61 (yX11_alike_62 (Or.inl rfl) ⟨congrArg (fun z => some (Value.int z)) h.symm, vK.u (Or.inl rfl), rfl⟩)
  · refine yX11_alike_57 (yX11_alike_58 (yX11_alike_62 (Or.inr rfl) ⟨congrArg (fun z => some (Value.int z)) ((mtB_01 _ _).resolve_left h).symm, vK.u (Or.inl rfl), rfl⟩))
theorem q_order (hz : mZ F T n b L) (a c k : Int32) : yC w (d + 2) mX11_order [.ref o, .int a, .int c, .int k] o F (fun r F' => r = some (.int (vI (aOrder L a c k))) ∧ vK (F.uS 0 (eN (aOrder L a c k))) F' ∧ F'.a 24 = F.a 24) := by
  refine yC_of (by decide) (ble rfl) (ls := [some (.ref o), some (.int a), some (.int c), some (.int k)]) rfl ?_
  have E : aOrder L a c k = .error 1 → Y w mX11_order (d + 2) (fun r F' => r = some (.int (vI (aOrder L a c k))) ∧ vK (F.uS 0 (eN (aOrder L a c k))) F' ∧ F'.a 24 = F.a 24) o 39 [some (.ref o), some (.int a), some (.int c), some (.int k)] [.ref o] F := by
    intro e
    rw [e]
    refine yX11_order_39 (yX11_order_40 (yX11_order_44 (yX11_order_47 (yX11_order_48 (yX11_order_51 (fun h => absurd h n10) (fun _ => ?_))))))
    refine yX11_order_54 (yX11_order_55 (yX11_order_93 ⟨rfl, vK.rf, rfl⟩))
  refine yX11_order_0 (yX11_order_1 (yX11_order_2 (yX11_order_3 (ble rfl) (m_isCell hz a) (yX11_order_6 (fun h6 => ?_) (fun h6 => ?_)))))
  · exact E (if_neg (b1_0 h6))
  have g6 := b1_1 h6
  refine yX11_order_9 (yX11_order_10 (yX11_order_11 (ble rfl) (m_isCell hz c) (yX11_order_14 (fun h7 => ?_) (fun h7 => ?_))))
  · exact E (by unfold aOrder; rw [if_pos g6, if_neg (b1_0 h7)])
  have g7 := b1_1 h7
  obtain ⟨ja, hja, rfl⟩ := ix_of hz.cc g6
  obtain ⟨jc, hjc, rfl⟩ := ix_of hz.cc g7
  obtain ⟨rc, wc, _, a24, ea, ja31⟩ := hz.cell hja
  obtain ⟨_, _, _, _, ec, jc31⟩ := hz.cell hjc
  have w1 := wc.1
  have e1 : aOrder L (nI ja) (nI jc) k = if ix k (L.cs ja).i then .ok (ordV (L.cs ja) (L.cs jc) k.toNatClampNeg) else .error 1 := by unfold aOrder; rw [if_pos g6, if_pos g7, nI_clamp ja31, nI_clamp jc31]
  refine yX11_order_17 (yX11_order_18 (fun h8 => ?_) (fun h8 => ?_))
  · exact E (e1.trans (if_neg (fun z => z.1 h8)))
  refine yX11_order_21 (yX11_order_22 (yX11_order_23 (yX11_order_26 (yX11_order_28 (yX11_order_29 (yX11_order_32 (yX11_order_33 (yX11_order_34 (yX11_order_35 (ble rfl) rfl (i := 12 * b + ja) ea a24 ?_)))))))))
  rw [rc.2.2.1]
  refine yX11_order_36 (fun h9 => ?_) (fun h9 => ?_)
  rotate_left
  · exact E (e1.trans (if_neg (fun z => h9 z.2)))
  rw [e1, if_pos ⟨h8, h9⟩]
  obtain ⟨q, hq, rfl⟩ := ix_of (n := (L.cs ja).i) (by omega) ⟨h8, h9⟩
  rw [nI_clamp (by omega)]
  refine yX11_order_43 (yX11_order_44 (yX11_order_47 (yX11_order_48 (yX11_order_51 (fun _ => ?_) (fun h => absurd z00 h)))))
  refine yX11_order_58 (yX11_order_59 (yX11_order_61 (yX11_order_62 (yX11_order_65 (yX11_order_66 (yX11_order_67 (yX11_order_68 (yX11_order_70 (yX11_order_71 (yX11_order_74 (yX11_order_75 (yX11_order_76 ?_))))))))))))
  rw [show (12 : Int32) * (F.uS 0 0).s 3 + nI ja = nI (12 * b + ja) from ea, show (12 : Int32) * (F.uS 0 0).s 3 + nI jc = nI (12 * b + jc) from ec]
  refine yX11_order_77_g (ble rfl) (m_fnd (F := F.uS 0 0) hz.u0 hja hjc) (fun r F1 hF => ?_)
  obtain ⟨rfl, f, rfl, hf⟩ := hF
  show Y w mX11_order (d + 2) _ o 80 _ [.int (mtB (L.cs ja) (L.cs jc))] _
  unfold ordV
  match hm : mtc (L.cs ja) (L.cs jc) with
  | none =>
    have hb : mtB (L.cs ja) (L.cs jc) = 0 := by unfold mtB; rw [hm]; rfl
    refine yX11_order_80 (fun _ => ?_) (fun h => absurd hb h)
    refine yX11_order_92 (yX11_order_93 ⟨rfl, vK.u (Or.inl rfl), rfl⟩)
  | some v =>
    have hb : mtB (L.cs ja) (L.cs jc) = 1 := by unfold mtB; rw [hm]; rfl
    refine yX11_order_80 (fun h => absurd (hb.symm.trans h) (by decide)) (fun _ => ?_)
    refine yX11_order_83 (yX11_order_84 (yX11_order_87 (yX11_order_88 (ble rfl) rfl (i := q) rfl (by omega) (yX11_order_89 (yX11_order_93 ⟨congrArg (fun z => some (Value.int z)) (hf v hm q hq), vK.u (Or.inl rfl), rfl⟩)))))
theorem m_isBefore {ja jc : Nat} (hz : mZ F T n b L) (ha : ja < L.cc) (hc : jc < L.cc) : yC w d mX11_isBefore [.ref o, .int (nI ja), .int (nI jc)] o F (yR (some (.int (cmb ((L.cs ja).am 0) ((L.cs jc).am 0) (L.cs ja).nm (L.cs jc).nm))) F) := by
  obtain ⟨rc, wc, _, a24, ea, ja31⟩ := hz.cell ha
  obtain ⟨rc', wc', _, c24, ec, jc31⟩ := hz.cell hc
  have g1 : F.a 15 (3 * (12 * b + ja)) = (L.cs ja).am 0 := rc.2.2.2.2.2.2.2.1 0 (by omega)
  have g2 : F.a 15 (3 * (12 * b + jc)) = (L.cs jc).am 0 := rc'.2.2.2.2.2.2.2.1 0 (by omega)
  refine yC_of (by decide) (ble rfl) (ls := [some (.ref o), some (.int (nI ja)), some (.int (nI jc)), none, none]) rfl ?_
  refine yX11_isBefore_0 (yX11_isBefore_1 (yX11_isBefore_4 (yX11_isBefore_5 (yX11_isBefore_7 (yX11_isBefore_8 (yX11_isBefore_11 (yX11_isBefore_12 (yX11_isBefore_13 (yX11_isBefore_14 (yX11_isBefore_15 (ble rfl) rfl (i := 3 * (12 * b + ja)) (by rw [ea]; exact pk_mul 3 _) (by omega) ?_))))))))))
  rw [g1]
  refine yX11_isBefore_16 rfl (yX11_isBefore_17 (yX11_isBefore_18 (yX11_isBefore_21 (yX11_isBefore_22 (yX11_isBefore_24 (yX11_isBefore_25 (yX11_isBefore_28 (yX11_isBefore_29 (yX11_isBefore_30 (yX11_isBefore_31 (yX11_isBefore_32 (ble rfl) rfl (i := 3 * (12 * b + jc)) (by rw [ec]; exact pk_mul 3 _) (by omega) ?_)))))))))))
  rw [g2]
  unfold cmb
  refine yX11_isBefore_33 rfl (yX11_isBefore_35 (yX11_isBefore_36 (yX11_isBefore_38 (fun h => ?_) (fun h => ?_))))
  · rw [if_pos h]
    refine yX11_isBefore_55 (yX11_isBefore_56 (yX11_isBefore_59 (yX11_isBefore_61 (yX11_isBefore_62 (yX11_isBefore_65 (yX11_isBefore_66 (yX11_isBefore_67 (yX11_isBefore_68 (ble rfl) rfl (i := 12 * b + ja) ea a24 ?_))))))))
    rw [rc.1]
    refine yX11_isBefore_69 (yX11_isBefore_70 (yX11_isBefore_73 (yX11_isBefore_75 (yX11_isBefore_76 (yX11_isBefore_79 (yX11_isBefore_80 (yX11_isBefore_81 (yX11_isBefore_82 (ble rfl) rfl (i := 12 * b + jc) ec c24 ?_))))))))
    rw [rc'.1]
    refine yX11_isBefore_83 (yX11_isBefore_84 (fun h2 => ?_) (fun h2 => ?_))
    · rw [lg_cmp_ge] at h2
      refine yX11_isBefore_91 (yX11_isBefore_92 (Or.inl rfl) ⟨by rw [if_neg (Int64.not_lt.mpr h2)], rfl⟩)
    · rw [lg_cmp_ge] at h2
      refine yX11_isBefore_87 (yX11_isBefore_88 (yX11_isBefore_92 (Or.inr rfl) ⟨by rw [if_pos (Int64.not_le.mp h2)], rfl⟩))
  · rw [if_neg h]
    refine yX11_isBefore_41 (yX11_isBefore_42 (yX11_isBefore_44 (fun h2 => ?_) (fun h2 => ?_)))
    · refine yX11_isBefore_51 (yX11_isBefore_52 (yX11_isBefore_92 (Or.inl rfl) ⟨by rw [if_neg (by grind)], rfl⟩))
    · refine yX11_isBefore_47 (yX11_isBefore_48 (yX11_isBefore_92 (Or.inr rfl) ⟨by rw [if_pos (by grind)], rfl⟩))
theorem uA24 {f g : Nat → Int32} : (F.uA 24 f).uA 24 g = F.uA 24 g := uA_uA
theorem m_gather {k : Nat} (hz : mZ F T n b L) (hk : k < L.cc) : yC w (d + 2) mX11_gather [.ref o, .int (nI k)] o F (fun r F' => r = some (.int (nI (gaG L k L.cc 0 (F.a 24) 0).2)) ∧ vK F F' ∧ F'.a 24 = (gaG L k L.cc 0 (F.a 24) 0).1) := by
  have h12 : L.cc ≤ 12 := hz.2.2.2.2.2.2.2.1
  refine yC_of (by decide) (ble rfl) (ls := [some (.ref o), some (.int (nI k)), none, none, none]) rfl ?_
  have Lp : ∀ m c s (F1 : mF) (l4 : Option Value), c + m = L.cc → vK F F1 → gOK L (F1.a 24) s c → Y w mX11_gather (d + 2) (fun r F' => r = some (.int (nI (gaG L k m c (F1.a 24) s).2)) ∧ vK F F' ∧ F'.a 24 = (gaG L k m c (F1.a 24) s).1) o 4 [some (.ref o), some (.int (nI k)), some (.int (nI s)), some (.int (nI c)), l4] [] F1 := by
    intro m
    induction m with
    | zero =>
      intro c s F1 l4 hc hv hg
      obtain ⟨_, _, _, s3, hb, hL, hw⟩ := hz.vK hv
      obtain rfl : c = L.cc := by omega
      refine yX11_gather_4 (yX11_gather_5 (yX11_gather_6 (yX11_gather_9 (yX11_gather_10 (yX11_gather_13 (ble rfl) rfl (i := b) s3 hb ?_)))))
      rw [hL.2.1]
      refine yX11_gather_14 (fun _ => ?_) (fun h9 => absurd (Int32.le_refl _) h9)
      refine yX11_gather_106 (yX11_gather_107 ⟨rfl, hv, rfl⟩)
    | succ m ih =>
      intro c s F1 l4 hc hv hg
      have z1 := hz.vK hv
      obtain ⟨_, _, _, s3, hb, hL, hw⟩ := id z1
      obtain ⟨_, _, _, _, ek, _⟩ := z1.cell hk
      obtain ⟨_, _, _, _, ec, _⟩ := z1.cell (show c < L.cc by omega)
      refine yX11_gather_4 (yX11_gather_5 (yX11_gather_6 (yX11_gather_9 (yX11_gather_10 (yX11_gather_13 (ble rfl) rfl (i := b) s3 hb ?_)))))
      rw [hL.2.1]
      refine yX11_gather_14 (fun h9 => absurd h9 (nI_ge (by omega) (by omega))) (fun _ => ?_)
      refine yX11_gather_17 (yX11_gather_18 (yX11_gather_20 (yX11_gather_21 (yX11_gather_24 (yX11_gather_25 (yX11_gather_26 (yX11_gather_27 (yX11_gather_29 (yX11_gather_30 (yX11_gather_33 (yX11_gather_34 (yX11_gather_35 ?_))))))))))))
      rw [ek, ec]
      refine yX11_gather_36_g (ble rfl) (m_fnd z1 hk (by omega)) (fun r F2 hF => ?_)
      obtain ⟨rfl, f, rfl, _⟩ := hF
      have hv2 : vK F (F1.uA 23 f) := hv.tr (vK.u (Or.inl rfl))
      have a24 : (F1.uA 23 f).a 24 = F1.a 24 := rfl
      show Y w mX11_gather (d + 2) _ o 39 _ [.int (mtB (L.cs k) (L.cs c))] _
      rw [← a24] at hg ⊢
      generalize F1.uA 23 f = F2 at hv2 hg ⊢
      refine yX11_gather_39 (fun h => ?_) (fun h => ?_)
      · rw [show gaG L k (m + 1) c (F2.a 24) s = gaG L k m (c + 1) (F2.a 24) s from if_pos h]
        refine yX11_gather_100 rfl (yX11_gather_103 ?_)
        rw [nI_1]
        exact ih (c + 1) s F2 _ (by omega) hv2 (gOK_up hg)
      · rw [show gaG L k (m + 1) c (F2.a 24) s = gaG L k m (c + 1) (insG L c s (F2.a 24)) (s + 1) from if_neg h]
        have hs := hg.1
        have hins := gOK_ins hg (by omega) h12
        have In : ∀ q F3, q ≤ s → vK F F3 → (∀ j, j < s + 1 → j ≠ q → ∃ m, m < L.cc ∧ F3.a 24 j = nI m) → insG L c q (F3.a 24) = insG L c s (F2.a 24) → Y w mX11_gather (d + 2) (fun r F' => r = some (.int (nI (gaG L k m (c + 1) (insG L c s (F2.a 24)) (s + 1)).2)) ∧ vK F F' ∧ F'.a 24 = (gaG L k m (c + 1) (insG L c s (F2.a 24)) (s + 1)).1) o 45 [some (.ref o), some (.int (nI k)), some (.int (nI s)), some (.int (nI c)), some (.int (nI q))] [] F3 := by
          intro q
          induction q with
          | zero =>
            intro F3 _ hv3 hj he
            refine yX11_gather_45 (yX11_gather_47 (fun _ => ?_) (fun h9 => absurd (show (0 : Int32) ≤ 0 from z00) h9))
            refine yX11_gather_89 (yX11_gather_90 (yX11_gather_93 (yX11_gather_95 (yX11_gather_96 (ble rfl) (fun _ => rfl) (i := 0) rfl (by omega) (yX11_gather_97 rfl (yX11_gather_100 rfl (yX11_gather_103 ?_)))))))
            rw [nI_1, nI_1, ← he]
            have e24 : (F3.uA 24 (upd (F3.a 24) 0 (nI c))).a 24 = insG L c 0 (F3.a 24) := rfl
            rw [← e24]
            refine ih (c + 1) (s + 1) _ _ (by omega) (hv3.tr (vK.u (Or.inr rfl))) ?_
            rw [e24, he]; exact hins
          | succ q ihq =>
            intro F3 hq hv3 hj he
            have z3 := hz.vK hv3
            obtain ⟨m', hm', em⟩ := hj q (by omega) (by omega)
            have hq0 : ¬ nI (q + 1) ≤ 0 := nI_ge (a := 0) (by omega) (by omega)
            have eq1 : nI (q + 1) - 1 = nI q := by rw [← nI_1]; grind
            refine yX11_gather_45 (yX11_gather_47 (fun h9 => absurd h9 hq0) (fun _ => ?_))
            refine yX11_gather_50 (yX11_gather_51 (yX11_gather_52 (yX11_gather_53 (yX11_gather_56 (yX11_gather_58 (yX11_gather_59 ?_))))))
            rw [eq1]
            refine yX11_gather_60 (ble rfl) rfl (i := q) rfl (by omega) ?_
            rw [em]
            refine yX11_gather_61 (ble rfl) (m_isBefore z3 (by omega) hm') ?_
            have he' : insG L c (q + 1) (F3.a 24) = if cmb ((L.cs c).am 0) ((L.cs m').am 0) (L.cs c).nm (L.cs m').nm = 0 then upd (F3.a 24) (q + 1) (nI c) else insG L c q (upd (F3.a 24) (q + 1) (F3.a 24 q)) := by
              rw [insG, em, nI_clamp (by omega)]
            rw [he] at he'
            refine yX11_gather_64 (fun h9 => ?_) (fun h9 => ?_)
            · rw [if_pos h9] at he'
              refine yX11_gather_89 (yX11_gather_90 (yX11_gather_93 (yX11_gather_95 (yX11_gather_96 (ble rfl) (fun _ => rfl) (i := q + 1) rfl (by omega) (yX11_gather_97 rfl (yX11_gather_100 rfl (yX11_gather_103 ?_)))))))
              rw [nI_1, nI_1, he']
              have e24 : (F3.uA 24 (upd (F3.a 24) (q + 1) (nI c))).a 24 = upd (F3.a 24) (q + 1) (nI c) := rfl
              rw [← e24]
              refine ih (c + 1) (s + 1) _ _ (by omega) (hv3.tr (vK.u (Or.inr rfl))) ?_
              rw [e24, ← he']; exact hins
            · rw [if_neg h9] at he'
              refine yX11_gather_67 (yX11_gather_68 (yX11_gather_71 (yX11_gather_73 (yX11_gather_74 (yX11_gather_77 (yX11_gather_79 (yX11_gather_80 ?_)))))))
              rw [eq1]
              refine yX11_gather_81 (ble rfl) rfl (i := q) rfl (by omega) (yX11_gather_82 (ble rfl) (fun _ => rfl) (i := q + 1) rfl (by omega) (yX11_gather_83 rfl (yX11_gather_86 ?_)))
              rw [show nI (q + 1) + -1 = nI q by rw [← nI_1]; grind]
              refine ihq _ (by omega) (hv3.tr (vK.u (Or.inr rfl))) (fun j h1 h2 => ?_) he'.symm
              show ∃ m, m < L.cc ∧ upd (F3.a 24) (q + 1) (F3.a 24 q) j = nI m
              by_cases e : j = q + 1
              · subst e; rw [pk_us]; exact ⟨m', hm', em⟩
              · rw [pk_un e]; exact hj j h1 e
        refine yX11_gather_42 (yX11_gather_43 rfl ?_)
        exact In s F2 (Nat.le_refl _) hv2 (fun j hj hne => hg.2 j (by omega)) rfl
  refine yX11_gather_0 (yX11_gather_1 rfl (yX11_gather_2 (yX11_gather_3 rfl ?_)))
  exact Lp L.cc 0 0 F none (by omega) vK.rf ⟨Nat.le_refl _, fun j hj => by omega⟩
end Q6
