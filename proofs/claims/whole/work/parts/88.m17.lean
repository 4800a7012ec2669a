section M17
variable {w : xWd} {d o : Nat} {F F0 F1 F2 : mF} {T : Nat → Int32} {n : Nat}
variable {u k q r t : Nat}
/-! numbers are below 1000000 -/
theorem dig_c {c : Int32} (h : ¬ bDg c = 0) : ∃ k : Nat, c - 48 = nI k ∧ k ≤ 9 := by
  have h1 : 48 ≤ c ∧ c ≤ 57 := by
    unfold bDg at h
    grind
  obtain ⟨j, h2, h3⟩ := nI_of2 (x := c) (M := 57) (n := 57) (by decide) (by grind) h1.2
  have h4 := h1.1
  rw [h3, show (48 : Int32) = nI 48 from rfl, nI_leI (by omega) (by omega)] at h4
  obtain ⟨i, rfl⟩ : ∃ i, j = 48 + i := ⟨j - 48, by omega⟩
  refine ⟨i, ?_, by omega⟩
  rw [h3, ← nI_add]
  show (48 : Int32) + nI i - 48 = nI i
  grind
theorem nmb_c (t : Nat → Int32) : ∀ m i p a, a < 10 ^ p → (∀ j, i ≤ j → j < i + m → ¬ bDg (t j) = 0) → ∃ r, r < 10 ^ (p + m) ∧ nmb t m i (nI a) = nI r := by
  intro m
  induction m with
  | zero => intro i p a ha _; exact ⟨a, ha, rfl⟩
  | succ m ih =>
    intro i p a ha h
    obtain ⟨k, h1, h2⟩ := dig_c (h i (by omega) (by omega))
    have e : 10 * nI a + (t i - 48) = nI (10 * a + k) := by
      rw [h1]
      exact ixm 10 a k
    show ∃ r, r < 10 ^ (p + (m + 1)) ∧ nmb t m (i + 1) (10 * nI a + (t i - 48)) = nI r
    rw [e, show p + (m + 1) = (p + 1) + m by omega]
    exact ih (i + 1) (p + 1) (10 * a + k) (by rw [Nat.pow_succ]; omega) (fun j a b => h j (by omega) (by omega))
theorem sV_nb (hq : q ≤ n) (h : sK T n q = 2) : nb (sV T n q) := by
  rcases kcase T hq with z | z | z | z | z
  · omega
  · omega
  · obtain ⟨r, h1, h2⟩ := nmb_c T (sE T n q - sS T n q) (sS T n q) 0 0 (by decide) (fun j a b => z.2.2.2.2.1 j a (by omega))
    refine ⟨r, ?_, h2⟩
    have : 10 ^ (0 + (sE T n q - sS T n q)) ≤ 10 ^ 6 := Nat.pow_le_pow_right (by omega) (by omega)
    have : (10 : Nat) ^ 6 = 1000000 := by decide
    omega
  · omega
  · omega
def nbK (K : tkT) (n : Nat) : Prop := ∀ q, q ≤ n → K.K q = 2 → nb (K.V q)
theorem nb_tk : nbK (tkOf T n) n := fun _ hq h => sV_nb hq h
variable {K : tkT}
theorem nums_w (m : mo K n) (hb : nbK K n) : ∀ j i f q x, q ≤ n → rNums K j i f q = .ok x → (∀ l, i ≤ l → l < i + j → nb (x.1 l)) ∧ ∀ l, l < i → x.1 l = f l := by
  intro j
  induction j with
  | zero => intro i f q x hq h; cases h; exact ⟨fun l a b => by omega, fun _ _ => rfl⟩
  | succ j ih =>
    intro i f q x hq h
    obtain ⟨y, h1, h⟩ := bnd_ok h
    have a := mo_num m hq h1
    obtain ⟨b1, b2⟩ := ih _ _ _ _ a.2 h
    obtain ⟨h2, h3⟩ := dmd_ok h1
    cases h3
    refine ⟨fun l c1 c2 => ?_, fun l hl => ?_⟩
    · by_cases e : l = i
      · subst e; rw [b2 l (by omega), pk_us]; exact hb q hq h2
      · exact b1 l (by omega) (by omega)
    · rw [b2 l (by omega), pk_un (by omega)]
theorem ax_w (m : mo K n) (hb : nbK K n) : ∀ j k f q x, q ≤ n → rAx K j k f q = .ok x → (∀ l, l + 1 < k → f l < f (l + 1)) → (∀ l, l < k → nb (f l)) → pg q n x.2.2 ∧ x.2.1 ≤ k + j ∧ (∀ l, l + 1 < x.2.1 → x.1 l < x.1 (l + 1)) ∧ ∀ l, l < x.2.1 → nb (x.1 l) := by
  intro j
  induction j with
  | zero => intro k f q x hq h h1 h2; cases h; exact ⟨pg.rf hq, Nat.le_refl _, h1, h2⟩
  | succ j ih =>
    intro k f q x hq h h1 h2
    unfold rAx at h
    split at h
    · rename_i hk
      obtain ⟨h3, h⟩ := dmd_ok h
      have a := m q hq
      have c1 : ∀ l, l + 1 < k + 1 → upd f k (K.V q) l < upd f k (K.V q) (l + 1) := by
        intro l hl
        by_cases e : l + 1 = k
        · subst e
          rw [pk_un (by omega), pk_us]
          rcases h3 with z | z
          · omega
          · exact z
        · rw [pk_un (by omega), pk_un (by omega)]; exact h1 l (by omega)
      have c2 : ∀ l, l < k + 1 → nb (upd f k (K.V q) l) := by
        intro l hl
        by_cases e : l = k
        · subst e; rw [pk_us]; exact hb q hq hk
        · rw [pk_un e]; exact h2 l (by omega)
      obtain ⟨b1, b2, b3⟩ := ih _ _ _ _ a.2 h c1 c2
      exact ⟨a.tr b1, by omega, b3⟩
    · cases h; exact ⟨pg.rf hq, by show k ≤ k + (j + 1); omega, h1, h2⟩
theorem axis_w {f : Nat → Int32} {x : (Nat → Int32) × Nat × Nat} (m : mo K n) (hb : nbK K n) (hq : q ≤ n) (h : rAxis K f q = .ok x) : pg q n x.2.2 ∧ 1 ≤ x.2.1 ∧ x.2.1 ≤ 4 ∧ (∀ l, l + 1 < x.2.1 → x.1 l < x.1 (l + 1)) ∧ ∀ l, l < x.2.1 → nb (x.1 l) := by
  obtain ⟨y, h1, h⟩ := bnd_ok h
  obtain ⟨h2, h⟩ := dmd_ok h
  cases h
  obtain ⟨a, b, c, e⟩ := ax_w m hb _ _ _ _ _ hq h1 (fun l hl => by omega) (fun l hl => by omega)
  exact ⟨a, h2, by omega, c, e⟩
theorem tab_w {x0 : taT} {x : taT × Nat} (m : mo K n) (hb : nbK K n) (hq : q ≤ n) (h : rTab K x0 q = .ok x) : wT x.1 ∧ pg q n x.2 := by
  obtain ⟨q1, h1, h⟩ := bnd_ok h
  obtain ⟨y, h2, h⟩ := bnd_ok h
  obtain ⟨q2, h3, h⟩ := bnd_ok h
  obtain ⟨z, h4, h⟩ := bnd_ok h
  obtain ⟨q3, h5, h⟩ := bnd_ok h
  obtain ⟨v, h6, h⟩ := bnd_ok h
  obtain ⟨q4, h7, h⟩ := bnd_ok h
  cases h
  have p1 := mo_sign m hq h1
  obtain ⟨p2, a1, a2, a3, a4⟩ := axis_w m hb p1.2 h2
  have p3 := mo_sign m p2.2 h3
  obtain ⟨p4, b1, b2, b3, b4⟩ := axis_w m hb p3.2 h4
  have p5 := mo_sign m p4.2 h5
  have p6 := mo_nums m _ _ _ _ _ p5.2 h6
  have p7 := mo_sign m p6.2 h7
  obtain ⟨c1, _⟩ := nums_w m hb _ _ _ _ _ p5.2 h6
  exact ⟨⟨a1, a2, b1, b2, a3, b3, a4, b4, fun j hj => c1 j (by omega) (by have hj : j < y.2.1 * z.2.1 := hj; omega)⟩, ((((((p1.tr p2).tr p3).tr p4).tr p5).tr p6).tr p7)⟩
/-- only the row r is different, from lo to hi -/
def aW (F F' : mF) (r lo hi : Nat) : Prop := (∀ k, k ≠ r → F'.a k = F.a k) ∧ F'.l = F.l ∧ (∀ i, (i < lo ∨ hi ≤ i) → F'.a r i = F.a r i) ∧ ∀ j, j ≠ 23 → j ≠ 24 → j ≠ 25 → j ≠ 27 → j ≠ 28 → F'.s j = F.s j
variable {lo hi : Nat}
theorem aW.rf : aW F F r lo hi := ⟨fun _ _ => rfl, rfl, fun _ _ => rfl, fun _ _ _ _ _ _ => rfl⟩
theorem aW.tr (h : aW F F1 r lo hi) (h2 : aW F1 F2 r lo hi) : aW F F2 r lo hi := ⟨fun r hr => (h2.1 r hr).trans (h.1 r hr), h2.2.1.trans h.2.1, fun i hi => (h2.2.2.1 i hi).trans (h.2.2.1 i hi), fun j a b c d' e => (h2.2.2.2 j a b c d' e).trans (h.2.2.2 j a b c d' e)⟩
theorem keepT.aW (k : keepT F F1) : aW F F1 r lo hi := ⟨fun r _ => by rw [k.2.1], k.2.2, fun i _ => by rw [k.2.1], k.1⟩
theorem aW.up {i : Nat} {v : Int32} (h1 : lo ≤ i) (h2 : i < hi) : aW F (F.uA r (upd (F.a r) i v)) r lo hi := ⟨fun k hk => uA_n hk, rfl, fun j hj => by rw [uA_s]; exact pk_un (by omega), fun _ _ _ _ _ _ => rfl⟩
theorem aW.tW (h : aW F F1 r lo hi) (hr : 3 ≤ r ∧ r ≤ 8) (h1 : t * tsz r ≤ lo) (h2 : hi ≤ (t + 1) * tsz r) : tW F F1 t := by
  refine ⟨fun k i _ _ hi => ⟨?_, by rw [h.2.1]⟩, fun k hk _ => ⟨h.1 k (by omega), by rw [h.2.1]⟩, h.2.2.2 0 (by omega) (by omega) (by omega) (by omega) (by omega), h.2.2.2 3 (by omega) (by omega) (by omega) (by omega) (by omega), h.2.2.2 29 (by omega) (by omega) (by omega) (by omega) (by omega)⟩
  by_cases e : k = r
  · subst e; exact h.2.2.1 i (by omega)
  · rw [h.1 k e]
theorem al.uA {f : Nat → Int32} (h : al F T n q) (hr : r ≠ 1) : al (F.uA r f) T n q := ⟨(uA_n hr.symm).trans h.1, h.2⟩
theorem de.uA {p : Nat} {f : Nat → Int32} (h : de F T n p) (hr : r ≠ 1) : de (F.uA r f) T n p := ⟨(uA_n hr.symm).trans h.1, h.2⟩
def qA (F : mF) (T : Nat → Int32) (n r t : Nat) (R : Except Nat ((Nat → Int32) × Nat × Nat)) : Option Value → mF → Prop := fun v F' => aW F F' r (4 * t) (4 * t + 4) ∧ match R with
  | .ok x => v = some (.int (nI x.2.1)) ∧ al F' T n x.2.2 ∧ ∀ j, j < x.2.1 → F'.a r (4 * t + j) = x.1 j
  | .error p => (∃ k, v = some (.int (nI k)) ∧ k ≤ 4) ∧ de F' T n p
theorem ax_D {p : Nat} (hr : r < 25) (hr1 : r ≠ 1) (hE : ∀ F : mF, mE o F r = xA 0 96 (F.a r)) (ht : t < 24) (hk : k < 4) (h : de F T n p) (ha : aW F0 F r (4 * t) (4 * t + 4)) : Y w mX11_axis (d + 3) (qA F0 T n r t (.error p)) o 61 [some (.ref o), some (.ref (o + r)), some (.int (nI (4 * t))), some (.int (nI k))] [] F := by
  refine yX11_axis_61 (yX11_axis_62 (yX11_axis_63 (yX11_axis_64 (yX11_axis_65 (yX11_axis_66 ?_)))))
  refine yX11_axis_69 hr hE (i := 4 * t + k) (nI_add _ _) (by omega) ?_
  have h1 : de (F.uA r (upd (F.a r) (4 * t + k) (F.s 27))) T n p := h.uA hr1
  have ha1 := ha.tr (aW.up (r := r) (i := 4 * t + k) (v := F.s 27) (by omega) (by omega))
  generalize F.uA r (upd (F.a r) (4 * t + k) (F.s 27)) = F1 at h1 ha1 ⊢
  refine yX11_axis_70 (yX11_axis_71 (yX11_axis_72 (yX11_axis_75 (fun _ => ?_) (fun h9 => absurd h1.2.2.2.1 h9))))
  refine yX11_axis_82 (yX11_axis_83 ?_)
  rw [show nI k + 0 = nI k from nI_add k 0]
  refine yX11_axis_84 rfl (yX11_axis_85 (yX11_axis_86 (ble rfl) (g_d h1.2.2.2.1) (yX11_axis_89 (yX11_axis_2 (yX11_axis_3 (yX11_axis_6 (fun _ => ?_) (fun h9 => absurd h1.2.2.2.1 h9)))))))
  refine yX11_axis_92 (yX11_axis_93 ⟨ha1, ⟨k, rfl, by omega⟩, h1⟩)
def rAxF (K : tkT) (m k : Nat) (f : Nat → Int32) (q : Nat) : Except Nat ((Nat → Int32) × Nat × Nat) := bnd (rAx K m k f q) (fun x => dmd (0 < x.2.1) (K.S x.2.2) (.ok x))
theorem ax_L (hr : r < 25) (hr1 : r ≠ 1) (hE : ∀ F : mF, mE o F r = xA 0 96 (F.a r)) (ht : t < 24) :
    ∀ m k f F q, k + m = 4 → al F T n q → aW F0 F r (4 * t) (4 * t + 4) → (∀ j, j < k → F.a r (4 * t + j) = f j) →
      Y w mX11_axis (d + 3) (qA F0 T n r t (rAxF (tkOf T n) m k f q)) o 2 [some (.ref o), some (.ref (o + r)), some (.int (nI (4 * t))), some (.int (nI k))] [] F := by
  intro m
  induction m with
  | zero =>
    intro k f F q hk ha hw hf
    refine yX11_axis_2 (yX11_axis_3 (yX11_axis_6 (fun h9 => absurd (ha.2.2.2.1.symm.trans h9) (by decide)) (fun _ => ?_)))
    refine yX11_axis_9 (yX11_axis_10 (yX11_axis_11 (fun _ => ?_) (fun h9 => absurd (nI_le (a := 4) (by omega) (by omega)) h9)))
    rw [show rAxF (tkOf T n) 0 k f q = .ok (f, k, q) from dmd_t (show 0 < k by omega)]
    refine yX11_axis_92 (yX11_axis_93 ⟨hw, rfl, ha, hf⟩)
  | succ m ih =>
    intro k f F q hk ha hw hf
    have htk := ha.2.2.2.2.2
    have hq := ha.2.2.2.2.1
    have h4 := sK_le T hq
    refine yX11_axis_2 (yX11_axis_3 (yX11_axis_6 (fun h9 => absurd (ha.2.2.2.1.symm.trans h9) (by decide)) (fun _ => ?_)))
    refine yX11_axis_9 (yX11_axis_10 (yX11_axis_11 (fun h9 => absurd h9 (nI_ge (b := 4) (by omega) (by omega))) (fun _ => ?_)))
    have D : ∀ R, R = Except.error (sS T n q) → Y w mX11_axis (d + 3) (qA F0 T n r t R) o 58 [some (.ref o), some (.ref (o + r)), some (.int (nI (4 * t))), some (.int (nI k))] [.int 0, .ref o] F := by
      intro R hR
      rw [hR]
      refine yX11_axis_58 (ble rfl) n_0 ?_
      exact ax_D hr hr1 hE ht (by omega) ha.die (hw.tr die_kT.aW)
    have N1 : ¬ sK T n q = 2 → rAxF (tkOf T n) (m + 1) k f q = dmd (0 < k) (sS T n q) (.ok (f, k, q)) := by
      intro z
      show bnd (rAx (tkOf T n) (m + 1) k f q) _ = _
      rw [show rAx (tkOf T n) (m + 1) k f q = .ok (f, k, q) from if_neg z]
      rfl
    have N2 : sK T n q = 2 → rAxF (tkOf T n) (m + 1) k f q = dmd (k = 0 ∨ f (k - 1) < sV T n q) (sS T n q) (rAxF (tkOf T n) m (k + 1) (upd f k (sV T n q)) (sE T n q)) := by
      intro z
      show bnd (rAx (tkOf T n) (m + 1) k f q) _ = _
      rw [show rAx (tkOf T n) (m + 1) k f q = dmd (k = 0 ∨ f (k - 1) < sV T n q) (sS T n q) (rAx (tkOf T n) m (k + 1) (upd f k (sV T n q)) (sE T n q)) from if_pos z]
      by_cases y : k = 0 ∨ f (k - 1) < sV T n q
      · rw [dmd_t y, dmd_t y]; rfl
      · rw [dmd_f y, dmd_f y]; rfl
    have B : (0 < k → sK T n q = 2) → Y w mX11_axis (d + 3) (qA F0 T n r t (rAxF (tkOf T n) (m + 1) k f q)) o 26 [some (.ref o), some (.ref (o + r)), some (.int (nI (4 * t))), some (.int (nI k))] [] F := by
      intro hk2
      refine yX11_axis_26 (yX11_axis_27 (yX11_axis_28 ?_))
      rw [htk.2.2.1]
      refine yX11_axis_31 (yX11_axis_32 (fun h9 => ?_) (fun h9 => ?_))
      · have h9 : ¬ sK T n q = 2 := fun z => h9 (by rw [z]; rfl)
        refine yX11_axis_57 ?_
        refine D _ ?_
        rw [N1 h9]
        exact dmd_f (fun z => h9 (hk2 z))
      · have h9 : sK T n q = 2 := (nI_eq (b := 2) (by omega) (by omega)).mp h9
        have hv : F.s 27 = sV T n q := htk.2.2.2.2 h9
        have G : (k = 0 ∨ f (k - 1) < sV T n q) → Y w mX11_axis (d + 3) (qA F0 T n r t (rAxF (tkOf T n) (m + 1) k f q)) o 53 [some (.ref o), some (.ref (o + r)), some (.int (nI (4 * t))), some (.int (nI k))] [.ref o] F := by
          intro hg
          rw [N2 h9, dmd_t hg]
          refine yX11_axis_53 (yX11_axis_54 (yX11_axis_58 (ble rfl) (n_1 ha.2.2.2.1) (yX11_axis_61 (yX11_axis_62 (yX11_axis_63 (yX11_axis_64 (yX11_axis_65 (yX11_axis_66 ?_))))))))
          rw [hv]
          refine yX11_axis_69 hr hE (i := 4 * t + k) (nI_add _ _) (by omega) ?_
          have h1 : al (F.uA r (upd (F.a r) (4 * t + k) (sV T n q))) T n q := ha.uA hr1
          have ha1 := hw.tr (aW.up (r := r) (i := 4 * t + k) (v := sV T n q) (by omega) (by omega))
          have hf1 : ∀ j, j < k + 1 → (F.uA r (upd (F.a r) (4 * t + k) (sV T n q))).a r (4 * t + j) = upd f k (sV T n q) j := by
            intro j hj
            rw [uA_s]
            by_cases e : j = k
            · subst e; rw [pk_us, pk_us]
            · rw [pk_un (by omega), pk_un e]; exact hf j (by omega)
          generalize F.uA r (upd (F.a r) (4 * t + k) (sV T n q)) = F1 at h1 ha1 hf1 ⊢
          refine yX11_axis_70 (yX11_axis_71 (yX11_axis_72 (yX11_axis_75 (fun h8 => absurd (h1.2.2.2.1.symm.trans h8) (by decide)) (fun _ => ?_))))
          refine yX11_axis_78 (yX11_axis_79 (yX11_axis_83 ?_))
          rw [nI_1]
          refine yX11_axis_84 rfl (yX11_axis_85 (yX11_axis_86_g (ble rfl) (g_a h1) (fun v F2 hF => ?_)))
          obtain ⟨rfl, a2, k2⟩ := hF
          refine yX11_axis_89 ?_
          exact ih (k + 1) _ F2 _ (by omega) a2 (ha1.tr k2.aW) (fun j hj => by rw [k2.2.1]; exact hf1 j hj)
        refine yX11_axis_35 (yX11_axis_36 (fun h8 => ?_) (fun h8 => ?_))
        · exact G (Or.inl ((nI_eq (b := 0) (by omega) (by omega)).mp h8))
        · have h8 : 0 < k := Nat.pos_of_ne_zero (fun z => h8 (by rw [z]; rfl))
          obtain ⟨k', rfl⟩ : ∃ k', k = k' + 1 := ⟨k - 1, by omega⟩
          refine yX11_axis_39 (yX11_axis_40 ?_)
          rw [hv]
          refine yX11_axis_43 (yX11_axis_44 (yX11_axis_45 (yX11_axis_46 (yX11_axis_47 (yX11_axis_48 ?_)))))
          refine yX11_axis_49 hr (hE F) (i := 4 * t + k') ?_ (by omega) ?_
          · rw [← nI_1, ← nI_add]
            grind
          rw [hf k' (by omega)]
          refine yX11_axis_50 (fun h7 => ?_) (fun h7 => ?_)
          · refine yX11_axis_57 ?_
            refine D _ ?_
            rw [N2 h9]
            exact dmd_f (fun z => by
              rcases z with z | z
              · omega
              · have : f k' < sV T n q := z
                grind)
          · exact G (Or.inr (by show f k' < sV T n q; grind))
    refine yX11_axis_14 (yX11_axis_15 (fun h9 => ?_) (fun h9 => ?_))
    · exact B (fun z => absurd ((nI_eq (b := 0) (by omega) (by omega)).mp h9) (by omega))
    · refine yX11_axis_18 (yX11_axis_19 ?_)
      rw [htk.2.2.1]
      refine yX11_axis_22 (yX11_axis_23 (fun h8 => ?_) (fun h8 => ?_))
      · have h8 : ¬ sK T n q = 2 := fun z => h8 (by rw [z]; rfl)
        have h9 : 0 < k := Nat.pos_of_ne_zero (fun z => h9 (by rw [z]; rfl))
        rw [N1 h8, dmd_t h9]
        refine yX11_axis_92 (yX11_axis_93 ⟨hw, rfl, ha, hf⟩)
      · exact B (fun _ => (nI_eq (b := 2) (by omega) (by omega)).mp h8)
theorem ax_a {f : Nat → Int32} (hr : r < 25) (hr1 : r ≠ 1) (hE : ∀ F : mF, mE o F r = xA 0 96 (F.a r)) (ht : t < 24) (h : al F T n q) : yC w (d + 3) mX11_axis [.ref o, .ref (o + r), .int (nI (4 * t))] o F (qA F T n r t (rAxis (tkOf T n) f q)) := by
  refine yC_of (by decide) (ble rfl) (ls := [some (.ref o), some (.ref (o + r)), some (.int (nI (4 * t))), none]) rfl ?_
  refine yX11_axis_0 (yX11_axis_1 rfl ?_)
  exact ax_L hr hr1 hE ht 4 0 f F q rfl h aW.rf (fun j hj => by omega)
theorem ax_0 (h : F.s 28 = 0) : yC w d mX11_axis [.ref o, .ref (o + r), .int (nI (4 * t))] o F (yR (some (.int 0)) F) := by
  refine yC_of (by decide) (ble rfl) (ls := [some (.ref o), some (.ref (o + r)), some (.int (nI (4 * t))), none]) rfl ?_
  refine yX11_axis_0 (yX11_axis_1 rfl (yX11_axis_2 (yX11_axis_3 (yX11_axis_6 (fun _ => ?_) (fun h9 => absurd h h9)))))
  refine yX11_axis_92 (yX11_axis_93 ⟨rfl, rfl⟩)
end M17
