section RI
variable {w : xWd} {d : Nat} {P P1 P2 : xH} {m n k : Nat} {x y : Int64}
theorem sh2 : ∀ k : Fin 6, (2 : Int32) <<< (nI k &&& 31) = nI (2 ^ (k.val + 1)) := by decide +kernel
theorem pw_s (k : Nat) : 2 ^ (k + 1) = 2 * 2 ^ k := by rw [Nat.pow_succ]; omega
theorem pw_le {k : Nat} (h : k ≤ 5) : 2 ^ k ≤ 32 := Nat.pow_le_pow_right (n := 2) (by omega) h
/-- the parts up to level k -/
def aP (g : Nat → Int64) (v : Nat → Nat) (z : Int64) (k : Nat) : Prop := ∀ l, l ≤ k → ∀ i, i < 2 ^ l → g (2 ^ l + i) = pt v z l i
theorem c_split {pa p : Nat} {g : Nat → Int64} (hA : P.1 pa = some (xJ 128 g)) (hk : k < 6) (hp : p < 6) : xC w d mX3_split [.ref pa, .int (nI k), .int (nI p)] P (fun oc P' => oc = .returned none ∧ ∃ g', P' = xs P pa (xJ 128 g') ∧ (∀ i, i < 2 ^ (k + 1) → g' i = g i) ∧ ∀ i, 2 ^ k ≤ i → i < 2 ^ (k + 1) → g' (2 * i) = g i &&& (xN p ^^^ -1) ∧ g' (2 * i + 1) = g i &&& xN p) := by
  have e2 := pw_s k
  have e3 := pw_le (k := k) (by omega)
  have e4 := Nat.two_pow_pos k
  refine xC_of (by decide) (ble rfl) (ls := [some (.ref pa), some (.int (nI k)), some (.int (nI p)), none]) rfl ?_
  have Lp : ∀ c i g1, i + c = 2 ^ (k + 1) → 2 ^ k ≤ i → (∀ j, j < 2 ^ (k + 1) → g1 j = g j) → (∀ j, 2 ^ k ≤ j → j < i → g1 (2 * j) = g j &&& (xN p ^^^ -1) ∧ g1 (2 * j + 1) = g j &&& xN p) → X w mX3_split d (fun oc P' => oc = .returned none ∧ ∃ g', P' = xs P pa (xJ 128 g') ∧ (∀ i, i < 2 ^ (k + 1) → g' i = g i) ∧ ∀ i, 2 ^ k ≤ i → i < 2 ^ (k + 1) → g' (2 * i) = g i &&& (xN p ^^^ -1) ∧ g' (2 * i + 1) = g i &&& xN p) 4 [some (.ref pa), some (.int (nI k)), some (.int (nI p)), some (.int (nI i))] [] (xs P pa (xJ 128 g1)) := by
    intro c
    induction c with
    | zero =>
      intro i g1 hi h0 h1 h2
      obtain rfl : i = 2 ^ (k + 1) := by omega
      refine sX3_split_4 (sX3_split_5 (sX3_split_6 (sX3_split_7 ?_)))
      rw [sh2 ⟨k, hk⟩]
      refine sX3_split_8 (fun _ => ?_) (fun z => absurd (Int32.le_refl _) z)
      refine sX3_split_51 ⟨rfl, g1, rfl, h1, h2⟩
    | succ c ih =>
      intro i g1 hi h0 h1 h2
      have vi : vp_in (nI i) 128 := vp_in_nI (by omega) (by omega)
      have vp : vp_in (nI p) 6 := vp_in_nI hp (by omega)
      have v2 : vp_in (nI (2 * i)) 128 := vp_in_nI (by omega) (by omega)
      have v3 : vp_in (nI (2 * i + 1)) 128 := vp_in_nI (by omega) (by omega)
      refine sX3_split_4 (sX3_split_5 (sX3_split_6 (sX3_split_7 ?_)))
      rw [sh2 ⟨k, hk⟩]
      refine sX3_split_8 (fun z => absurd z (nI_ge (by show i < 2 ^ (k + 1); omega) (by show 2 ^ (k + 1) < _; omega))) (fun _ => ?_)
      refine sX3_split_11 (sX3_split_12 (sX3_split_13 (sX3_split_14 ?_)))
      rw [show (2 : Int32) * nI i = nI (2 * i) from pk_mul 2 _]
      refine sX3_split_15 (sX3_split_16 (sX3_split_17 xs_s vi (sX3_split_18 (sX3_split_21 (sX3_split_22_in vp (sX3_split_23 (sX3_split_26 (sX3_split_27 (sX3_split_28 xs_s v2 ?_)))))))))
      rw [nI_clamp (by omega), nI_clamp (by omega), nI_clamp (by omega), xs_xs]
      refine sX3_split_29 (sX3_split_30 (sX3_split_31 (sX3_split_32 ?_)))
      rw [show (2 : Int32) * nI i = nI (2 * i) from pk_mul 2 _]
      refine sX3_split_33 (sX3_split_34 ?_)
      rw [nI_1]
      refine sX3_split_35 (sX3_split_36 (sX3_split_37 xs_s vi (sX3_split_38 (sX3_split_41 (sX3_split_42_in vp (sX3_split_43 (sX3_split_44 xs_s v3 ?_)))))))
      rw [nI_clamp (by omega), nI_clamp (by omega), nI_clamp (by omega), xs_xs]
      refine sX3_split_45 rfl (sX3_split_48 ?_)
      rw [nI_1]
      have gi : vp_updL g1 (2 * i) (g1 i &&& (xN p ^^^ -1)) i = g i := by rw [pk_uLn (by omega)]; exact h1 i (by omega)
      rw [gi, h1 i (by omega)]
      refine ih (i + 1) _ (by omega) (by omega) (fun j hj => ?_) (fun j a c' => ?_)
      · rw [pk_uLn (by omega), pk_uLn (by omega)]; exact h1 j hj
      · by_cases e : j = i
        · subst e
          exact ⟨by rw [pk_uLn (by omega), pk_uLs], by rw [pk_uLs]⟩
        · rw [pk_uLn (by omega), pk_uLn (by omega), pk_uLn (by omega), pk_uLn (by omega)]
          exact h2 j a (by omega)
  refine sX3_split_0 (sX3_split_1 (sX3_split_2 ?_))
  rw [sh5 ⟨k, hk⟩]
  refine sX3_split_3 rfl ?_
  have := Lp (2 ^ k) (2 ^ k) g (by omega) (Nat.le_refl _) (fun _ _ => rfl) (fun j a c => by omega)
  rw [xs_id hA] at this
  exact this
theorem aP_split {g g' : Nat → Int64} {v : Nat → Nat} {z : Int64} (h : aP g v z k) (h1 : ∀ i, i < 2 ^ (k + 1) → g' i = g i) (h2 : ∀ i, 2 ^ k ≤ i → i < 2 ^ (k + 1) → g' (2 * i) = g i &&& (xN (v k) ^^^ -1) ∧ g' (2 * i + 1) = g i &&& xN (v k)) : aP g' v z (k + 1) := by
  intro l hl i hi
  have e2 := pw_s k
  by_cases e : l = k + 1
  · subst e
    have hg := h k (Nat.le_refl _) (i / 2) (by omega)
    obtain ⟨a, c⟩ := h2 (2 ^ k + i / 2) (by omega) (by omega)
    rcases Nat.mod_two_eq_zero_or_one i with q | q
    · rw [show 2 ^ (k + 1) + i = 2 * (2 ^ k + i / 2) by omega, a, hg, show i = 2 * (i / 2) by omega, pt_0, show 2 * (i / 2) / 2 = i / 2 by omega]
    · rw [show 2 ^ (k + 1) + i = 2 * (2 ^ k + i / 2) + 1 by omega, c, hg, show i = 2 * (i / 2) + 1 by omega, pt_1, show (2 * (i / 2) + 1) / 2 = i / 2 by omega]
  · have hp : 2 ^ l * 2 ≤ 2 ^ (k + 1) := by
      have := Nat.pow_le_pow_right (n := 2) (by omega) (show l + 1 ≤ k + 1 by omega)
      rw [Nat.pow_succ] at this
      exact this
    rw [h1 _ (by omega)]
    exact h l (by omega) i hi
theorem aP_cg {g g' : Nat → Int64} {v : Nat → Nat} {z : Int64} (h : aP g v z k) (h1 : ∀ i, i < 2 ^ (k + 1) → g' i = g i) : aP g' v z k := by
  intro l hl i hi
  have hp : 2 ^ l * 2 ≤ 2 ^ (k + 1) := by
    have := Nat.pow_le_pow_right (n := 2) (by omega) (show l + 1 ≤ k + 1 by omega)
    rw [Nat.pow_succ] at this
    exact this
  rw [h1 _ (by omega)]
  exact h l hl i hi
theorem aP_w {g : Nat → Int64} {v v' : Nat → Nat} {z : Int64} (h : aP g v z k) (e : ∀ j, j < k → v j = v' j) : aP g v' z k := fun l hl i hi => by rw [← pt_cg l i (fun j hj => e j (by omega))]; exact h l hl i hi
/-- the matcher -/
def mP (P : xH) (m i : Nat) (sf : Nat → Int32) (g1 g2 : Nat → Int64) : Prop := P.1 m = some (xO 2 [.ref (m + 1), .ref (m + 2), .ref (m + 3), .int (nI i)]) ∧ P.1 (m + 1) = some (xA 0 6 sf) ∧ P.1 (m + 2) = some (xJ 128 g1) ∧ P.1 (m + 3) = some (xJ 128 g2)
theorem mP.s1 {i : Nat} {sf sf' : Nat → Int32} {g1 g2 : Nat → Int64} (h : mP P m i sf g1 g2) : mP (xs P (m + 1) (xA 0 6 sf')) m i sf' g1 g2 := ⟨xs_n (by omega) h.1, xs_s, xs_n (by omega) h.2.2.1, xs_n (by omega) h.2.2.2⟩
theorem mP.s2 {i : Nat} {sf : Nat → Int32} {g1 g2 g : Nat → Int64} (h : mP P m i sf g1 g2) : mP (xs P (m + 2) (xJ 128 g)) m i sf g g2 := ⟨xs_n (by omega) h.1, xs_n (by omega) h.2.1, xs_s, xs_n (by omega) h.2.2.2⟩
theorem mP.s3 {i : Nat} {sf : Nat → Int32} {g1 g2 g : Nat → Int64} (h : mP P m i sf g1 g2) : mP (xs P (m + 3) (xJ 128 g)) m i sf g1 g := ⟨xs_n (by omega) h.1, xs_n (by omega) h.2.1, xs_n (by omega) h.2.2.1, xs_s⟩
theorem c_fits {p i : Nat} {sf : Nat → Int32} {g1 g2 : Nat → Int64} {v : Nat → Nat} (h : mP P m i sf g1 g2) (hk : k < 6) (hp : p < 6) (hv : v k = p) (h1 : aP g1 id x (k + 1)) (h2 : aP g2 v y k) : xC w (d + 1) mX3_fits [.ref m, .int (nI k), .int (nI p)] P (fun oc P' => P' = P ∧ ∃ z : Int32, oc = .returned (some (.int z)) ∧ (z = 0 ∨ z = 1) ∧ (z = 1 ↔ ck x y v k)) := by
  have e2 := pw_s k
  have e3 := pw_le (k := k) (by omega)
  have e4 := Nat.two_pow_pos k
  have hO := h.1
  refine xC_of (by decide) (ble rfl) (ls := [some (.ref m), some (.int (nI k)), some (.int (nI p)), none, none, none]) rfl ?_
  have Lp : ∀ c j (l4 l5 : Option Value), j + c = 2 ^ k → (∀ i, i < j → pc (pt id x (k + 1) (2 * i + 1)) = pc (pt v y (k + 1) (2 * i + 1))) → X w mX3_fits (d + 1) (fun oc P' => P' = P ∧ ∃ z : Int32, oc = .returned (some (.int z)) ∧ (z = 0 ∨ z = 1) ∧ (z = 1 ↔ ck x y v k)) 4 [some (.ref m), some (.int (nI k)), some (.int (nI p)), some (.int (nI (2 ^ k + j))), l4, l5] [] P := by
    intro c
    induction c with
    | zero =>
      intro j l4 l5 hj hc
      refine sX3_fits_4 (sX3_fits_5 (sX3_fits_6 (sX3_fits_7 ?_)))
      rw [sh2 ⟨k, hk⟩]
      refine sX3_fits_8 (fun _ => ?_) (fun z => absurd (nI_le (by show 2 ^ (k + 1) ≤ 2 ^ k + j; omega) (by omega)) z)
      refine sX3_fits_54 (sX3_fits_55 (Or.inr rfl) ⟨rfl, 1, rfl, Or.inr rfl, ⟨fun _ i hi => hc i (by omega), fun _ => rfl⟩⟩)
    | succ c ih =>
      intro j l4 l5 hj hc
      have vi : vp_in (nI (2 ^ k + j)) 128 := vp_in_nI (by omega) (by omega)
      have vp : vp_in (nI p) 6 := vp_in_nI hp (by omega)
      have v3 : vp_in (nI (2 * (2 ^ k + j) + 1)) 128 := vp_in_nI (by omega) (by omega)
      refine sX3_fits_4 (sX3_fits_5 (sX3_fits_6 (sX3_fits_7 ?_)))
      rw [sh2 ⟨k, hk⟩]
      refine sX3_fits_8 (fun z => absurd z (nI_ge (by show 2 ^ k + j < 2 ^ (k + 1); omega) (by show 2 ^ (k + 1) < _; omega))) (fun _ => ?_)
      refine sX3_fits_11 (sX3_fits_12 (by assumption) (by rfl) (sX3_fits_15 (sX3_fits_16 h.2.2.2 vi (sX3_fits_17 (sX3_fits_20 (sX3_fits_21_in vp (sX3_fits_22 (sX3_fits_23 rfl (sX3_fits_25 (sX3_fits_26 (by assumption) (by rfl) (sX3_fits_29 (sX3_fits_30 (sX3_fits_31 ?_)))))))))))))
      rw [nI_clamp (by omega), nI_clamp (by omega), show (2 : Int32) * nI (2 ^ k + j) = nI (2 * (2 ^ k + j)) from pk_mul 2 _]
      refine sX3_fits_32 (sX3_fits_33 ?_)
      rw [nI_1]
      refine sX3_fits_34 h.2.2.1 v3 ?_
      rw [nI_clamp (by omega)]
      have q1 : g1 (2 * (2 ^ k + j) + 1) = pt id x (k + 1) (2 * j + 1) := by
        rw [show 2 * (2 ^ k + j) + 1 = 2 ^ (k + 1) + (2 * j + 1) by omega]
        exact h1 (k + 1) (Nat.le_refl _) (2 * j + 1) (by omega)
      have q2 : g2 (2 ^ k + j) &&& xN p = pt v y (k + 1) (2 * j + 1) := by
        rw [pt_1, hv, h2 k (Nat.le_refl _) j (by omega)]
      rw [q1, q2]
      refine sX3_fits_35 (ble rfl) (c_bitCount _) (sX3_fits_38 (sX3_fits_40 (ble rfl) (c_bitCount _) (sX3_fits_43 (fun z => ?_) (fun z => ?_))))
      · refine sX3_fits_48 rfl (sX3_fits_51 ?_)
        rw [nI_1, show 2 ^ k + j + 1 = 2 ^ k + (j + 1) by omega]
        refine ih (j + 1) _ _ (by omega) (fun i hi => ?_)
        rcases Nat.lt_or_eq_of_le (Nat.lt_succ_iff.mp hi) with q | q
        · exact hc i q
        · subst q; exact (bitc_eq _ _).mp z
      · refine sX3_fits_46 (sX3_fits_47 (Or.inl rfl) ⟨rfl, 0, rfl, Or.inl rfl, ⟨fun q => absurd q (by decide), fun q => absurd ((bitc_eq _ _).mpr (q j (by omega))) z⟩⟩)
  refine sX3_fits_0 (sX3_fits_1 (sX3_fits_2 ?_))
  rw [sh5 ⟨k, hk⟩]
  refine sX3_fits_3 rfl ?_
  exact Lp (2 ^ k) 0 none none (by omega) (fun i hi => by omega)
/-- an order that goes on from level k -/
def Cd (n : Nat) (x y : Int64) (k : Nat) (v : Nat → Nat) : Prop := (∀ j, j < n → v j < n) ∧ inj v n ∧ ∀ l, k ≤ l → l < n → ck x y v l
def pRes (n : Nat) (x y : Int64) (k : Nat) (u : Nat → Nat) (z : Int32) (sf : Nat → Int32) : Prop := (z = 1 ∧ ∃ v, (∀ j, j < k → v j = u j) ∧ (∀ j, j < n → sf j = nI (v j)) ∧ Cd n x y k v ∧ ∀ v', (∀ j, j < k → v' j = u j) → Cd n x y k v' → ¬ lx n v' v) ∨ (z = 0 ∧ ∀ v, (∀ j, j < k → v j = u j) → ¬ Cd n x y k v)
def pQ (P : xH) (m n : Nat) (x y : Int64) (k : Nat) (u : Nat → Nat) (sf : Nat → Int32) (g1 g2 : Nat → Int64) : Outcome → xH → Prop := fun oc P' => ∃ z sf' g2', oc = .returned (some (.int z)) ∧ mP P' m n sf' g1 g2' ∧ same P P' (m + 1) (m + 4) ∧ (∀ j, j < k → sf' j = sf j) ∧ (∀ i, i < 2 ^ (k + 1) → g2' i = g2 i) ∧ pRes n x y k u z sf'
theorem ck_cg {v v' : Nat → Nat} (e : ∀ j, j < k + 1 → v j = v' j) (h : ck x y v k) : ck x y v' k := fun i hi => by rw [← pt_cg (w := v) (w' := v') (k + 1) (2 * i + 1) e]; exact h i hi
def uM (u : Nat) (k : Nat) (v : Nat → Nat) : Prop := u < 64 ∧ ∀ p, u.testBit p = true ↔ ∃ j, j < k ∧ v j = p
theorem c_place' (hn : n ≤ 6) : ∀ r k u v sf g1 g2 (P : xH), k + r = n → mP P m n sf g1 g2 → (∀ j, j < k → sf j = nI (v j) ∧ v j < n) → inj v k → uM u k v → aP g1 id x n → aP g2 v y k → xC w (d + 2 * r + 2) mX3_placeFrom [.ref m, .int (nI k), .int (nI u)] P (pQ P m n x y k v sf g1 g2) := by
  intro r
  induction r with
  | zero =>
    intro k u v sf g1 g2 P hk h hs hi hu a1 a2
    obtain rfl : k = n := by omega
    have hO := h.1
    refine xC_of (by decide) (ble rfl) (ls := [some (.ref m), some (.int (nI k)), some (.int (nI u)), none]) rfl ?_
    refine sX3_placeFrom_0 (sX3_placeFrom_1 (sX3_placeFrom_2 (by assumption) (by rfl) (sX3_placeFrom_5 (fun z => (Int32.lt_irrefl z).elim) (fun _ => ?_))))
    refine sX3_placeFrom_8 (sX3_placeFrom_9 (Or.inr rfl) ⟨1, sf, g2, rfl, h, same.rf, fun _ _ => rfl, fun _ _ => rfl, Or.inl ⟨rfl, v, fun _ _ => rfl, fun j hj => (hs j hj).1, ⟨fun j hj => (hs j hj).2, hi, fun l a c => by omega⟩, fun v' e _ q => ?_⟩⟩)
    obtain ⟨i, a, c, e2⟩ := q
    rw [e i a] at e2
    omega
  | succ r ih =>
    intro k u v sf g1 g2 P hk h hs hi hu a1 a2
    have hk6 : k < 6 := by omega
    have p2 := pw_s k
    refine xC_of (by decide) (ble rfl) (ls := [some (.ref m), some (.int (nI k)), some (.int (nI u)), none]) rfl ?_
    have hO := h.1
    have hlt : nI k < nI n := by have := nI_ge (show k < n by omega) (by omega); grind
    refine sX3_placeFrom_0 (sX3_placeFrom_1 (sX3_placeFrom_2 (by assumption) (by rfl) (sX3_placeFrom_5 (fun _ => ?_) (fun z => absurd hlt z))))
    -- goes on with p
    have Go : ∀ p sf1 g3 (P1 : xH), p < n → mP P1 m n sf1 g1 g3 → same P P1 (m + 1) (m + 4) → (∀ j, j < k → sf1 j = sf j) → (∀ i, i < 2 ^ (k + 1) → g3 i = g2 i) → ¬ (∃ j, j < k ∧ v j = p) → xC w (d + 2 * r + 3) mX3_goesOnWith [.ref m, .int (nI k), .int (nI p), .int (nI u)] P1 (fun oc P' => ∃ z sf' g2', oc = .returned (some (.int z)) ∧ mP P' m n sf' g1 g2' ∧ same P P' (m + 1) (m + 4) ∧ (∀ j, j < k → sf' j = sf j) ∧ (∀ i, i < 2 ^ (k + 1) → g2' i = g2 i) ∧ ((z = 1 ∧ ∃ v', (∀ j, j < k → v' j = v j) ∧ v' k = p ∧ (∀ j, j < n → sf' j = nI (v' j)) ∧ Cd n x y k v' ∧ ∀ v2, (∀ j, j < k → v2 j = v j) → v2 k = p → Cd n x y k v2 → ¬ lx n v2 v') ∨ (z = 0 ∧ ∀ v2, (∀ j, j < k → v2 j = v j) → v2 k = p → ¬ Cd n x y k v2))) := by
      intro p sf1 g3 P1 hp h1 hs1 e1 e3 hnp
      have hp6 : p < 6 := by omega
      have hO1 := h1.1
      -- the way with p
      have ev : ∀ j, j < k → (fun j => if j = k then p else v j) j = v j := fun j hj => if_neg (by omega)
      have evk : (fun j => if j = k then p else v j) k = p := if_pos rfl
      generalize (fun j => if j = k then p else v j) = v1 at ev evk
      have a3 : aP g3 v1 y k := aP_w (aP_cg a2 e3) (fun j hj => (ev j hj).symm)
      have a1' : aP g1 id x (k + 1) := fun l hl => a1 l (by omega)
      refine xC_of (by decide) (ble rfl) (ls := [some (.ref m), some (.int (nI k)), some (.int (nI p)), some (.int (nI u))]) rfl ?_
      refine sX3_goesOnWith_0 (sX3_goesOnWith_1 (sX3_goesOnWith_2 (sX3_goesOnWith_3_g (ble rfl) hO1 (c_fits (v := v1) h1 hk6 hp6 evk a1' a3) (fun _ P9 q => ?_) (fun q9 P9 q => by obtain ⟨_, z, q, _⟩ := q; cases q))))
      obtain ⟨rfl, z, q, hz, hz1⟩ := q
      cases q
      show X w mX3_goesOnWith (d + 2 * r + 3) _ 6 _ [.int z] P9
      refine sX3_goesOnWith_6 (fun q => ?_) (fun q => ?_)
      rotate_left
      · refine sX3_goesOnWith_9 (sX3_goesOnWith_10 (Or.inl rfl) ⟨0, sf1, g3, rfl, h1, hs1, e1, e3, Or.inr ⟨rfl, fun v2 f1 f2 f3 => ?_⟩⟩)
        have := hz1.mpr (ck_cg (v := v2) (fun j hj => by
          by_cases e : j = k
          · rw [e, f2, evk]
          · rw [f1 j (by omega), ev j (by omega)]) (f3.2.2 k (Nat.le_refl _) (by omega)))
        rw [this] at q
        exact absurd q (by decide)
      have hck := hz1.mp (hz.resolve_left q)
      refine sX3_goesOnWith_11 (sX3_goesOnWith_12 (by assumption) (by rfl) (sX3_goesOnWith_15 (sX3_goesOnWith_16 (sX3_goesOnWith_17 h1.2.1 (vp_in_nI hk6 (by omega)) ?_))))
      rw [nI_clamp (by omega)]
      have h2 := h1.s1 (sf' := upd sf1 k (nI p))
      have hO2 := h2.1
      refine sX3_goesOnWith_18 (sX3_goesOnWith_19 (by assumption) (by rfl) (sX3_goesOnWith_22 (sX3_goesOnWith_23 (sX3_goesOnWith_24_g (ble rfl) (c_split h2.2.2.2 hk6 hp6) (fun _ P8 q => ?_) (fun q9 P8 q => by cases q.1)))))
      obtain ⟨q, g4, rfl, s1, s2⟩ := q
      cases q
      have h3 := h2.s3 (g := g4)
      have hO3 := h3.1
      have hs3 : same P (xs (xs P9 (m + 1) (xA 0 6 (upd sf1 k (nI p)))) (m + 3) (xJ 128 g4)) (m + 1) (m + 4) := (hs1.xs (by omega) (by omega)).xs (by omega) (by omega)
      have sfk : ∀ j, j < k + 1 → upd sf1 k (nI p) j = nI (v1 j) ∧ v1 j < n := by
        intro j hj
        by_cases e : j = k
        · rw [e, pk_us, evk]; exact ⟨rfl, hp⟩
        · rw [pk_un e, e1 j (by omega), ev j (by omega)]; exact hs j (by omega)
      have ij : inj v1 (k + 1) := by
        intro j j' hj hj' e
        by_cases y1 : j = k
        · by_cases y2 : j' = k
          · omega
          · rw [y1, evk, ev j' (by omega)] at e
            exact absurd ⟨j', by omega, e.symm⟩ hnp
        · by_cases y2 : j' = k
          · rw [y2, evk, ev j (by omega)] at e
            exact absurd ⟨j, by omega, e⟩ hnp
          · rw [ev j (by omega), ev j' (by omega)] at e
            exact hi j j' (by omega) (by omega) e
      have um : uM (u ||| 2 ^ p) (k + 1) v1 := by
        refine ⟨Nat.or_lt_two_pow (n := 6) hu.1 (pw64 hp6), fun q => ?_⟩
        rw [Nat.testBit_or, Bool.or_eq_true, hu.2 q, Nat.testBit_two_pow]
        constructor
        · rintro (⟨j, f1, f2⟩ | f)
          · exact ⟨j, by omega, by rw [ev j f1]; exact f2⟩
          · exact ⟨k, by omega, by rw [evk]; simpa using f⟩
        · rintro ⟨j, f1, f2⟩
          by_cases e : j = k
          · rw [e, evk] at f2; right; simpa using f2
          · rw [ev j (by omega)] at f2; exact Or.inl ⟨j, by omega, f2⟩
      have a4 : aP g4 v1 y (k + 1) := aP_split a3 s1 (fun i f1 f2 => by rw [evk]; exact s2 i f1 f2)
      have IH := ih (k + 1) (u ||| 2 ^ p) v1 (upd sf1 k (nI p)) g1 g4 _ (by omega) h3 sfk ij um a1 a4
      refine sX3_goesOnWith_27 (sX3_goesOnWith_28 (sX3_goesOnWith_29 (sX3_goesOnWith_30 ?_)))
      rw [nI_1]
      refine sX3_goesOnWith_31 (sX3_goesOnWith_32 (sX3_goesOnWith_33 (sX3_goesOnWith_34 ?_)))
      rw [sh5 ⟨p, hp6⟩]
      refine sX3_goesOnWith_35 ?_
      rw [or_n ⟨u, hu.1⟩ ⟨2 ^ p, pw64 hp6⟩]
      refine sX3_goesOnWith_36_g (ble rfl) hO3 IH (fun _ P7 q => ?_) (fun q9 P7 q => by obtain ⟨z, _, _, q, _⟩ := q; cases q)
      obtain ⟨z2, sf2, g5, q, h4, hs4, f1, f2, f3⟩ := q
      cases q
      have hz2 : z2 = 0 ∨ z2 = 1 := by rcases f3 with q | q; exact Or.inr q.1; exact Or.inl q.1
      have p3 := pw_s (k + 1)
      refine sX3_goesOnWith_39 hz2 ⟨z2, sf2, g5, rfl, h4, hs3.tr hs4, fun j hj => by rw [f1 j (by omega), pk_un (by omega)]; exact e1 j hj, fun i hj => by rw [f2 i (by omega), s1 i hj]; exact e3 i hj, ?_⟩
      have agr1 : ∀ v2 : Nat → Nat, (∀ j, j < k → v2 j = v j) → v2 k = p → ∀ j, j < k + 1 → v2 j = v1 j := by
        intro v2 c1 c2 j hj
        by_cases e : j = k
        · rw [e, c2, evk]
        · rw [c1 j (by omega), ev j (by omega)]
      rcases f3 with ⟨q1, v', q2, q3, q4, q5⟩ | ⟨q1, q2⟩
      · refine Or.inl ⟨q1, v', fun j hj => by rw [q2 j (by omega), ev j hj], by rw [q2 k (by omega), evk], q3, ⟨q4.1, q4.2.1, fun l c1 c2 => ?_⟩, fun v2 c1 c2 c3 => q5 v2 (agr1 v2 c1 c2) ⟨c3.1, c3.2.1, fun l b1 b2 => c3.2.2 l (by omega) b2⟩⟩
        rcases Nat.eq_or_lt_of_le c1 with e | e
        · rw [← e]; exact ck_cg (fun j hj => (q2 j hj).symm) hck
        · exact q4.2.2 l (by omega) c2
      · exact Or.inr ⟨q1, fun v2 c1 c2 c3 => q2 v2 (agr1 v2 c1 c2) ⟨c3.1, c3.2.1, fun l b1 b2 => c3.2.2 l (by omega) b2⟩⟩
    have Lp : ∀ c p sf1 g3 (P1 : xH), p + c = n → mP P1 m n sf1 g1 g3 → same P P1 (m + 1) (m + 4) → (∀ j, j < k → sf1 j = sf j) → (∀ i, i < 2 ^ (k + 1) → g3 i = g2 i) → (∀ v2, (∀ j, j < k → v2 j = v j) → v2 k < p → ¬ Cd n x y k v2) → X w mX3_placeFrom (d + 2 * (r + 1) + 2) (pQ P m n x y k v sf g1 g2) 12 [some (.ref m), some (.int (nI k)), some (.int (nI u)), some (.int (nI p))] [] P1 := by
      intro c
      induction c with
      | zero =>
        intro p sf1 g3 P1 hp h1 hs1 e1 e3 hno
        obtain rfl : p = n := by omega
        have hO1 := h1.1
        refine sX3_placeFrom_12 (sX3_placeFrom_13 (sX3_placeFrom_14 (by assumption) (by rfl) (sX3_placeFrom_17 (fun _ => ?_) (fun z => absurd (Int32.le_refl _) z))))
        exact sX3_placeFrom_46 (sX3_placeFrom_47 (Or.inl rfl) ⟨0, sf1, g3, rfl, h1, hs1, e1, e3, Or.inr ⟨rfl, fun v2 f1 f2 => hno v2 f1 (f2.1 k (by omega)) f2⟩⟩)
      | succ c ihc =>
        intro p sf1 g3 P1 hp h1 hs1 e1 e3 hno
        have hO1 := h1.1
        have hp6 : p < 6 := by omega
        have Nx : ∀ sf2 g4 (P2 : xH), mP P2 m n sf2 g1 g4 → same P P2 (m + 1) (m + 4) → (∀ j, j < k → sf2 j = sf j) → (∀ i, i < 2 ^ (k + 1) → g4 i = g2 i) → (∀ v2, (∀ j, j < k → v2 j = v j) → v2 k = p → ¬ Cd n x y k v2) → X w mX3_placeFrom (d + 2 * (r + 1) + 2) (pQ P m n x y k v sf g1 g2) 40 [some (.ref m), some (.int (nI k)), some (.int (nI u)), some (.int (nI p))] [] P2 := by
          intro sf2 g4 P2 h2 hs2 f1 f2 f3
          refine sX3_placeFrom_40 rfl (sX3_placeFrom_43 ?_)
          rw [nI_1]
          refine ihc (p + 1) sf2 g4 P2 (by omega) h2 hs2 f1 f2 (fun v2 q1 q2 => ?_)
          rcases Nat.lt_or_eq_of_le (Nat.lt_succ_iff.mp q2) with z | z
          · exact hno v2 q1 z
          · exact f3 v2 q1 z
        refine sX3_placeFrom_12 (sX3_placeFrom_13 (sX3_placeFrom_14 (by assumption) (by rfl) (sX3_placeFrom_17 (fun z => absurd z (nI_ge (by omega) (by omega))) (fun _ => ?_))))
        refine sX3_placeFrom_20 (sX3_placeFrom_21 (sX3_placeFrom_22 (sX3_placeFrom_23 (sX3_placeFrom_24 ?_))))
        rw [bit_n ⟨u, hu.1⟩ ⟨p, hp6⟩]
        cases hb : u.testBit p
        · show X w mX3_placeFrom _ _ 25 _ [.int 0] P1
          refine sX3_placeFrom_25 (fun z => absurd rfl z) (fun _ => ?_)
          have hnp : ¬ ∃ j, j < k ∧ v j = p := fun z => by rw [(hu.2 p).mpr z] at hb; cases hb
          have G := Go p sf1 g3 P1 (by omega) h1 hs1 e1 e3 hnp
          rw [show d + 2 * (r + 1) + 2 = (d + 2 * r + 3) + 1 by omega]
          refine sX3_placeFrom_28 (sX3_placeFrom_29 (sX3_placeFrom_30 (sX3_placeFrom_31 (sX3_placeFrom_32_g (ble rfl) hO1 G (fun _ P7 q => ?_) (fun q9 P7 q => by obtain ⟨z, _, _, q, _⟩ := q; cases q)))))
          obtain ⟨z2, sf2, g5, q, h4, hs4, f1, f2, f3⟩ := q
          cases q
          show X w mX3_placeFrom (d + 2 * r + 3 + 1) _ 35 _ [.int z2] P7
          rcases f3 with ⟨rfl, v', c1, c2, c3, c4, c5⟩ | ⟨rfl, c1⟩
          · refine sX3_placeFrom_35 (fun z => absurd z (by decide)) (fun _ => ?_)
            refine sX3_placeFrom_38 (sX3_placeFrom_39 (Or.inr rfl) ⟨1, sf2, g5, rfl, h4, hs4, f1, f2, Or.inl ⟨rfl, v', c1, c3, c4, fun v2 b1 b2 b3 => ?_⟩⟩)
            obtain ⟨i, l1, l2, l3⟩ := b3
            rcases Nat.lt_trichotomy i k with z | z | z
            · rw [b1 i z, c1 i z] at l3; omega
            · rw [z, c2] at l3
              exact hno v2 b1 l3 b2
            · refine c5 v2 b1 ?_ b2 ⟨i, l1, l2, l3⟩
              rw [l2 k z, c2]
          · refine sX3_placeFrom_35 (fun _ => ?_) (fun z => absurd rfl z)
            rw [show d + 2 * r + 3 + 1 = d + 2 * (r + 1) + 2 by omega]
            exact Nx sf2 g5 P7 h4 hs4 f1 f2 c1
        · show X w mX3_placeFrom _ _ 25 _ [.int 1] P1
          refine sX3_placeFrom_25 (fun _ => ?_) (fun z => absurd z (by decide))
          refine Nx sf1 g3 P1 h1 hs1 e1 e3 (fun v2 q1 q2 q3 => ?_)
          obtain ⟨j, f1, f2⟩ := (hu.2 p).mp hb
          have := q3.2.1 j k (by omega) (by omega) (by rw [q1 j f1, f2, q2])
          omega
    refine sX3_placeFrom_10 (sX3_placeFrom_11 rfl ?_)
    exact Lp n 0 sf g2 P (by omega) h same.rf (fun _ _ => rfl) (fun _ _ => rfl) (fun v2 _ q => by omega)
end RI
