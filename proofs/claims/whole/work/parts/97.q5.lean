section Q5
variable {w : xWd} {d o : Nat} {F F0 : mF} {T : Nat → Int32} {n b : Nat} {L : liT}
def hN (n : Nat) (v : Nat → Nat) : Nat → Nat
  | 0 => 0
  | k + 1 => hN n v k * n + v k
theorem hN_lt {v : Nat → Nat} : ∀ k, (∀ j, j < k → v j < n) → hN n v k < n ^ k := by
  intro k
  induction k with
  | zero => intro _; exact Nat.one_pos
  | succ k ih =>
    intro h
    have a := ih (fun j hj => h j (by omega))
    have c := h k (by omega)
    show hN n v k * n + v k < n ^ (k + 1)
    rw [Nat.pow_succ]
    have := Nat.mul_le_mul_right n a
    rw [Nat.succ_mul] at this
    omega
theorem hN_cg {v v' : Nat → Nat} : ∀ k, (∀ j, j < k → v j = v' j) → hN n v k = hN n v' k := by
  intro k
  induction k with
  | zero => intro _; rfl
  | succ k ih =>
    intro h
    show hN n v k * n + v k = hN n v' k * n + v' k
    rw [ih (fun j hj => h j (by omega)), h k (by omega)]
/-- the next tuple -/
def nx (v : Nat → Nat) (c : Nat) : Nat → Nat := fun j => if j < c then v j else if j = c then v c + 1 else 0
theorem nx_h {v : Nat → Nat} {c : Nat} (h1 : 1 ≤ n) (hv : ∀ j, c < j → j < n → v j = n - 1) : ∀ m, c + 1 + m ≤ n → hN n (nx v c) (c + 1 + m) = hN n v (c + 1 + m) + 1 := by
  intro m
  induction m with
  | zero =>
    intro _
    show hN n (nx v c) c * n + nx v c c = hN n v c * n + v c + 1
    rw [hN_cg (v := nx v c) (v' := v) c (fun j hj => if_pos hj), show nx v c c = v c + 1 by unfold nx; rw [if_neg (by omega), if_pos rfl]]
    omega
  | succ m ih =>
    intro hm
    have i := ih (by omega)
    show hN n (nx v c) (c + 1 + m) * n + nx v c (c + 1 + m) = hN n v (c + 1 + m) * n + v (c + 1 + m) + 1
    rw [i, hv (c + 1 + m) (by omega) (by omega), show nx v c (c + 1 + m) = 0 by unfold nx; rw [if_neg (by omega), if_neg (by omega)], Nat.add_mul, Nat.one_mul]
    omega
theorem all_top {v v' : Nat → Nat} {c : Nat} : ∀ m, c + m ≤ n → (∀ j, j < n → v' j < n) → (∀ j, j < c → v' j = v j) → (∀ j, c ≤ j → j < c + m → v j = n - 1) → (∀ j, j < c + m → v' j = v j) ∨ lx (c + m) v' v := by
  intro m
  induction m with
  | zero => intro _ _ h _; exact Or.inl h
  | succ m ih =>
    intro hm h1 h2 h3
    rcases ih (by omega) h1 h2 (fun j a b => h3 j a (by omega)) with z | ⟨k, a, b, e⟩
    · have q1 := h1 (c + m) (by omega)
      have q2 := h3 (c + m) (by omega) (by omega)
      by_cases e : v' (c + m) = v (c + m)
      · left
        intro j hj
        by_cases y : j = c + m
        · rw [y]; exact e
        · exact z j (by omega)
      · exact Or.inr ⟨c + m, by omega, z, by omega⟩
    · exact Or.inr ⟨k, by omega, b, e⟩
theorem lx_mono {v v' : Nat → Nat} {m : Nat} (h : lx m v v') (hm : m ≤ n) : lx n v v' := by
  obtain ⟨k, a, b⟩ := h
  exact ⟨k, by omega, b⟩
theorem nx_lx {v v' : Nat → Nat} {c : Nat} (hc : c < n) (hv : ∀ j, c < j → j < n → v j = n - 1) (h' : ∀ j, j < n → v' j < n) (h : lx n v' (nx v c)) : lx n v' v ∨ ∀ j, j < n → v' j = v j := by
  obtain ⟨i, a, e1, e2⟩ := h
  have E : ∀ j, j < c → nx v c j = v j := fun j hj => if_pos hj
  rcases Nat.lt_trichotomy i c with z | z | z
  · rw [E i z] at e2
    exact Or.inl ⟨i, a, fun j hj => by rw [e1 j hj, E j (by omega)], e2⟩
  · subst z
    rw [show nx v i i = v i + 1 by unfold nx; rw [if_neg (by omega), if_pos rfl]] at e2
    have pre : ∀ j, j < i → v' j = v j := fun j hj => by rw [e1 j hj, E j hj]
    by_cases y : v' i = v i
    · rcases all_top (n := n) (c := i + 1) (n - (i + 1)) (by omega) h' (fun j hj => by
          by_cases x : j = i
          · rw [x]; exact y
          · exact pre j (by omega)) (fun j p q => hv j (by omega) (by omega)) with x | x
      · exact Or.inr (fun j hj => x j (by omega))
      · exact Or.inl (lx_mono x (by omega))
    · exact Or.inl ⟨i, a, pre, by omega⟩
  · rw [show nx v c i = 0 by unfold nx; rw [if_neg (by omega), if_neg (by omega)]] at e2
    omega
theorem GD_cg {x y : Int64} {v v' : Nat → Nat} (h : ∀ j, j < n → v j = v' j) (g : GD n x y v) : GD n x y v' := by
  obtain ⟨a, c, e⟩ := g
  refine ⟨fun j hj => by rw [← h j hj]; exact a j hj, fun j j' hj hj' => by rw [← h j hj, ← h j' hj']; exact c j j' hj hj', fun s t hr => e s t ⟨hr.1, hr.2.1, fun j hj => by rw [h j hj]; exact hr.2.2 j hj⟩⟩
/-- what a search for an order says -/
def fR (n n2 : Nat) (x y : Int64) (z : Int32) (f : Nat → Int32) : Prop := (z = 1 ∧ n = n2 ∧ ∃ v, LG n x y v ∧ ∀ j, j < n → f j = nI (v j)) ∨ (z = 0 ∧ (n ≠ n2 ∨ ∀ v, ¬ GD n x y v))
theorem m_find {n2 ca cb : Nat} {x y : Int64} (hn : n ≤ 6) (hn2 : n2 ≤ 6) (ha : ca < 24) (hb : cb < 24) (e13 : F0.a 13 ca = nI n) (e13' : F0.a 13 cb = nI n2) (ex : F0.l 17 (3 * ca) = x) (ey : F0.l 17 (3 * cb) = y) : yC w (d + 1) mX11_find [.ref o, .int (nI ca), .int (nI cb)] o F0 (fun r F' => ∃ z f, r = some (.int z) ∧ F' = F0.uA 23 f ∧ fR n n2 x y z f) := by
  refine yC_of (by decide) (ble rfl) (ls := [some (.ref o), some (.int (nI ca)), some (.int (nI cb)), none, none]) rfl ?_
  refine yX11_find_0 (yX11_find_1 (yX11_find_4 (yX11_find_5 (ble rfl) rfl (i := ca) rfl ha ?_)))
  rw [e13]
  refine yX11_find_6 rfl (yX11_find_7 (yX11_find_8 (yX11_find_11 (yX11_find_12 (ble rfl) rfl (i := cb) rfl hb ?_))))
  rw [e13']
  refine yX11_find_13 (yX11_find_14 (fun h9 => ?_) (fun h9 => ?_))
  rotate_left
  · refine yX11_find_17 (yX11_find_18 (Or.inl rfl) ⟨0, F0.a 23, rfl, uA_id.symm, Or.inr ⟨rfl, Or.inl (fun z => h9 (by rw [z]))⟩⟩)
  have h9 : n = n2 := ((nI_eq (by omega) (by omega)).mp h9).symm
  subst h9
  have top : ∀ N v f (l4 : Option Value), hN n v n + N = n ^ n → (∀ j, j < n → f j = nI (v j) ∧ v j < n) → (∀ v', (∀ j, j < n → v' j < n) → lx n v' v → ¬ GD n x y v') → Y w mX11_find (d + 1) (fun r F' => ∃ z f, r = some (.int z) ∧ F' = F0.uA 23 f ∧ fR n n x y z f) o 42 [some (.ref o), some (.int (nI ca)), some (.int (nI cb)), some (.int (nI n)), l4] [] (F0.uA 23 f) := by
    intro N
    induction N with
    | zero =>
      intro v f l4 hN' hf _
      have := hN_lt n (fun j hj => (hf j hj).2)
      omega
    | succ N ih =>
      intro v f l4 hN' hf hl
      have hd : ∀ j, j < n → v j < n := fun j hj => (hf j hj).2
      have wyF : wy (F0.uA 23 f) v n := fun j hj => hf j hj
      -- to the next one
      have B : ¬ GD n x y v → Y w mX11_find (d + 1) (fun r F' => ∃ z f, r = some (.int z) ∧ F' = F0.uA 23 f ∧ fR n n x y z f) o 61 [some (.ref o), some (.int (nI ca)), some (.int (nI cb)), some (.int (nI n)), l4] [] (F0.uA 23 f) := by
        intro hg
        have Lc : ∀ c g, c ≤ n → (∀ j, j < c → g j = nI (v j)) → (∀ j, c ≤ j → j < n → g j = 0 ∧ v j = n - 1) → Y w mX11_find (d + 1) (fun r F' => ∃ z f, r = some (.int z) ∧ F' = F0.uA 23 f ∧ fR n n x y z f) o 66 [some (.ref o), some (.int (nI ca)), some (.int (nI cb)), some (.int (nI n)), some (.int (nI c - 1))] [] (F0.uA 23 g) := by
          intro c
          induction c with
          | zero =>
            intro g _ _ h2
            have e0 : nI 0 - 1 = -1 := rfl
            rw [e0]
            refine yX11_find_66 (yX11_find_68 (fun _ => ?_) (fun h8 => absurd (by decide) h8))
            refine yX11_find_98 (yX11_find_100 (fun h8 => absurd h8 (by decide)) (fun _ => ?_))
            refine yX11_find_103 (yX11_find_104 (Or.inl rfl) ⟨0, g, rfl, rfl, Or.inr ⟨rfl, Or.inr (fun v' hv' => ?_)⟩⟩)
            rcases all_top (n := n) (v := v) (v' := v') (c := 0) n (by omega) hv'.1 (fun j hj => by omega) (fun j _ hj => (h2 j (by omega) (by omega)).2) with z | z
            · exact hg (GD_cg (fun j hj => z j (by omega)) hv')
            · exact hl v' hv'.1 (lx_mono z (by omega)) hv'
          | succ c ihc =>
            intro g hc h1 h2
            have e0 : nI (c + 1) - 1 = nI c := by rw [← nI_1]; grind
            rw [e0]
            have hc0 : ¬ nI c < 0 := (ix_nI (show c < 7 by omega) (by omega)).1
            refine yX11_find_66 (yX11_find_68 (fun h8 => absurd h8 hc0) (fun _ => ?_))
            refine yX11_find_71 (yX11_find_72 (yX11_find_75 (yX11_find_77 (ble rfl) rfl (i := c) rfl (by omega) ?_)))
            rw [show (F0.uA 23 g).a 23 c = nI (v c) from h1 c (by omega)]
            refine yX11_find_78 (yX11_find_79 (yX11_find_80 ?_))
            rw [show nI n - 1 = nI (n - 1) from pk_sub (b := 1) (by omega)]
            have hvc := hd c (by omega)
            refine yX11_find_81 (fun h8 => ?_) (fun h8 => ?_)
            · have h8 : v c ≠ n - 1 := fun z => h8 (by rw [z])
              refine yX11_find_98 (yX11_find_100 (fun _ => ?_) (fun h7 => absurd (by grind) h7))
              refine yX11_find_105 (yX11_find_106 (yX11_find_109 (yX11_find_111 (yX11_find_112 (ble rfl) rfl (i := c) rfl (by omega) ?_))))
              rw [show (F0.uA 23 g).a 23 c = nI (v c) from h1 c (by omega)]
              refine yX11_find_113 (yX11_find_114 ?_)
              rw [nI_1]
              refine yX11_find_115 (ble rfl) (fun _ => rfl) (i := c) rfl (by omega) (yX11_find_116 ?_)
              rw [uA_uA, uA_s]
              have hv : ∀ j, c < j → j < n → v j = n - 1 := fun j p q => (h2 j (by omega) q).2
              have hx := nx_h (c := c) (by omega) hv (n - (c + 1)) (by omega)
              rw [show c + 1 + (n - (c + 1)) = n by omega] at hx
              refine ih (nx v c) _ _ (by omega) (fun j hj => ?_) (fun v' p q => ?_)
              · unfold nx
                by_cases y1 : j < c
                · rw [if_pos y1, pk_un (by omega)]; exact ⟨h1 j (by omega), hd j hj⟩
                · by_cases y2 : j = c
                  · subst y2
                    rw [if_neg y1, if_pos rfl, pk_us]; exact ⟨rfl, by omega⟩
                  · rw [if_neg y1, if_neg y2, pk_un y2]; exact ⟨(h2 j (by omega) hj).1, by omega⟩
              · rcases nx_lx (by omega) hv p q with z | z
                · exact hl v' p z
                · exact fun z2 => hg (GD_cg z z2)
            · have h8 : v c = n - 1 := (nI_eq (by omega) (by omega)).mp h8
              refine yX11_find_84 (yX11_find_85 (yX11_find_88 (yX11_find_90 (yX11_find_91 (ble rfl) (fun _ => rfl) (i := c) rfl (by omega) (yX11_find_92 rfl (yX11_find_95 ?_))))))
              rw [uA_uA, uA_s, show nI c + -1 = nI c - 1 by grind]
              refine ihc _ (by omega) (fun j hj => by rw [pk_un (by omega)]; exact h1 j (by omega)) (fun j p q => ?_)
              by_cases y : j = c
              · subst y; rw [pk_us]; exact ⟨rfl, h8⟩
              · rw [pk_un y]; exact h2 j (by omega) q
        refine yX11_find_61 (yX11_find_62 (yX11_find_63 (yX11_find_64 rfl ?_)))
        exact Lc n f (Nat.le_refl _) (fun j hj => (hf j hj).1) (fun j p q => by omega)
      refine yX11_find_42 (yX11_find_43 (yX11_find_44_g (ble rfl) (m_isOrder hn wyF) (fun r F1 hF => ?_)))
      obtain ⟨rfl, z, rfl, hz, hz1⟩ := hF
      show Y w mX11_find (d + 1) _ o 47 _ [.int z] _
      refine yX11_find_47 (fun h8 => ?_) (fun h8 => ?_)
      · refine B (fun g => ?_)
        rw [hz1.mpr ((inj_onto hd).mp g.2.1)] at h8
        exact absurd h8 (by decide)
      have hin : inj v n := (inj_onto hd).mpr (hz1.mp (hz.resolve_left h8))
      refine yX11_find_50 (yX11_find_51 (yX11_find_52 (yX11_find_53_g (ble rfl) (m_fits (F := F0.uA 23 f) hn ha hb e13 ex ey wyF hin) (fun r F1 hF => ?_))))
      obtain ⟨rfl, z, rfl, hz, hz1⟩ := hF
      show Y w mX11_find (d + 1) _ o 56 _ [.int z] _
      refine yX11_find_56 (fun h8 => ?_) (fun h8 => ?_)
      · refine B (fun g => ?_)
        rw [hz1.mpr g] at h8
        exact absurd h8 (by decide)
      · have g := hz1.mp (hz.resolve_left h8)
        refine yX11_find_59 (yX11_find_60 (Or.inr rfl) ⟨1, f, rfl, rfl, Or.inl ⟨rfl, rfl, v, ⟨g, fun v' hv' z => hl v' hv'.1 z hv'⟩, fun j hj => (hf j hj).1⟩⟩)
  have Z0 : ∀ m k f, k + m = n → (∀ j, j < k → f j = 0) → Y w mX11_find (d + 1) (fun r F' => ∃ z f, r = some (.int z) ∧ F' = F0.uA 23 f ∧ fR n n x y z f) o 22 [some (.ref o), some (.int (nI ca)), some (.int (nI cb)), some (.int (nI n)), some (.int (nI k))] [] (F0.uA 23 f) := by
    intro m
    induction m with
    | zero =>
      intro k f hk hf
      obtain rfl : k = n := by omega
      refine yX11_find_22 (yX11_find_24 (yX11_find_25 (fun _ => ?_) (fun h9 => absurd (Int32.le_refl _) h9)))
      have hl := hN_lt (n := k) (v := fun _ => 0) k (fun j hj => by omega)
      refine top (k ^ k - hN k (fun _ => 0) k) (fun _ => 0) f _ (by omega) (fun j hj => ⟨hf j hj, by omega⟩) (fun v' _ z => ?_)
      obtain ⟨i, a, c, e⟩ := z
      have e : v' i < 0 := e
      omega
    | succ m ih =>
      intro k f hk hf
      refine yX11_find_22 (yX11_find_24 (yX11_find_25 (fun h9 => absurd h9 (nI_ge (by omega) (by omega))) (fun _ => ?_)))
      refine yX11_find_28 (yX11_find_29 (yX11_find_32 (yX11_find_34 (yX11_find_35 (ble rfl) (fun _ => rfl) (i := k) rfl (by omega) (yX11_find_36 rfl (yX11_find_39 ?_))))))
      rw [uA_uA, uA_s, nI_1]
      refine ih (k + 1) _ (by omega) (fun j hj => ?_)
      by_cases e : j = k
      · subst e; rw [pk_us]
      · rw [pk_un e]; exact hf j (by omega)
  refine yX11_find_19 (yX11_find_20 rfl ?_)
  have := Z0 n 0 (F0.a 23) (by omega) (fun j hj => by omega)
  rw [uA_id] at this
  exact this
end Q5
