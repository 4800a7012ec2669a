section M16
variable {w : xWd} {d o : Nat} {F : mF} {T : Nat → Int32} {n : Nat}
variable {u k q : Nat} {QF : Option Value → mF → Prop}
theorem rc_N {cc : Nat} (hu : u < 2) (hc : cc ≤ 12) (s29 : F.s 29 = nI u) (a9 : F.a 9 u = nI cc)
    (kont : ∀ b : Int32, (b = 0 ∨ b = 1) → (b = 1 ↔ ∀ j, j < cc → ¬ F.l 10 (12 * u + j) = F.nm) → Y w mX11_readCell d QF o 59 [some (.ref o), some (.int b), some (.int (nI cc))] [] F) :
    ∀ m k (b : Int32), k + m = cc → (b = 0 ∨ b = 1) → (b = 1 ↔ ∀ j, j < k → ¬ F.l 10 (12 * u + j) = F.nm) → Y w mX11_readCell d QF o 8 [some (.ref o), some (.int b), some (.int (nI k))] [] F := by
  intro m
  induction m with
  | zero =>
    intro k b hk hb hj
    refine yX11_readCell_8 (yX11_readCell_9 (yX11_readCell_10 (yX11_readCell_13 (yX11_readCell_14 (yX11_readCell_17 (ble rfl) rfl (i := u) s29 hu ?_)))))
    rw [a9]
    refine yX11_readCell_18 (fun _ => ?_) (fun h9 => absurd (nI_le (by omega) (by omega)) h9)
    obtain rfl : k = cc := by omega
    exact kont b hb hj
  | succ m ih =>
    intro k b hk hb hj
    refine yX11_readCell_8 (yX11_readCell_9 (yX11_readCell_10 (yX11_readCell_13 (yX11_readCell_14 (yX11_readCell_17 (ble rfl) rfl (i := u) s29 hu ?_)))))
    rw [a9]
    refine yX11_readCell_18 (fun h9 => absurd h9 (nI_ge (by omega) (by omega))) (fun _ => ?_)
    have G : ∀ b' : Int32, (b' = 0 ∨ b' = 1) → (b' = 1 ↔ (b = 1 ∧ ¬ F.l 10 (12 * u + k) = F.nm)) → Y w mX11_readCell d QF o 52 [some (.ref o), some (.int b), some (.int (nI k))] [.int b'] F := by
      intro b' h1 h2
      refine yX11_readCell_52 rfl (yX11_readCell_53 rfl (yX11_readCell_56 ?_))
      rw [nI_1]
      refine ih (k + 1) b' (by omega) h1 (h2.trans ⟨fun z j h => ?_, fun z => ⟨hj.mpr (fun j h => z j (by omega)), z k (by omega)⟩⟩)
      rcases Nat.lt_or_eq_of_le (Nat.lt_succ_iff.mp h) with y | y
      · exact hj.mp z.1 j y
      · subst y; exact z.2
    refine yX11_readCell_21 (yX11_readCell_22 (fun h9 => ?_) (fun h9 => ?_))
    · refine yX11_readCell_51 ?_
      exact G 0 (Or.inl rfl) ⟨fun z => absurd z (by decide), fun z => absurd (h9.symm.trans z.1) (by decide)⟩
    · refine yX11_readCell_25 (yX11_readCell_26 (yX11_readCell_29 (yX11_readCell_31 (yX11_readCell_32 (yX11_readCell_35 (yX11_readCell_36 (yX11_readCell_37 (yX11_readCell_38 (ble rfl) rfl (i := 12 * u + k) (by rw [s29]; exact ixm 12 _ _) (by omega) (yX11_readCell_39 (yX11_readCell_40 (yX11_readCell_43 (yX11_readCell_44 (fun h8 => ?_) (fun h8 => ?_)))))))))))))
      · rw [lg_cmp_eq] at h8
        refine yX11_readCell_51 ?_
        exact G 0 (Or.inl rfl) ⟨fun z => absurd z (by decide), fun z => absurd h8 z.2⟩
      · rw [lg_cmp_eq] at h8
        refine yX11_readCell_47 (yX11_readCell_48 ?_)
        exact G 1 (Or.inr rfl) ⟨fun _ => ⟨hb.resolve_left h9, h8⟩, fun _ => rfl⟩
theorem rc_l4 {c : Nat} {x : Int32} (hc : c < 24) (s30 : F.s 30 = nI c)
    (kont : ∀ f, (∀ j, j < 4 → f (4 * c + j) = 0) → (∀ i, (i < 4 * c ∨ 4 * c + 4 ≤ i) → f i = F.a 16 i) → Y w mX11_readCell d QF o 201 [some (.ref o), some (.int x), some (.int (nI 4))] [] (F.uA 16 f)) :
    ∀ m k f, k + m = 4 → (∀ j, j < k → f (4 * c + j) = 0) → (∀ i, (i < 4 * c ∨ 4 * c + 4 ≤ i) → f i = F.a 16 i) → Y w mX11_readCell d QF o 176 [some (.ref o), some (.int x), some (.int (nI k))] [] (F.uA 16 f) := by
  intro m
  induction m with
  | zero =>
    intro k f hk h1 h2
    obtain rfl : k = 4 := by omega
    refine yX11_readCell_176 (yX11_readCell_177 (yX11_readCell_178 (fun _ => ?_) (fun h9 => absurd (by decide) h9)))
    exact kont f h1 h2
  | succ m ih =>
    intro k f hk h1 h2
    refine yX11_readCell_176 (yX11_readCell_177 (yX11_readCell_178 (fun h9 => absurd h9 (nI_ge (b := 4) (by omega) (by omega))) (fun _ => ?_)))
    refine yX11_readCell_181 (yX11_readCell_182 (yX11_readCell_185 (yX11_readCell_186 (yX11_readCell_187 (yX11_readCell_190 (yX11_readCell_191 (yX11_readCell_192 (yX11_readCell_193 (yX11_readCell_194 (ble rfl) (fun _ => rfl) (i := 4 * c + k) (by rw [show (F.uA 16 f).s 30 = nI c from s30]; exact ixm 4 _ _) (by omega) (yX11_readCell_195 rfl (yX11_readCell_198 ?_)))))))))))
    rw [nI_1, uA_uA, uA_s]
    refine ih (k + 1) _ (by omega) (fun j hj => ?_) (fun i hi => ?_)
    · by_cases e : j = k
      · subst e; rw [pk_us]; rfl
      · rw [pk_un (by omega)]; exact h1 j (by omega)
    · rw [pk_un (by omega)]; exact h2 i hi
theorem rc_l3 {c : Nat} {x : Int32} (hc : c < 24) (s30 : F.s 30 = nI c)
    (kont : ∀ f, (∀ j, j < 3 → f (3 * c + j) = 0) → (∀ i, (i < 3 * c ∨ 3 * c + 3 ≤ i) → f i = F.a 15 i) → Y w mX11_readCell d QF o 228 [some (.ref o), some (.int x), some (.int (nI 3))] [] (F.uA 15 f)) :
    ∀ m k f, k + m = 3 → (∀ j, j < k → f (3 * c + j) = 0) → (∀ i, (i < 3 * c ∨ 3 * c + 3 ≤ i) → f i = F.a 15 i) → Y w mX11_readCell d QF o 203 [some (.ref o), some (.int x), some (.int (nI k))] [] (F.uA 15 f) := by
  intro m
  induction m with
  | zero =>
    intro k f hk h1 h2
    obtain rfl : k = 3 := by omega
    refine yX11_readCell_203 (yX11_readCell_204 (yX11_readCell_205 (fun _ => ?_) (fun h9 => absurd (by decide) h9)))
    exact kont f h1 h2
  | succ m ih =>
    intro k f hk h1 h2
    refine yX11_readCell_203 (yX11_readCell_204 (yX11_readCell_205 (fun h9 => absurd h9 (nI_ge (b := 3) (by omega) (by omega))) (fun _ => ?_)))
    refine yX11_readCell_208 (yX11_readCell_209 (yX11_readCell_212 (yX11_readCell_213 (yX11_readCell_214 (yX11_readCell_217 (yX11_readCell_218 (yX11_readCell_219 (yX11_readCell_220 (yX11_readCell_221 (ble rfl) (fun _ => rfl) (i := 3 * c + k) (by rw [show (F.uA 15 f).s 30 = nI c from s30]; exact ixm 3 _ _) (by omega) (yX11_readCell_222 rfl (yX11_readCell_225 ?_)))))))))))
    rw [nI_1, uA_uA, uA_s]
    refine ih (k + 1) _ (by omega) (fun j hj => ?_) (fun i hi => ?_)
    · by_cases e : j = k
      · subst e; rw [pk_us]
      · rw [pk_un (by omega)]; exact h1 j (by omega)
    · rw [pk_un (by omega)]; exact h2 i hi
theorem rc_l64 {c : Nat} {x : Int32} (hc : c < 24) (s30 : F.s 30 = nI c)
    (kont : ∀ f, (∀ j, j < 64 → f (64 * c + j) = 0) → (∀ i, (i < 64 * c ∨ 64 * c + 64 ≤ i) → f i = F.a 20 i) → Y w mX11_readCell d QF o 257 [some (.ref o), some (.int x), some (.int (nI 64))] [] (F.uA 20 f)) :
    ∀ m k f, k + m = 64 → (∀ j, j < k → f (64 * c + j) = 0) → (∀ i, (i < 64 * c ∨ 64 * c + 64 ≤ i) → f i = F.a 20 i) → Y w mX11_readCell d QF o 230 [some (.ref o), some (.int x), some (.int (nI k))] [] (F.uA 20 f) := by
  intro m
  induction m with
  | zero =>
    intro k f hk h1 h2
    obtain rfl : k = 64 := by omega
    refine yX11_readCell_230 (yX11_readCell_231 (yX11_readCell_233 (fun _ => ?_) (fun h9 => absurd (by decide) h9)))
    exact kont f h1 h2
  | succ m ih =>
    intro k f hk h1 h2
    refine yX11_readCell_230 (yX11_readCell_231 (yX11_readCell_233 (fun h9 => absurd h9 (nI_ge (b := 64) (by omega) (by omega))) (fun _ => ?_)))
    refine yX11_readCell_236 (yX11_readCell_237 (yX11_readCell_240 (yX11_readCell_242 (yX11_readCell_243 (yX11_readCell_246 (yX11_readCell_247 (yX11_readCell_248 (yX11_readCell_249 (yX11_readCell_250 (ble rfl) (fun _ => rfl) (i := 64 * c + k) (by rw [show (F.uA 20 f).s 30 = nI c from s30]; exact ixm 64 _ _) (by omega) (yX11_readCell_251 rfl (yX11_readCell_254 ?_)))))))))))
    rw [nI_1, uA_uA, uA_s]
    refine ih (k + 1) _ (by omega) (fun j hj => ?_) (fun i hi => ?_)
    · by_cases e : j = k
      · subst e; rw [pk_us]
      · rw [pk_un (by omega)]; exact h1 j (by omega)
    · rw [pk_un (by omega)]; exact h2 i hi
/-- a cell has been begun -/
def stC (F F1 : mF) (c : Nat) : Prop := cW F F1 c ∧ tkK' F F1 ∧ F1.s 30 = nI c ∧ F1.l 10 c = F.nm ∧ F1.a 11 c = F.s 23 ∧ F1.a 13 c = 0 ∧ F1.a 14 c = 0 ∧ F1.a 18 c = 0 ∧ (∀ k, k < 4 → F1.a 16 (4 * c + k) = 0) ∧ (∀ k, k < 3 → F1.a 15 (3 * c + k) = 0) ∧ ∀ k, k < 64 → F1.a 20 (64 * c + k) = 0
theorem rem12 {x : Nat} (h : x ≤ 12) : nI x - nI x / 12 * 12 = nI (x % 12) := pk_rem (d := 12) (by omega) (by omega) (by omega)
theorem cW.u30 {F : mF} {c : Nat} {v : Int32} : cW F (F.uS 30 v) c := ⟨fun _ _ _ => ⟨rfl, rfl⟩, fun _ _ _ _ _ => ⟨rfl, rfl⟩, rfl, rfl, rfl⟩
theorem rc_B {cc : Nat} {x : Int32} {y : Option Value} (hu : u < 2) (hcc : cc ≤ 12) (s29 : F.s 29 = nI u) (a9 : F.a 9 u = nI cc)
    (kont : ∀ F1, stC F F1 (12 * u + cc % 12) → Y w mX11_readCell d QF o 257 [some (.ref o), some (.int x), some (.int (nI 64))] [] F1) : Y w mX11_readCell d QF o 94 [some (.ref o), some (.int x), y] [] F := by
  have hc : 12 * u + cc % 12 < 24 := by omega
  refine yX11_readCell_94 (yX11_readCell_95 (yX11_readCell_97 (yX11_readCell_98 (yX11_readCell_101 (yX11_readCell_102 (yX11_readCell_103 (yX11_readCell_106 (yX11_readCell_107 (yX11_readCell_110 (ble rfl) rfl (i := u) s29 hu ?_)))))))))
  rw [a9]
  refine yX11_readCell_111 (yX11_readCell_113 (by decide) ?_)
  rw [rem12 hcc, s29]
  refine yX11_readCell_114 ?_
  rw [show (12 : Int32) * nI u + nI (cc % 12) = nI (12 * u + cc % 12) from ixm 12 _ _]
  generalize 12 * u + cc % 12 = c at hc kont ⊢
  refine yX11_readCell_115 (yX11_readCell_118 (yX11_readCell_119 (yX11_readCell_122 (yX11_readCell_123 (yX11_readCell_126 (yX11_readCell_127 (yX11_readCell_130 (ble rfl) (fun _ => rfl) (i := c) rfl hc (yX11_readCell_131 (yX11_readCell_132 (yX11_readCell_135 (yX11_readCell_136 (yX11_readCell_139 (yX11_readCell_140 (yX11_readCell_143 (ble rfl) (fun _ => rfl) (i := c) rfl hc (yX11_readCell_144 (yX11_readCell_145 (yX11_readCell_148 (yX11_readCell_149 (yX11_readCell_152 (yX11_readCell_153 (ble rfl) (fun _ => rfl) (i := c) rfl hc (yX11_readCell_154 (yX11_readCell_155 (yX11_readCell_158 (yX11_readCell_159 (yX11_readCell_162 (yX11_readCell_163 (ble rfl) (fun _ => rfl) (i := c) rfl hc (yX11_readCell_164 (yX11_readCell_165 (yX11_readCell_168 (yX11_readCell_169 (yX11_readCell_172 (yX11_readCell_173 (ble rfl) (fun _ => rfl) (i := c) rfl hc (yX11_readCell_174 (yX11_readCell_175 rfl ?_))))))))))))))))))))))))))))))))))
  have kA : cW F (((((((F.uS 30 (nI c)).uL 10 (vp_updL (F.l 10) c F.nm))).uA 11 (upd (F.a 11) c (F.s 23))).uA 13 (upd (F.a 13) c 0)).uA 14 (upd (F.a 14) c 0)).uA 18 (upd (F.a 18) c 0)) c :=
    ((((cW.u30.tr (cW.uL (r := 10) (by omega) (by show c * 1 ≤ c; omega) (by show c < (c + 1) * 1; omega))).tr (cW.uA (r := 11) (by omega) (by show c * 1 ≤ c; omega) (by show c < (c + 1) * 1; omega))).tr (cW.uA (r := 13) (by omega) (by show c * 1 ≤ c; omega) (by show c < (c + 1) * 1; omega))).tr (cW.uA (r := 14) (by omega) (by show c * 1 ≤ c; omega) (by show c < (c + 1) * 1; omega))).tr (cW.uA (r := 18) (by omega) (by show c * 1 ≤ c; omega) (by show c < (c + 1) * 1; omega))
  have tA : tkK' F (((((((F.uS 30 (nI c)).uL 10 (vp_updL (F.l 10) c F.nm))).uA 11 (upd (F.a 11) c (F.s 23))).uA 13 (upd (F.a 13) c 0)).uA 14 (upd (F.a 14) c 0)).uA 18 (upd (F.a 18) c 0)) := ⟨rfl, rfl, fun j hj => if_neg hj⟩
  have hA : (((((((F.uS 30 (nI c)).uL 10 (vp_updL (F.l 10) c F.nm))).uA 11 (upd (F.a 11) c (F.s 23))).uA 13 (upd (F.a 13) c 0)).uA 14 (upd (F.a 14) c 0)).uA 18 (upd (F.a 18) c 0)).s 30 = nI c := rfl
  have vA : (((((((F.uS 30 (nI c)).uL 10 (vp_updL (F.l 10) c F.nm))).uA 11 (upd (F.a 11) c (F.s 23))).uA 13 (upd (F.a 13) c 0)).uA 14 (upd (F.a 14) c 0)).uA 18 (upd (F.a 18) c 0)).l 10 c = F.nm ∧ (((((((F.uS 30 (nI c)).uL 10 (vp_updL (F.l 10) c F.nm))).uA 11 (upd (F.a 11) c (F.s 23))).uA 13 (upd (F.a 13) c 0)).uA 14 (upd (F.a 14) c 0)).uA 18 (upd (F.a 18) c 0)).a 11 c = F.s 23 ∧ (((((((F.uS 30 (nI c)).uL 10 (vp_updL (F.l 10) c F.nm))).uA 11 (upd (F.a 11) c (F.s 23))).uA 13 (upd (F.a 13) c 0)).uA 14 (upd (F.a 14) c 0)).uA 18 (upd (F.a 18) c 0)).a 13 c = 0 ∧ (((((((F.uS 30 (nI c)).uL 10 (vp_updL (F.l 10) c F.nm))).uA 11 (upd (F.a 11) c (F.s 23))).uA 13 (upd (F.a 13) c 0)).uA 14 (upd (F.a 14) c 0)).uA 18 (upd (F.a 18) c 0)).a 14 c = 0 ∧ (((((((F.uS 30 (nI c)).uL 10 (vp_updL (F.l 10) c F.nm))).uA 11 (upd (F.a 11) c (F.s 23))).uA 13 (upd (F.a 13) c 0)).uA 14 (upd (F.a 14) c 0)).uA 18 (upd (F.a 18) c 0)).a 18 c = 0 := ⟨pk_uLs, pk_us, pk_us, pk_us, pk_us⟩
  show Y w mX11_readCell d QF o 176 [some (.ref o), some (.int x), some (.int (nI 0))] [] (((((((F.uS 30 (nI c)).uL 10 (vp_updL (F.l 10) c F.nm))).uA 11 (upd (F.a 11) c (F.s 23))).uA 13 (upd (F.a 13) c 0)).uA 14 (upd (F.a 14) c 0)).uA 18 (upd (F.a 18) c 0))
  generalize (((((((F.uS 30 (nI c)).uL 10 (vp_updL (F.l 10) c F.nm))).uA 11 (upd (F.a 11) c (F.s 23))).uA 13 (upd (F.a 13) c 0)).uA 14 (upd (F.a 14) c 0)).uA 18 (upd (F.a 18) c 0)) = F1 at kA tA hA vA ⊢
  rw [← uA_id (F := F1) (r := 16)]
  refine rc_l4 hc hA (fun f f1 f2 => ?_) 4 0 (F1.a 16) rfl (fun j hj => by omega) (fun i _ => rfl)
  refine yX11_readCell_201 (yX11_readCell_202 rfl ?_)
  show Y w mX11_readCell d QF o 203 [some (.ref o), some (.int x), some (.int (nI 0))] [] (F1.uA 16 f)
  rw [← uA_id (F := F1.uA 16 f) (r := 15)]
  refine rc_l3 (F := F1.uA 16 f) hc hA (fun g g1 g2 => ?_) 3 0 ((F1.uA 16 f).a 15) rfl (fun j hj => by omega) (fun i _ => rfl)
  refine yX11_readCell_228 (yX11_readCell_229 rfl ?_)
  show Y w mX11_readCell d QF o 230 [some (.ref o), some (.int x), some (.int (nI 0))] [] ((F1.uA 16 f).uA 15 g)
  rw [← uA_id (F := (F1.uA 16 f).uA 15 g) (r := 20)]
  refine rc_l64 (F := (F1.uA 16 f).uA 15 g) hc hA (fun h h1 h2 => ?_) 64 0 (((F1.uA 16 f).uA 15 g).a 20) rfl (fun j hj => by omega) (fun i _ => rfl)
  refine kont _ ⟨?_, ⟨tA.1, tA.2.1, tA.2.2⟩, hA, vA.1, vA.2.1, vA.2.2.1, vA.2.2.2.1, vA.2.2.2.2, f1, g1, h1⟩
  refine kA.tr (((cW.uAf (r := 16) (by omega) (fun i hi => f2 i ?_)).tr (cW.uAf (r := 15) (by omega) (fun i hi => g2 i ?_))).tr (cW.uAf (r := 20) (by omega) (fun i hi => h2 i ?_)))
  · have : i < c * 4 ∨ (c + 1) * 4 ≤ i := hi
    omega
  · have : i < c * 3 ∨ (c + 1) * 3 ≤ i := hi
    omega
  · have : i < c * 64 ∨ (c + 1) * 64 ≤ i := hi
    omega
def qD (F : mF) (T : Nat → Int32) (n u p : Nat) : Option Value → mF → Prop := fun v F' => v = none ∧ de F' T n p ∧ bK F F' u
theorem qD.mono {F1 F' : mF} {p : Nat} {v : Option Value} (hk : bK F F1 u) (h : qD F1 T n u p v F') : qD F T n u p v F' := ⟨h.1, h.2.1, hk.tr h.2.2⟩
theorem rc_D3 {p : Nat} {x y : Option Value} (hu : u < 2) (s29 : F.s 29 = nI u) (h : de F T n p) : Y w mX11_readCell (d + 8) (qD F T n u p) o 311 [some (.ref o), x, y] [] F := by
  refine yX11_readCell_311 (yX11_readCell_312 (yX11_readCell_314 (ble rfl) (sg_d h) (yX11_readCell_317 (yX11_readCell_318 (yX11_readCell_321 (yX11_readCell_322 (yX11_readCell_325 (yX11_readCell_326 (ble rfl) rfl (i := u) s29 hu (yX11_readCell_327 (yX11_readCell_328 (yX11_readCell_331 (fun h331 => ?_) (fun h331 => ?_))))))))))))
  · refine yX11_readCell_338 (yX11_readCell_339 (yX11_readCell_340 (ble rfl) (fun _ => rfl) (i := u) s29 hu (yX11_readCell_341 ?_)))
    exact ⟨rfl, h, bK.uA (r := 9) (by show u * 1 ≤ u; omega) (by show u < (u + 1) * 1; omega)⟩
  · refine yX11_readCell_334 (yX11_readCell_335 (yX11_readCell_339 (yX11_readCell_340 (ble rfl) (fun _ => rfl) (i := u) s29 hu (yX11_readCell_341 ?_))))
    exact ⟨rfl, h, bK.uA (r := 9) (by show u * 1 ≤ u; omega) (by show u < (u + 1) * 1; omega)⟩
theorem rc_D2 {p c : Nat} {x y : Option Value} (hu : u < 2) (hc : c < 24) (s29 : F.s 29 = nI u) (s30 : F.s 30 = nI c) (h : de F T n p) : Y w mX11_readCell (d + 8) (qD F T n u p) o 267 [some (.ref o), x, y] [] F := by
  refine yX11_readCell_267 (yX11_readCell_268 (yX11_readCell_271 (fun _ => ?_) (fun h9 => absurd h.2.2.2.1 h9)))
  refine yX11_readCell_290 (yX11_readCell_291 (yX11_readCell_292 (yX11_readCell_295 (yX11_readCell_296 (yX11_readCell_299 (ble rfl) rfl (i := c) s30 hc (yX11_readCell_300 (fun h300 => ?_) (fun h300 => ?_)))))))
  · refine yX11_readCell_307 (yX11_readCell_308 (ble rfl) (n_d h.2.2.2.1 (by first | exact Or.inl rfl | exact Or.inr rfl)) ?_)
    exact rc_D3 hu s29 h
  · refine yX11_readCell_303 (yX11_readCell_304 (yX11_readCell_308 (ble rfl) (n_d h.2.2.2.1 (by first | exact Or.inl rfl | exact Or.inr rfl)) ?_))
    exact rc_D3 hu s29 h
theorem rc_D1 {p c : Nat} {x y : Option Value} (hu : u < 2) (hc : c < 24) (s29 : F.s 29 = nI u) (s30 : F.s 30 = nI c) (h : de F T n p) : Y w mX11_readCell (d + 8) (qD F T n u p) o 257 [some (.ref o), x, y] [] F := by
  refine yX11_readCell_257 (yX11_readCell_258 (ble rfl) (g_d h.2.2.2.1) (yX11_readCell_261 (yX11_readCell_262 (yX11_readCell_264 (ble rfl) (sg_d h) ?_))))
  exact rc_D2 hu hc s29 s30 h
variable {L : liT} {c : ceT}
theorem rc_L {F0 : mF} {x y : Option Value} {Q : Except Nat (ceT × tSt × Nat) → Option Value → mF → Prop}
    (kE : ∀ (p : Nat) (F' : mF), mCd F' T n u k L.tc L.tn p → cK F0 F' (12 * u + k) → Y w mX11_readCell (d + 8) (Q (.error p)) o 267 [some (.ref o), x, y] [] F')
    (kO : ∀ (z : ceT × tSt × Nat) (F' : mF), mCo F' T n u k L.tc L.tn z.1 z.2.2 → cK F0 F' (12 * u + k) → ¬ sW T n z.2.2 6 = 0 → Y w mX11_readCell (d + 8) (Q (.ok z)) o 290 [some (.ref o), x, y] [] F') :
    ∀ N m c t q F, n - q < N → N ≤ m → mCo F T n u k L.tc L.tn c q → cK F0 F (12 * u + k) → Y w mX11_readCell (d + 8) (Q (rItems (tkOf T n) L m c t q)) o 267 [some (.ref o), x, y] [] F := by
  intro N
  induction N with
  | zero => intro m c t q F h1; omega
  | succ N ih =>
    intro m c t q F h1 h2 h k0
    obtain ⟨m, rfl⟩ : ∃ m', m = m' + 1 := ⟨m - 1, by omega⟩
    have ht := h.1.2.2.2.2.2
    have hq := h.1.2.2.2.2.1
    refine yX11_readCell_267 (yX11_readCell_268 (yX11_readCell_271 (fun h9 => absurd (h.1.2.2.2.1.symm.trans h9) (by decide)) (fun _ => ?_)))
    refine yX11_readCell_274 (yX11_readCell_275 (yX11_readCell_277 (ble rfl) (m_isSign 125 h.1.1 h.1.2.2.1 hq ht) (yX11_readCell_280 (fun h9 => ?_) (fun h9 => ?_))))
    · have h6 := (sgn_iff hq sg6).mp ((sgn_01 _ _ _ _).resolve_left h9)
      rw [show rItems (tkOf T n) L (m + 1) c t q = .ok (c, t, q) from if_pos h6]
      exact kO (c, t, q) F h k0 h6
    · have h6 : ¬ ¬ sW T n q 6 = 0 := fun z => absurd (((sgn_iff hq sg6).mpr z).symm.trans h9) (by decide)
      rw [show rItems (tkOf T n) L (m + 1) c t q = bnd (rItem (tkOf T n) L c t q) (fun x => bnd (rSign (tkOf T n) 3 x.2.2) (fun q2 => rItems (tkOf T n) L m x.1 x.2.1 q2)) from if_neg h6]
      refine yX11_readCell_283 (yX11_readCell_284_g (ble rfl) (it_a t h) (fun v F1 hF => ?_))
      obtain ⟨rfl, hR, k1⟩ := hF
      have k01 := k0.tr k1
      refine yX11_readCell_287 ?_
      match hr : rItem (tkOf T n) L c t q with
      | .error p =>
        rw [hr] at hR
        exact kE p F1 hR k01
      | .ok z =>
        rw [hr] at hR
        have g1 := mo_item mo_tk hq hr
        show Y w mX11_readCell (d + 8) (Q (bnd (rSign (tkOf T n) 3 z.2.2) (fun q2 => rItems (tkOf T n) L m z.1 z.2.1 q2))) o 267 _ _ _
        have hR : mCR F1 T n u k L.tc L.tn (bnd (rSign (tkOf T n) 3 z.2.2) (fun q2 => .ok (z.1, q2))) := hR
        match hs : rSign (tkOf T n) 3 z.2.2 with
        | .error p =>
          rw [hs] at hR
          exact kE p F1 hR k01
        | .ok q2 =>
          rw [hs] at hR
          obtain ⟨b1, b2⟩ := dmd_ok hs
          cases b2
          have g2 := W_sg g1.2 sg3 b1
          exact ih m z.1 z.2.1 _ F1 (by have := g1.1; have : sE T n z.2.2 = (tkOf T n).E z.2.2 := rfl; have := (sE_le T g1.2).2; omega) (by omega) hR k01
theorem hsC_c (f : Nat → Int64) (x : Int64) : ∀ m i, hsC f x m i = 0 ↔ ∀ j, i ≤ j → j < i + m → ¬ f j = x := by
  intro m
  induction m with
  | zero => intro i; exact ⟨fun _ j a b => by omega, fun _ => rfl⟩
  | succ m ih =>
    intro i
    unfold hsC
    by_cases h : f i = x
    · rw [if_pos h]
      exact ⟨fun z => absurd z (by decide), fun z => absurd h (z i (by omega) (by omega))⟩
    · rw [if_neg h, ih (i + 1)]
      refine ⟨fun z j a b => ?_, fun z j a b => z j (by omega) (by omega)⟩
      rcases Nat.eq_or_lt_of_le a with e | e
      · subst e; exact h
      · exact z j (by omega) (by omega)
theorem rc_a (t : tSt) (h : mLo F T n u L q) : yC w (d + 8) mX11_readCell [.ref o] o F (qL F T n u (bnd (rCell (tkOf T n) L t q) (fun x => .ok (x.1, x.2.2)))) := by
  obtain ⟨ha, hu, s29, hL, hw⟩ := id h
  obtain ⟨w1, w2, w3, w4, w5, w6⟩ := id hw
  refine yC_of (by decide) (ble rfl) (ls := [some (.ref o), none, none]) rfl ?_
  refine yX11_readCell_0 (yX11_readCell_1_g (ble rfl) (g_a ha) (fun v F1 hF => ?_))
  obtain ⟨rfl, a1, k1⟩ := hF
  have h1 := h.kT a1 k1
  obtain ⟨_, _, t29, hL1, _⟩ := id h1
  have e1 : bnd (rCell (tkOf T n) L t q) (fun x => .ok (x.1, x.2.2)) = bnd (dmd (¬ sN T n (sE T n q) = 0 ∧ L.cc < 12) (sS T n (sE T n q)) (dmd (hsC (fun k => (L.cs k).nm) (sN T n (sE T n q)) L.cc 0 = 0) (sS T n (sE T n q))
    (bnd (rSign (tkOf T n) 5 (sE T n (sE T n q))) (fun q2 =>
      bnd (rItems (tkOf T n) L 1400 (cNew (L.cs L.cc) (sN T n (sE T n q)) (sS T n (sE T n q))) t q2) (fun x =>
        dmd (0 < x.1.o) (sS T n x.2.2) (bnd (rSign (tkOf T n) 6 x.2.2) (fun q3 => .ok ((L.tc, L.tn, L.ts, L.cc + 1, upT L.cs L.cc x.1), x.2.1, q3)))))))) (fun x => .ok (x.1, x.2.2)) := rfl
  rw [e1]
  clear e1
  generalize sE T n q = q1 at a1 h1 ⊢
  have ht := a1.2.2.2.2.2
  have hq := a1.2.2.2.2.1
  have h4 := sK_le T hq
  have a9 : F1.a 9 u = nI L.cc := hL1.2.1
  -- the name is refused
  have Z : ∀ (b : Int32) (R : Except Nat (liT × tSt × Nat)), ¬ ((¬ sN T n q1 = 0 ∧ L.cc < 12) ∧ hsC (fun k => (L.cs k).nm) (sN T n q1) L.cc 0 = 0) → Y w mX11_readCell (d + 8) (qL F T n u (bnd (dmd (¬ sN T n q1 = 0 ∧ L.cc < 12) (sS T n q1) (dmd (hsC (fun k => (L.cs k).nm) (sN T n q1) L.cc 0 = 0) (sS T n q1) R)) (fun x => .ok (x.1, x.2.2)))) o 91 [some (.ref o), some (.int b), some (.int (nI L.cc))] [.int 0, .ref o] F1 := by
    intro b R z
    have e : dmd (¬ sN T n q1 = 0 ∧ L.cc < 12) (sS T n q1) (dmd (hsC (fun k => (L.cs k).nm) (sN T n q1) L.cc 0 = 0) (sS T n q1) R) = .error (sS T n q1) := by
      by_cases y : ¬ sN T n q1 = 0 ∧ L.cc < 12
      · rw [dmd_t y, dmd_f (fun y2 => z ⟨y, y2⟩)]
      · rw [dmd_f y]
    rw [e]
    refine yX11_readCell_91 (ble rfl) n_0 ?_
    refine rc_B hu w2 t29 a9 (fun F2 hs => ?_)
    have hd : de F2 T n (sS T n q1) := a1.die.tk hs.2.1
    exact Y_imp (rc_D1 hu (by omega) (hs.1.2.2.2.2.trans t29) hs.2.2.1 hd) (fun v F' hh => ⟨hh.1, hh.2.1, (k1.bK.tr (die_kT.bK.tr (hs.1.bK (by omega)))).tr hh.2.2⟩)
  refine yX11_readCell_4 (yX11_readCell_5 rfl (yX11_readCell_6 (yX11_readCell_7 rfl ?_)))
  refine rc_N hu w2 t29 a9 (fun b hb hbi => ?_) L.cc 0 1 (by omega) (Or.inr rfl) ⟨fun _ j hj => by omega, fun _ => rfl⟩
  refine yX11_readCell_59 (yX11_readCell_60 (yX11_readCell_61 ?_))
  rw [ht.2.2.1]
  refine yX11_readCell_64 (yX11_readCell_65 (fun h7 => ?_) (fun h7 => ?_))
  · refine yX11_readCell_90 ?_
    exact Z b _ (fun z => h7 (by rw [(sN_0 hq).mp z.1.1]; rfl))
  have h7 : sK T n q1 = 1 := (nI_eq (b := 1) (by omega) (by omega)).mp h7
  have hnm := tn_l ht h7
  have hb2 : b = 1 ↔ hsC (fun k => (L.cs k).nm) (sN T n q1) L.cc 0 = 0 := by
    rw [hbi, hsC_c]
    refine ⟨fun z j _ hj => ?_, fun z j hj => ?_⟩
    · have := z j (by omega)
      rw [(hL1.2.2.2 j (by omega)).1, hnm] at this
      exact this
    · have := z j (by omega) (by omega)
      rw [(hL1.2.2.2 j (by omega)).1, hnm]
      exact this
  refine yX11_readCell_68 (yX11_readCell_69 (fun h6 => ?_) (fun h6 => ?_))
  · refine yX11_readCell_90 ?_
    exact Z b _ (fun z => absurd (h6.symm.trans (hb2.mpr z.2)) (by decide))
  have h6 := hb2.mp (hb.resolve_left h6)
  refine yX11_readCell_72 (yX11_readCell_73 (yX11_readCell_76 (yX11_readCell_77 (yX11_readCell_80 (ble rfl) rfl (i := u) t29 hu ?_))))
  rw [a9]
  refine yX11_readCell_81 (yX11_readCell_83 (fun h5 => ?_) (fun h5 => ?_))
  · have h5 : 12 ≤ L.cc := (nI_leI (a := 12) (by omega) (by omega)).mp h5
    refine yX11_readCell_90 ?_
    exact Z b _ (fun z => by omega)
  have h5 : L.cc < 12 := by
    rcases Nat.lt_or_ge L.cc 12 with z | z
    · exact z
    · exact absurd (nI_le (a := 12) z (by omega)) h5
  clear Z
  rw [dmd_t ⟨(sN_0 hq).mpr h7, h5⟩, dmd_t h6]
  refine yX11_readCell_86 (yX11_readCell_87 (yX11_readCell_91 (ble rfl) (n_1 a1.2.2.2.1) ?_))
  refine rc_B hu w2 t29 a9 (fun F2 hs => ?_)
  rw [Nat.mod_eq_of_lt h5] at hs
  obtain ⟨kW, hT, v30, v10, v11, v13, v14, v18, v16, v15, v20⟩ := id hs
  have v29 : F2.s 29 = nI u := kW.2.2.2.2.trans t29
  have a2 := a1.tk hT
  have rN : celR F2 (12 * u + L.cc) (cNew (L.cs L.cc) (sN T n q1) (sS T n q1)) := by
    refine ⟨v10.trans hnm, v11.trans ht.1, v13, v14, v18, fun j hj => absurd hj (Nat.not_lt_zero _), fun j hj => absurd hj (Nat.not_lt_zero _), fun j hj => ?_, fun j hj => ?_, v16 3 (by omega), fun j hj => absurd hj (Nat.not_lt_zero _), fun j hj => absurd hj (Nat.not_lt_zero _), fun _ => v20, fun z => absurd rfl z⟩
    · rw [v15 j hj]
      show (0 : Int32) = z3 _ j
      have : j = 0 ∨ j = 1 ∨ j = 2 := by omega
      rcases this with e | e | e <;> subst e <;> rfl
    · rw [v16 j (by omega)]
      show (0 : Int32) = z3 _ j
      have : j = 0 ∨ j = 1 ∨ j = 2 := by omega
      rcases this with e | e | e <;> subst e <;> rfl
  have wN : wC L.tc (cNew (L.cs L.cc) (sN T n q1) (sS T n q1)) := by
    refine ⟨Nat.zero_le _, Nat.zero_le _, Nat.zero_le _, fun j hj => absurd hj (Nat.not_lt_zero _), fun j _ hj => absurd hj (Nat.not_lt_zero _), Or.inl rfl, fun j hj => Or.inl ?_, fun j hj => absurd hj (Nat.not_lt_zero _), fun j hj => absurd hj (Nat.not_lt_zero _)⟩
    show z3 _ j = 0
    have : j = 0 ∨ j = 1 ∨ j = 2 := by omega
    rcases this with e | e | e <;> subst e <;> rfl
  have N2 : tabN F2 u L.tc L.tn := by
    unfold tabN
    rw [(kW.1 2 (by omega) (by omega)).1, (kW.1 3 (by omega) (by omega)).2]
    exact hL1.1
  have h2 : mCo F2 T n u L.cc L.tc L.tn (cNew (L.cs L.cc) (sN T n q1) (sS T n q1)) q1 := ⟨a2, shC.of hu h5 v29 v30 rN wN, N2, rN, wN⟩
  generalize cNew (L.cs L.cc) (sN T n q1) (sS T n q1) = cN at h2 ⊢
  refine yX11_readCell_257 (yX11_readCell_258_g (ble rfl) (g_a a2) (fun v F3 hF => ?_))
  obtain ⟨rfl, a3, k3⟩ := hF
  have h3 := h2.kT a3 k3
  have kF3 : cW F F3 (12 * u + L.cc) := (k1.cW.tr kW).tr k3.cW
  generalize sE T n q1 = q3 at a3 h3 ⊢
  refine yX11_readCell_261 (yX11_readCell_262 (yX11_readCell_264_g (ble rfl) (sg_a sg5 a3) (fun v F4 hF => ?_)))
  obtain ⟨rfl, a4, k4⟩ := hF
  have kF4 := kF3.tr k4.cW
  match hs : rSign (tkOf T n) 5 q3 with
  | .error p =>
    rw [hs] at a4
    have h4 := h3.dd a4 k4
    exact Y_imp (rc_D2 hu (by omega) h4.2.1.2.2.1 h4.2.1.2.2.2.1 h4.1) (fun v F' hh => ⟨hh.1, hh.2.1, (kF4.bK h5).tr hh.2.2⟩)
  | .ok q4 =>
    rw [hs] at a4
    have a4 : al F4 T n q4 := a4
    have h4 := h3.kT a4 k4
    have hq4 : 1 ≤ q4 := by
      obtain ⟨b1, b2⟩ := dmd_ok hs
      cases b2
      have := W_sg a3.2.2.2.2.1 sg5 b1
      show 1 ≤ sE T n q3
      omega
    have hn := a4.2.2.1
    have hq4n := a4.2.2.2.2.1
    refine rc_L (F0 := F4) (Q := fun r => qL F T n u (bnd (bnd r (fun x => dmd (0 < x.1.o) (sS T n x.2.2) (bnd (rSign (tkOf T n) 6 x.2.2) (fun q3 => .ok ((L.tc, L.tn, L.ts, L.cc + 1, upT L.cs L.cc x.1), x.2.1, q3))))) (fun x => .ok (x.1, x.2.2)))) ?_ ?_ 1400 1400 cN t q4 F4 (by omega) (Nat.le_refl _) h4 cK.rf
    · intro p F' h5' k5
      exact Y_imp (rc_D2 hu (by omega) h5'.2.1.2.2.1 h5'.2.1.2.2.2.1 h5'.1) (fun v F' hh => ⟨hh.1, hh.2.1, ((kF4.tr k5.cW).bK h5).tr hh.2.2⟩)
    · intro z F5 h5' k5 hz6
      have kF5 := kF4.tr k5.cW
      obtain ⟨_, _, x29, x30, _⟩ := h5'.2.1
      have r5 := h5'.2.2.2.1
      have w5' := h5'.2.2.2.2
      have a5 := h5'.1
      refine yX11_readCell_290 (yX11_readCell_291 (yX11_readCell_292 (yX11_readCell_295 (yX11_readCell_296 (yX11_readCell_299 (ble rfl) rfl (i := 12 * u + L.cc) x30 (by omega) ?_)))))
      rw [r5.2.2.2.1]
      refine yX11_readCell_300 (fun h9 => ?_) (fun h9 => ?_)
      · have h9 : ¬ 0 < z.1.o := by
          have := (nI_leI (b := 0) (by have := w5'.2.1; omega) (by omega)).mp h9
          omega
        refine yX11_readCell_307 (yX11_readCell_308 (ble rfl) n_0 ?_)
        show Y w mX11_readCell (d + 8) (qL F T n u (bnd (dmd (0 < z.1.o) (sS T n z.2.2) (bnd (rSign (tkOf T n) 6 z.2.2) (fun q3 => .ok ((L.tc, L.tn, L.ts, L.cc + 1, upT L.cs L.cc z.1), z.2.1, q3)))) (fun x => .ok (x.1, x.2.2)))) o _ _ _ _
        rw [dmd_f h9]
        exact Y_imp (rc_D3 hu x29 a5.die) (fun v F' hh => ⟨hh.1, hh.2.1, ((kF5.bK h5).tr die_kT.bK).tr hh.2.2⟩)
      · have h9 : 0 < z.1.o := by
          rcases Nat.eq_zero_or_pos z.1.o with y | y
          · exact absurd (by rw [y]; decide) h9
          · exact y
        show Y w mX11_readCell (d + 8) (qL F T n u (bnd (dmd (0 < z.1.o) (sS T n z.2.2) (bnd (rSign (tkOf T n) 6 z.2.2) (fun q3 => .ok ((L.tc, L.tn, L.ts, L.cc + 1, upT L.cs L.cc z.1), z.2.1, q3)))) (fun x => .ok (x.1, x.2.2)))) o _ _ _ _
        have e6 : rSign (tkOf T n) 6 z.2.2 = .ok (sE T n z.2.2) := dmd_t hz6
        rw [dmd_t h9, e6]
        refine yX11_readCell_303 (yX11_readCell_304 (yX11_readCell_308 (ble rfl) (n_1 a5.2.2.2.1) (yX11_readCell_311 (yX11_readCell_312 (yX11_readCell_314_g (ble rfl) (sg_a sg6 a5) (fun v F6 hF => ?_))))))
        obtain ⟨rfl, a6, k6⟩ := hF
        rw [e6] at a6
        have a6 : al F6 T n (sE T n z.2.2) := a6
        have h6' := h5'.kT a6 k6
        have kF6 := kF5.tr k6.cW
        have y29 : F6.s 29 = nI u := (k29 k6).trans x29
        have b9 : F6.a 9 u = nI L.cc := by rw [(kF6.1 9 (by omega) (by omega)).1]; exact hL.2.1
        refine yX11_readCell_317 (yX11_readCell_318 (yX11_readCell_321 (yX11_readCell_322 (yX11_readCell_325 (yX11_readCell_326 (ble rfl) rfl (i := u) y29 hu (yX11_readCell_327 (yX11_readCell_328 (yX11_readCell_331 (fun h8 => absurd (a6.2.2.2.1.symm.trans h8) (by decide)) (fun _ => ?_)))))))))
        refine yX11_readCell_334 (yX11_readCell_335 (yX11_readCell_339 (yX11_readCell_340 (ble rfl) (fun _ => rfl) (i := u) y29 hu ?_)))
        rw [b9, nI_1]
        refine yX11_readCell_341 ⟨rfl, ⟨a6, hu, y29, ⟨?_, pk_us, fun t ht => ?_, fun j hj => ?_⟩, ⟨w1, by show L.cc + 1 ≤ 12; omega, w3, w4, w5, fun j hj => ?_⟩⟩, (kF6.bK h5).tr (bK.uA (r := 9) (by show u * 1 ≤ u; omega) (by show u < (u + 1) * 1; omega))⟩
        · exact h6'.2.2.1
        · have := (hL.2.2.1 t ht).cg (F' := F6) (w5 t ht) (fun r i g1 g2 _ _ => by rw [(kF6.1 r (by omega) (by omega)).1, (kF6.1 r (by omega) (by omega)).2]; exact ⟨rfl, rfl⟩)
          exact this
        · have hj : j < L.cc + 1 := hj
          show celR F6 (12 * u + j) (upT L.cs L.cc z.1 j)
          by_cases e : j = L.cc
          · subst e; rw [upT_s]; exact h6'.2.2.2.1
          · rw [upT_n e]
            have := w6 j (by omega)
            exact (hL.2.2.2 j (by omega)).cW kF6 (by omega) ⟨this.1.1, this.1.2.1, this.1.2.2.1⟩
        · have hj : j < L.cc + 1 := hj
          show wC L.tc (upT L.cs L.cc z.1 j) ∧ 0 < (upT L.cs L.cc z.1 j).o
          by_cases e : j = L.cc
          · subst e; rw [upT_s]; exact ⟨w5', h9⟩
          · rw [upT_n e]; exact w6 j (by omega)
end M16
