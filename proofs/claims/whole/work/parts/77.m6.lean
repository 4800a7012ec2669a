section M6
variable {w : xWd} {d o : Nat} {F : mF} {T : Nat → Int32} {n : Nat}
variable {u k q : Nat} {c : ceT} {L : liT}
/-- whether no arc goes so -/
def nwF (F : mF) (cc : Nat) (x y : Int32) : Nat → Nat → Int32 → Int32
  | 0, _, a => a
  | m + 1, j, a => nwF F cc x y m (j + 1) (if a = 0 ∨ (F.a 19 (5 * (10 * cc + j)) = x ∧ F.a 19 (5 * (10 * cc + j) + 1) = y) then 0 else 1)
theorem nwF_0 (F : mF) (cc : Nat) (x y : Int32) : ∀ m j, nwF F cc x y m j 0 = 0 := by
  intro m
  induction m with
  | zero => intro j; rfl
  | succ m ih => intro j; show nwF F cc x y m (j + 1) (if _ then 0 else 1) = 0; rw [if_pos (Or.inl rfl)]; exact ih (j + 1)
theorem nwF_h {F : mF} {cc ac : Nat} {arcs : Nat → Int32} (x y : Int32) (h : ∀ j, j < 5 * ac → F.a 19 (50 * cc + j) = arcs j) : ∀ m j, j + m = ac → (nwF F cc x y m j 1 = 0 ∨ nwF F cc x y m j 1 = 1) ∧ (nwF F cc x y m j 1 = 1 ↔ hsA arcs x y m j = 0) := by
  intro m
  induction m with
  | zero => intro j _; exact ⟨Or.inr rfl, ⟨fun _ => rfl, fun _ => rfl⟩⟩
  | succ m ih =>
    intro j hj
    have e1 : F.a 19 (5 * (10 * cc + j)) = arcs (j * 5 + 0) := by rw [show 5 * (10 * cc + j) = 50 * cc + (j * 5 + 0) by omega]; exact h _ (by omega)
    have e2 : F.a 19 (5 * (10 * cc + j) + 1) = arcs (j * 5 + 1) := by rw [show 5 * (10 * cc + j) + 1 = 50 * cc + (j * 5 + 1) by omega]; exact h _ (by omega)
    show (nwF F cc x y m (j + 1) (if (1 : Int32) = 0 ∨ _ then 0 else 1) = 0 ∨ nwF F cc x y m (j + 1) (if (1 : Int32) = 0 ∨ _ then 0 else 1) = 1) ∧ (nwF F cc x y m (j + 1) (if (1 : Int32) = 0 ∨ _ then 0 else 1) = 1 ↔ (if arcs (j * 5 + 0) = x ∧ arcs (j * 5 + 1) = y then (1 : Int32) else hsA arcs x y m (j + 1)) = 0)
    rw [e1, e2]
    by_cases hc : arcs (j * 5 + 0) = x ∧ arcs (j * 5 + 1) = y
    · rw [if_pos (Or.inr hc), if_pos hc, nwF_0]
      exact ⟨Or.inl rfl, ⟨fun z => absurd z (by decide), fun z => absurd z (by decide)⟩⟩
    · rw [if_neg (by rintro (z | z); exact absurd z (by decide); exact hc z), if_neg hc]
      exact ih (j + 1) (by omega)
theorem ra_L {QF : Option Value → mF → Prop} {cc a0 : Nat} {x1 x2 x3 : Int32} (hc : cc < 24) (h30 : F.s 30 = nI cc) (ha : a0 ≤ 10) (e18 : F.a 18 cc = nI a0) : ∀ m j a l6, j + m = a0 → (∀ l6, Y w mX11_readArc d QF o 191 [some (.ref o), some (.int x1), some (.int x2), some (.int x3), some (.int (nwF F cc x2 x3 m j a)), some (.int (nI a0)), l6, none, none] [] F) → Y w mX11_readArc d QF o 121 [some (.ref o), some (.int x1), some (.int x2), some (.int x3), some (.int a), some (.int (nI j)), l6, none, none] [] F := by
  intro m
  induction m with
  | zero =>
    intro j a l6 hj K
    have : j = a0 := by omega
    subst this
    refine yX11_readArc_121 (yX11_readArc_123 (yX11_readArc_124 (yX11_readArc_127 (yX11_readArc_128 (yX11_readArc_131 (ble rfl) rfl (i := cc) h30 hc ?_)))))
    rw [e18]
    refine yX11_readArc_132 (fun _ => K l6) (fun h9 => absurd (nI_le (by omega) (by omega)) h9)
  | succ m ih =>
    intro j a l6 hj K
    refine yX11_readArc_121 (yX11_readArc_123 (yX11_readArc_124 (yX11_readArc_127 (yX11_readArc_128 (yX11_readArc_131 (ble rfl) rfl (i := cc) h30 hc ?_)))))
    rw [e18]
    refine yX11_readArc_132 (fun h9 => absurd h9 (nI_ge (by omega) (by omega))) (fun _ => ?_)
    refine yX11_readArc_135 (yX11_readArc_136 (yX11_readArc_138 (yX11_readArc_139 (yX11_readArc_142 (yX11_readArc_143 (yX11_readArc_145 (yX11_readArc_146 ?_)))))))
    rw [show (5 : Int32) * (10 * F.s 30 + nI j) = nI (5 * (10 * cc + j)) by rw [h30, show (10 : Int32) * nI cc + nI j = nI (10 * cc + j) from ixm 10 cc j]; exact pk_mul 5 _]
    have G : ∀ b : Int32, b = (if a = 0 ∨ (F.a 19 (5 * (10 * cc + j)) = x2 ∧ F.a 19 (5 * (10 * cc + j) + 1) = x3) then 0 else 1) → Y w mX11_readArc d QF o 183 [some (.ref o), some (.int x1), some (.int x2), some (.int x3), some (.int a), some (.int (nI j)), some (.int (nI (5 * (10 * cc + j)))), none, none] [.int b] F := by
      intro b hb
      refine yX11_readArc_183 rfl (yX11_readArc_185 rfl (yX11_readArc_188 ?_))
      rw [nI_1, hb]
      exact ih (j + 1) _ _ (by omega) K
    refine yX11_readArc_147 rfl (yX11_readArc_149 (yX11_readArc_151 (fun h9 => ?_) (fun h9 => ?_)))
    · refine yX11_readArc_182 ?_
      exact G 0 (by rw [if_pos (Or.inl h9)])
    · refine yX11_readArc_154 (yX11_readArc_155 (yX11_readArc_158 (yX11_readArc_160 (ble rfl) rfl (i := 5 * (10 * cc + j)) rfl (by omega) (yX11_readArc_161 (yX11_readArc_162 (fun h8 => ?_) (fun h8 => ?_))))))
      · refine yX11_readArc_178 (yX11_readArc_179 ?_)
        exact G 1 (by rw [if_neg]; rintro (z | z); exact h9 z; exact h8 z.1)
      · refine yX11_readArc_165 (yX11_readArc_166 (yX11_readArc_169 (yX11_readArc_171 (yX11_readArc_172 (yX11_readArc_173 (ble rfl) rfl (i := 5 * (10 * cc + j) + 1) (nI_1 _) (by omega) (yX11_readArc_174 (yX11_readArc_175 (fun h7 => ?_) (fun h7 => ?_))))))))
        · refine yX11_readArc_182 ?_
          exact G 0 (by rw [if_pos (Or.inr ⟨h8, h7⟩)])
        · refine yX11_readArc_178 (yX11_readArc_179 ?_)
          exact G 1 (by rw [if_neg]; rintro (z | z); exact h9 z; exact h7 z.2)
theorem ra_D6 {p tc : Nat} {tn : Nat → Int64} {x1 x2 x3 x4 x5 x6 x7 x8 : Int32} (h : mCd F T n u k tc tn p) : Y w mX11_readArc (d + 4) (qC F T n u k tc tn (.error p)) o 367 [some (.ref o), some (.int x1), some (.int x2), some (.int x3), some (.int x4), some (.int x5), some (.int x6), some (.int x7), some (.int x8)] [] F := by
  refine yX11_readArc_367 (yX11_readArc_368 (ble rfl) (g_d h.1.2.2.2.1) (yX11_readArc_371 (yX11_readArc_372 (yX11_readArc_375 (fun _ => ?_) (fun h9 => absurd h.1.2.2.2.1 h9)))))
  refine yX11_readArc_454 ⟨rfl, h, cK.rf⟩
theorem ra_D5 {p tc : Nat} {tn : Nat → Int64} {x1 x2 x3 x4 x5 x6 x7 : Int32} (h : mCd F T n u k tc tn p) : Y w mX11_readArc (d + 4) (qC F T n u k tc tn (.error p)) o 326 [some (.ref o), some (.int x1), some (.int x2), some (.int x3), some (.int x4), some (.int x5), some (.int x6), some (.int x7), none] [] F := by
  obtain ⟨hu, hk, s29, s30, ⟨i0, hi0, ei⟩, ⟨o0, ho0, eo⟩, a0, ha0, ea⟩ := h.2.1
  refine yX11_readArc_326 (yX11_readArc_327 (ble rfl) (g_d h.1.2.2.2.1) (yX11_readArc_330 (yX11_readArc_331 (yX11_readArc_332 (yX11_readArc_335 (yX11_readArc_336 ?_))))))
  rw [s29]
  refine yX11_readArc_339 (ble rfl) (m_tableOf _ hu h.2.2.2.1 h.2.2.1) (yX11_readArc_342 rfl (yX11_readArc_344 (yX11_readArc_345 (yX11_readArc_346 (yX11_readArc_349 (yX11_readArc_350 (fun h350 => ?_) (fun h350 => ?_)))))))
  · refine yX11_readArc_363 (yX11_readArc_364 (ble rfl) (n_d h.1.2.2.2.1 (by first | exact Or.inl rfl | exact Or.inr rfl)) ?_)
    exact ra_D6 h
  · refine yX11_readArc_353 (yX11_readArc_355 (yX11_readArc_356 (fun h356 => ?_) (fun h356 => ?_)))
    · refine yX11_readArc_363 (yX11_readArc_364 (ble rfl) (n_d h.1.2.2.2.1 (by first | exact Or.inl rfl | exact Or.inr rfl)) ?_)
      exact ra_D6 h
    · refine yX11_readArc_359 (yX11_readArc_360 (yX11_readArc_364 (ble rfl) (n_d h.1.2.2.2.1 (by first | exact Or.inl rfl | exact Or.inr rfl)) ?_))
      exact ra_D6 h
theorem ra_D4 {p tc : Nat} {tn : Nat → Int64} {x1 x2 x3 x4 x5 x6 : Int32} (h : mCd F T n u k tc tn p) : Y w mX11_readArc (d + 4) (qC F T n u k tc tn (.error p)) o 285 [some (.ref o), some (.int x1), some (.int x2), some (.int x3), some (.int x4), some (.int x5), some (.int x6), none, none] [] F := by
  obtain ⟨hu, hk, s29, s30, ⟨i0, hi0, ei⟩, ⟨o0, ho0, eo⟩, a0, ha0, ea⟩ := h.2.1
  refine yX11_readArc_285 (yX11_readArc_286 (ble rfl) (g_d h.1.2.2.2.1) (yX11_readArc_289 (yX11_readArc_290 (yX11_readArc_291 (yX11_readArc_294 (yX11_readArc_295 ?_))))))
  rw [s29]
  refine yX11_readArc_298 (ble rfl) (m_tableOf _ hu h.2.2.2.1 h.2.2.1) (yX11_readArc_301 rfl (yX11_readArc_303 (yX11_readArc_304 (yX11_readArc_305 (yX11_readArc_308 (yX11_readArc_309 (fun h309 => ?_) (fun h309 => ?_)))))))
  · refine yX11_readArc_322 (yX11_readArc_323 (ble rfl) (n_d h.1.2.2.2.1 (by first | exact Or.inl rfl | exact Or.inr rfl)) ?_)
    exact ra_D5 h
  · refine yX11_readArc_312 (yX11_readArc_314 (yX11_readArc_315 (fun h315 => ?_) (fun h315 => ?_)))
    · refine yX11_readArc_322 (yX11_readArc_323 (ble rfl) (n_d h.1.2.2.2.1 (by first | exact Or.inl rfl | exact Or.inr rfl)) ?_)
      exact ra_D5 h
    · refine yX11_readArc_318 (yX11_readArc_319 (yX11_readArc_323 (ble rfl) (n_d h.1.2.2.2.1 (by first | exact Or.inl rfl | exact Or.inr rfl)) ?_))
      exact ra_D5 h
theorem ra_D3 {p tc : Nat} {tn : Nat → Int64} {x1 x2 x3 x4 x5 : Int32} {l6 : Option Value} (h : mCd F T n u k tc tn p) : Y w mX11_readArc (d + 4) (qC F T n u k tc tn (.error p)) o 218 [some (.ref o), some (.int x1), some (.int x2), some (.int x3), some (.int x4), some (.int x5), l6, none, none] [] F := by
  obtain ⟨hu, hk, s29, s30, ⟨i0, hi0, ei⟩, ⟨o0, ho0, eo⟩, a0, ha0, ea⟩ := h.2.1
  obtain ⟨h1, h2, h3, h4, q, h5, h6, _⟩ := id h.1
  refine yX11_readArc_218 (yX11_readArc_219 (ble rfl) (g_d h.1.2.2.2.1) (yX11_readArc_222 (yX11_readArc_223 (yX11_readArc_225 (yX11_readArc_227 (yX11_readArc_229 (yX11_readArc_230 (yX11_readArc_231 (ble rfl) (m_is 22 (by decide) h5 h6) (yX11_readArc_234 rfl (yX11_readArc_236 (yX11_readArc_237 (yX11_readArc_239 (yX11_readArc_241 (yX11_readArc_243 (yX11_readArc_244 (yX11_readArc_245 (ble rfl) (m_is 23 (by decide) h5 h6) (yX11_readArc_248 rfl (yX11_readArc_250 (yX11_readArc_251 (yX11_readArc_253 (fun h253 => ?_) (fun h253 => ?_)))))))))))))))))))))
  · refine yX11_readArc_277 (yX11_readArc_278 (yX11_readArc_282 (ble rfl) (n_d h.1.2.2.2.1 (by first | exact Or.inl rfl | exact Or.inr rfl)) ?_))
    exact ra_D4 h
  · refine yX11_readArc_256 (yX11_readArc_258 (fun h258 => ?_) (fun h258 => ?_))
    · refine yX11_readArc_277 (yX11_readArc_278 (yX11_readArc_282 (ble rfl) (n_d h.1.2.2.2.1 (by first | exact Or.inl rfl | exact Or.inr rfl)) ?_))
      exact ra_D4 h
    · refine yX11_readArc_261 (yX11_readArc_262 (yX11_readArc_264 (yX11_readArc_266 (yX11_readArc_268 (yX11_readArc_270 (yX11_readArc_271 (ble rfl) (m_is 24 (by decide) h5 h6) (yX11_readArc_274 (fun h274 => ?_) (fun h274 => ?_))))))))
      · refine yX11_readArc_281 (yX11_readArc_282 (ble rfl) (n_d h.1.2.2.2.1 (by first | exact Or.inl rfl | exact Or.inr rfl)) ?_)
        exact ra_D4 h
      · refine yX11_readArc_277 (yX11_readArc_278 (yX11_readArc_282 (ble rfl) (n_d h.1.2.2.2.1 (by first | exact Or.inl rfl | exact Or.inr rfl)) ?_))
        exact ra_D4 h
theorem ra_D2 {p tc : Nat} {tn : Nat → Int64} {x1 x2 : Int32} (h : mCd F T n u k tc tn p) : Y w mX11_readArc (d + 4) (qC F T n u k tc tn (.error p)) o 91 [some (.ref o), some (.int x1), some (.int x2), none, none, none, none, none, none] [] F := by
  obtain ⟨hu, hk, s29, s30, ⟨i0, hi0, ei⟩, ⟨o0, ho0, eo⟩, a0, ha0, ea⟩ := h.2.1
  refine yX11_readArc_91 (yX11_readArc_92 (ble rfl) (g_d h.1.2.2.2.1) (yX11_readArc_95 (yX11_readArc_96 (yX11_readArc_97 (yX11_readArc_100 (yX11_readArc_102 (yX11_readArc_103 (yX11_readArc_106 (yX11_readArc_107 (yX11_readArc_110 (ble rfl) rfl (i := 12 * u + k) s30 (by omega) ?_))))))))))
  rw [eo]
  refine yX11_readArc_111 (ble rfl) (m_pinOf _ (fr := 6) (by omega) (by omega) s30) (yX11_readArc_114 rfl (yX11_readArc_115 (yX11_readArc_116 rfl (yX11_readArc_118 (yX11_readArc_119 rfl ?_)))))
  refine ra_L (by omega) s30 ha0 ea a0 0 1 none (by omega) (fun l6 => ?_)
  refine yX11_readArc_191 (yX11_readArc_192 (yX11_readArc_193 (yX11_readArc_196 (yX11_readArc_197 (fun h197 => ?_) (fun h197 => ?_)))))
  · refine yX11_readArc_214 (yX11_readArc_215 (ble rfl) (n_d h.1.2.2.2.1 (by first | exact Or.inl rfl | exact Or.inr rfl)) ?_)
    exact ra_D3 h
  · refine yX11_readArc_200 (yX11_readArc_201 (yX11_readArc_202 (fun h202 => ?_) (fun h202 => ?_)))
    · refine yX11_readArc_214 (yX11_readArc_215 (ble rfl) (n_d h.1.2.2.2.1 (by first | exact Or.inl rfl | exact Or.inr rfl)) ?_)
      exact ra_D3 h
    · refine yX11_readArc_205 (yX11_readArc_207 (fun h207 => ?_) (fun h207 => ?_))
      · refine yX11_readArc_214 (yX11_readArc_215 (ble rfl) (n_d h.1.2.2.2.1 (by first | exact Or.inl rfl | exact Or.inr rfl)) ?_)
        exact ra_D3 h
      · refine yX11_readArc_210 (yX11_readArc_211 (yX11_readArc_215 (ble rfl) (n_d h.1.2.2.2.1 (by first | exact Or.inl rfl | exact Or.inr rfl)) ?_))
        exact ra_D3 h
theorem ra_D1 {p tc : Nat} {tn : Nat → Int64} (h : mCd F T n u k tc tn p) : Y w mX11_readArc (d + 4) (qC F T n u k tc tn (.error p)) o 23 [some (.ref o), none, none, none, none, none, none, none, none] [] F := by
  obtain ⟨hu, hk, s29, s30, ⟨i0, hi0, ei⟩, ⟨o0, ho0, eo⟩, a0, ha0, ea⟩ := h.2.1
  refine yX11_readArc_23 (yX11_readArc_24 (ble rfl) (g_d h.1.2.2.2.1) (yX11_readArc_27 (yX11_readArc_28 (yX11_readArc_30 (yX11_readArc_31 (yX11_readArc_34 (yX11_readArc_35 (yX11_readArc_36 (yX11_readArc_39 (yX11_readArc_40 (yX11_readArc_43 (ble rfl) rfl (i := 12 * u + k) s30 (by omega) (yX11_readArc_44 (yX11_readArc_46 (by decide) (yX11_readArc_47 (yX11_readArc_48 (yX11_readArc_49 rfl (yX11_readArc_50 (yX11_readArc_51 (yX11_readArc_52 (yX11_readArc_55 (yX11_readArc_56 (yX11_readArc_57 (yX11_readArc_60 (yX11_readArc_61 (yX11_readArc_64 (ble rfl) rfl (i := 12 * u + k) s30 (by omega) ?_)))))))))))))))))))))))))
  rw [ei]
  refine yX11_readArc_65 (ble rfl) (m_pinOf _ (fr := 0) (by omega) (by omega) s30) (yX11_readArc_68 rfl (yX11_readArc_69 (yX11_readArc_70 (yX11_readArc_71 (yX11_readArc_74 (yX11_readArc_75 (fun h75 => ?_) (fun h75 => ?_)))))))
  · refine yX11_readArc_87 (yX11_readArc_88 (ble rfl) (n_d h.1.2.2.2.1 (by first | exact Or.inl rfl | exact Or.inr rfl)) ?_)
    exact ra_D2 h
  · refine yX11_readArc_78 (yX11_readArc_79 (yX11_readArc_80 (fun h80 => ?_) (fun h80 => ?_)))
    · refine yX11_readArc_87 (yX11_readArc_88 (ble rfl) (n_d h.1.2.2.2.1 (by first | exact Or.inl rfl | exact Or.inr rfl)) ?_)
      exact ra_D2 h
    · refine yX11_readArc_83 (yX11_readArc_84 (yX11_readArc_88 (ble rfl) (n_d h.1.2.2.2.1 (by first | exact Or.inl rfl | exact Or.inr rfl)) ?_))
      exact ra_D2 h
theorem ra_d {p tc : Nat} {tn : Nat → Int64} (h : mCd F T n u k tc tn p) : yC w (d + 4) mX11_readArc [.ref o] o F (qC F T n u k tc tn (.error p)) := by
  obtain ⟨hu, hk, s29, s30, ⟨i0, hi0, ei⟩, ⟨o0, ho0, eo⟩, a0, ha0, ea⟩ := h.2.1
  refine yC_of (by decide) (ble rfl) (ls := [some (.ref o), none, none, none, none, none, none, none, none]) rfl ?_
  refine yX11_readArc_0 (yX11_readArc_1 (yX11_readArc_2 (yX11_readArc_5 (yX11_readArc_6 (yX11_readArc_9 (ble rfl) rfl (i := 12 * u + k) s30 (by omega) (yX11_readArc_10 (yX11_readArc_12 (fun h12 => ?_) (fun h12 => ?_))))))))
  · refine yX11_readArc_19 (yX11_readArc_20 (ble rfl) (n_d h.1.2.2.2.1 (by first | exact Or.inl rfl | exact Or.inr rfl)) ?_)
    exact ra_D1 h
  · refine yX11_readArc_15 (yX11_readArc_16 (yX11_readArc_20 (ble rfl) (n_d h.1.2.2.2.1 (by first | exact Or.inl rfl | exact Or.inr rfl)) ?_))
    exact ra_D1 h
end M6
