section M12
variable {w : xWd} {d o : Nat} {F F0 : mF} {T : Nat → Int32} {n : Nat}
variable {q tc cc : Nat} {c : ceT}
theorem low_t {t t' : tSt} {M : Int64} {wl : List Int32} {vl : List Int64} (h : low t M t.1 wl vl) (h1 : t'.1 = t.1) (he : ∀ i, i < t.1 → t.2.1 i = t'.2.1 i ∧ t.2.2.1 i = t'.2.2.1 i ∧ t.2.2.2.1 i = t'.2.2.2.1 i ∧ t.2.2.2.2 i = t'.2.2.2.2 i) : low t' M t'.1 wl vl := by
  rw [h1]; exact low_cg _ _ _ he h
theorem ul_lt {f : Nat → Int64} {k j : Nat} {x : Int64} (h : j < k) : f j = uL f k x j := (ul_n (by omega)).symm
/-- an operator of rank r has come -/
theorem op_step {M : Int64} {t t' : tSt} {A1 R : List Int32} {V1 VR : List Int64} {least ch : Int32} {b y : Int64} {F : mF} (ha : al F T n q) (hlen : A1.length = V1.length) (hs : stk F (A1 ++ R) (y :: (V1 ++ VR))) (hl : (A1 ++ R).length ≤ q) (hk : sK T n q = 3) (hc1 : ∀ c ∈ A1, cnd least c) (hc2 : ∀ c l, R = c :: l → ¬ cnd least c) (h0 : ¬ least ≤ 0) (hch : T (sS T n q) = ch) (hrk : rk ch = least) {QF : Option Value → mF → Prop} {x1 : Int32}
    (K : ∀ F', al F' T n (sE T n q) → eK F F' → stk F' (ch :: R) (fS A1 V1 y :: VR) → Y w mX11_expression (d + 5) QF o 16 [some (.ref o), some (.int x1), some (.int 1), some (.int 0)] [] F') :
    Y w mX11_expression (d + 5) QF o 16 [some (.ref o), some (.int x1), some (.int 0), some (.int 0)] [] F := by
  have hq := ha.2.2.2.2.1
  have ht := ha.2.2.2.2.2
  have h14 := ha.2.2.1
  have hlt : sS T n q < n := by rcases kcase T hq with h | h | h | h | h <;> omega
  have hq' := sS_le T hq
  refine yX11_expression_16 (yX11_expression_17 (yX11_expression_20 (fun h9 => absurd (ha.2.2.2.1.symm.trans h9) (by decide)) (fun _ => ?_)))
  refine yX11_expression_23 (yX11_expression_24 (fun h9 => absurd rfl h9) (fun _ => ?_))
  refine yX11_expression_27 (yX11_expression_28 (fun _ => ?_) (fun h9 => absurd rfl h9))
  refine yX11_expression_80 (yX11_expression_81 ?_)
  rw [ht.2.2.1, hk]
  refine yX11_expression_84 (yX11_expression_85 (fun h9 => absurd rfl h9) (fun _ => ?_))
  refine yX11_expression_88 (yX11_expression_89 (yX11_expression_92 (yX11_expression_93 (yX11_expression_96 (ble rfl) rfl (i := sS T n q) ht.1 (by omega) ?_))))
  rw [ha.1, hch]
  refine yX11_expression_97 (ble rfl) (m_rank _) ?_
  rw [hrk]
  refine yX11_expression_100 (fun h9 => absurd h9 h0) (fun _ => ?_)
  refine yX11_expression_103 (yX11_expression_104 (yX11_expression_105 (yX11_expression_108 (yX11_expression_109 (yX11_expression_112 (ble rfl) rfl (i := sS T n q) ht.1 (by omega) ?_)))))
  rw [ha.1, hch]
  refine yX11_expression_113 (ble rfl) (m_rank _) ?_
  rw [hrk]
  refine yX11_expression_116_g (ble rfl) (m_settleC hlen hs hc1 hc2) (fun v F1 hF => ?_)
  obtain ⟨rfl, s1, k1⟩ := hF
  have a1 := ha.xK k1
  have hlr : R.length ≤ q := by rw [List.length_append] at hl; omega
  refine yX11_expression_119 (yX11_expression_120 (yX11_expression_121 (yX11_expression_124 (yX11_expression_125 (yX11_expression_128 (ble rfl) rfl (i := sS T n q) a1.2.2.2.2.2.1 (by omega) ?_)))))
  rw [a1.1, hch]
  refine yX11_expression_129_g (ble rfl) (m_push ch a1 s1 (by omega)) (fun v F2 hF => ?_)
  obtain ⟨rfl, a2, s2, k2⟩ := hF
  refine yX11_expression_132 (yX11_expression_133 rfl (yX11_expression_134 ?_))
  exact K F2 a2 (k1.eK.tr k2) s2
theorem ex_L (h30 : F0.s 30 = nI cc) (hcc : cc < 24) (r : celR F0 cc c) (hw : wC tc c) : ∀ N,
    (∀ F t q f m, n - q < N → al F T n q → eK F0 F → t.1 ≤ 16 → stA F t (allM c.i) q → n - q ≤ f → n - q ≤ m → Y w mX11_expression (d + 5) (qX F0 T n (allM c.i) (SA (tkOf T n) c f m t q)) o 16 [some (.ref o), some (.int (nI t.1)), some (.int 1), some (.int 0)] [] F) ∧
    (∀ F t q f m, n - q < N → al F T n q → eK F0 F → t.1 ≤ 16 → stB F t (allM c.i) q → n - q ≤ f → n - q ≤ m → Y w mX11_expression (d + 5) (qX F0 T n (allM c.i) (SB (tkOf T n) c f m t q)) o 16 [some (.ref o), some (.int (nI t.1)), some (.int 0), some (.int 0)] [] F) := by
  intro N
  induction N with
  | zero => exact ⟨fun F t q f m h => by omega, fun F t q f m h => by omega⟩
  | succ N ih =>
    obtain ⟨ihA, ihB⟩ := ih
    refine ⟨fun F t q f m hN ha kF ho hst hf hm => ?_, fun F t q f m hN ha kF ho hst hf hm => ?_⟩
    · have hq := ha.2.2.2.2.1
      have ht := ha.2.2.2.2.2
      have h14 := ha.2.2.1
      have e30 : F.s 30 = nI cc := by rw [kF.1 30 (by omega) (by omega) (by omega) (by omega) (by omega) (by omega) (by omega)]; exact h30
      have rF := r.eK kF
      obtain ⟨b, wl, vl, A, X, O, VA, VX, VO, s1, p1, p2, l1, l2⟩ := hst
      have hvl : (VA ++ (VX ++ (VO ++ vl))).length ≤ 51 := by
        have := low_len _ _ _ l1
        have q1 := p1.1.len
        have q2 := p1.2.1.len
        have q3 := p1.2.2.len
        simp only [List.length_append]
        omega
      refine yX11_expression_16 (yX11_expression_17 (yX11_expression_20 (fun h9 => absurd (ha.2.2.2.1.symm.trans h9) (by decide)) (fun _ => ?_)))
      refine yX11_expression_23 (yX11_expression_24 (fun h9 => absurd rfl h9) (fun _ => ?_))
      refine yX11_expression_27 (yX11_expression_28 (fun h9 => absurd h9 (by decide)) (fun _ => ?_))
      refine yX11_expression_31 (yX11_expression_32 (yX11_expression_33 (yX11_expression_35 (ble rfl) (m_isSign 40 ha.1 h14 hq ht) ?_)))
      by_cases h11 : sW T n q 11 = 0
      · have hg : sgn T n q 40 = 0 := (sgn_W (T := T) hq sg11).trans h11
        rw [hg]
        refine yX11_expression_38 (fun _ => ?_) (fun h9 => absurd rfl h9)
        refine yX11_expression_45 (yX11_expression_46 ?_)
        rw [show nI t.1 + 0 = nI t.1 from nI_add t.1 0]
        refine yX11_expression_47 rfl (yX11_expression_48 (yX11_expression_49 (yX11_expression_50 (yX11_expression_51 (yX11_expression_53 (ble rfl) (m_isSign 40 ha.1 h14 hq ht) ?_)))))
        rw [hg]
        refine yX11_expression_56 (fun _ => ?_) (fun h9 => absurd rfl h9)
        refine yX11_expression_63 (yX11_expression_64 ?_)
        rw [show nI t.1 - 0 = nI t.1 from pk_sub (b := 0) (Nat.zero_le _)]
        by_cases h10 : sW T n q 10 = 0
        · rw [SA_prim (K := tkOf T n) h10 h11]
          refine yX11_expression_65_g (ble rfl) (op_prim hcc e30 rF hw ha s1 (by omega) (fun c' l e z => by rcases pend_hd p1 (low_hd _ _ _ l1) c' l e with h | h | h | h <;> (rw [z] at h; exact absurd h (by decide))) h10 h11) (fun v F1 hF => ?_)
          obtain ⟨k1, y1, y2⟩ := hF
          match hp : rPrim (tkOf T n) c q with
          | .error p =>
            obtain ⟨rfl, d1⟩ := y2 p hp
            refine yX11_expression_68 (fun h9 => absurd rfl h9) (fun _ => ?_)
            refine yX11_expression_71 (yX11_expression_72 (yX11_expression_76 rfl (yX11_expression_77 ?_)))
            exact ex_D d1.2.2.2.1 ⟨kF.tr k1, ⟨_, rfl⟩, d1⟩
          | .ok y =>
            obtain ⟨rfl, a1, s2⟩ := y1 y hp
            have hy : y.2 = sE T n q := by
              unfold rPrim at hp
              split at hp
              · obtain ⟨_, e⟩ := dmd_ok hp; cases e; rfl
              · obtain ⟨_, e⟩ := dmd_ok hp; cases e; rfl
            have hk0 : ¬ sK T n q = 0 := by
              intro z
              unfold rPrim at hp
              rw [if_neg (show ¬ (tkOf T n).K q = 1 from fun y => by have : sK T n q = 1 := y; omega)] at hp
              rcases (dmd_ok hp).1 with g | g
              · have := ((dig13 hq).mp g).1; omega
              · have := ((dig12 hq).mp g).1; omega
            have hgt := sE_gt (T := T) hq hk0
            have hle := (sE_le T hq).2
            refine yX11_expression_68 (fun _ => ?_) (fun h9 => absurd h9 (by decide))
            refine yX11_expression_75 (yX11_expression_76 rfl (yX11_expression_77 ?_))
            show Y w mX11_expression (d + 5) (qX F0 T n (allM c.i) (SB (tkOf T n) c 1400 m (tPut t y.1) y.2)) o 16 _ _ _
            rw [hy] at a1 ⊢
            refine ihB F1 (tPut t y.1) (sE T n q) 1400 m (by omega) a1 (kF.tr k1) ho ⟨t.2.2.2.1 t.1, y.1 ^^^ t.2.2.2.2 t.1, wl, vl, A, X, O, VA, VX, VO, ?_, p1, ul_s, ul_s, ?_, ?_⟩ (by omega) (by omega)
            · rw [nots_p _ b y.1 _ p2] at s2
              exact s2
            · exact low_t l1 rfl (fun i hi => ⟨rfl, rfl, ul_lt hi, ul_lt hi⟩)
            · rw [List.length_append] at l2; omega
        · have hk0 : ¬ sK T n q = 0 := by
            have := ((sign_iff T hq sg10.1 sg10.2.1 sg10.2.2).mp h10).1; omega
          have hgt := sE_gt (T := T) hq hk0
          have hle := (sE_le T hq).2
          obtain ⟨g, rfl⟩ : ∃ g, f = g + 1 := ⟨f - 1, by omega⟩
          rw [SA_bang (K := tkOf T n) h10]
          refine yX11_expression_65_g (ble rfl) (op_bang ha s1 (by omega) h10) (fun v F1 hF => ?_)
          obtain ⟨rfl, a1, s2, k1⟩ := hF
          refine yX11_expression_68 (fun h9 => absurd rfl h9) (fun _ => ?_)
          refine yX11_expression_71 (yX11_expression_72 (yX11_expression_76 rfl (yX11_expression_77 ?_)))
          refine ihA F1 (tTurn t) (sE T n q) g m (by omega) a1 (kF.tr k1) ho ⟨b + 1, wl, vl, A, X, O, VA, VX, VO, ?_, p1, ?_, ?_, ?_⟩ (by omega) (by omega)
          · rw [List.replicate_succ]; exact s2
          · show par (b + 1) (uL t.2.2.2.2 t.1 (t.2.2.2.2 t.1 ^^^ -1) t.1)
            rw [ul_s]; exact par_s p2
          · exact low_t l1 rfl (fun i hi => ⟨rfl, rfl, rfl, ul_lt hi⟩)
          · simp only [List.length_append, List.length_replicate] at l2 ⊢; omega
      · have hg : sgn T n q 40 = 1 := (sgn_iff (T := T) hq sg11).mpr h11
        have h10 : sW T n q 10 = 0 := sW_x hq sg11 sg10 (by decide) h11
        have hk0 : ¬ sK T n q = 0 := by
          have := ((sign_iff T hq sg11.1 sg11.2.1 sg11.2.2).mp h11).1; omega
        have hgt := sE_gt (T := T) hq hk0
        have hle := (sE_le T hq).2
        obtain ⟨g, rfl⟩ : ∃ g, f = g + 1 := ⟨f - 1, by omega⟩
        rw [hg]
        refine yX11_expression_38 (fun h9 => absurd h9 (by decide)) (fun _ => ?_)
        refine yX11_expression_41 (yX11_expression_42 (yX11_expression_46 ?_))
        rw [nI_1]
        refine yX11_expression_47 rfl (yX11_expression_48 (yX11_expression_49 (yX11_expression_50 (yX11_expression_51 (yX11_expression_53 (ble rfl) (m_isSign 40 ha.1 h14 hq ht) ?_)))))
        rw [hg]
        refine yX11_expression_56 (fun h9 => absurd h9 (by decide)) (fun _ => ?_)
        refine yX11_expression_59 (yX11_expression_60 (yX11_expression_64 ?_))
        rw [nI_pred]
        refine yX11_expression_65_g (ble rfl) (op_par ho ha s1 (by omega) h10 h11) (fun v F1 hF => ?_)
        obtain ⟨rfl, k1, y1, y2⟩ := hF
        refine yX11_expression_68 (fun h9 => absurd rfl h9) (fun _ => ?_)
        refine yX11_expression_71 (yX11_expression_72 (yX11_expression_76 rfl (yX11_expression_77 ?_)))
        by_cases h16 : t.1 < 16
        · obtain ⟨a1, s2⟩ := y1 h16
          rw [SA_par (K := tkOf T n) h10 h11 h16]
          refine ihA F1 (tOpen t) (sE T n q) g m (by omega) a1 (kF.tr k1) (by show t.1 + 1 ≤ 16; omega) ⟨0, _, _, [], [], [], [], [], [], s2, ⟨Or.inl ⟨rfl, rfl, ul_s⟩, Or.inl ⟨rfl, rfl, ul_s⟩, Or.inl ⟨rfl, rfl, ul_s⟩⟩, ul_s, ?_, ?_⟩ (by omega) (by omega)
          · show low (tOpen t) (allM c.i) (t.1 + 1) _ _
            refine ⟨b, wl, vl, A, X, O, VA, VX, VO, rfl, rfl, ?_, ?_, ?_⟩
            · show pend _ (uL t.2.1 (t.1 + 1) 0 t.1) (uL t.2.2.1 (t.1 + 1) 0 t.1) (uL t.2.2.2.1 (t.1 + 1) (-1) t.1) _ _ _ _ _ _
              rw [ul_n (by omega), ul_n (by omega), ul_n (by omega)]; exact p1
            · show par b (uL t.2.2.2.2 (t.1 + 1) 0 t.1)
              rw [ul_n (by omega)]; exact p2
            · exact low_cg _ _ _ (fun i hi => ⟨ul_lt (by omega), ul_lt (by omega), ul_lt (by omega), ul_lt (by omega)⟩) l1
          · show (List.replicate b (33 : Int32) ++ (A ++ (X ++ (O ++ wl)))).length + 1 ≤ _; omega
        · have d1 := y2 h16
          rw [SA_par_e (K := tkOf T n) h10 h11 h16]
          exact ex_D d1.2.2.2.1 ⟨kF.tr k1, ⟨_, rfl⟩, d1⟩
    · have hq := ha.2.2.2.2.1
      have ht := ha.2.2.2.2.2
      have h14 := ha.2.2.1
      have hK := sK_le T hq
      have e30 : F.s 30 = nI cc := by rw [kF.1 30 (by omega) (by omega) (by omega) (by omega) (by omega) (by omega) (by omega)]; exact h30
      have rF := r.eK kF
      obtain ⟨a0, y, wl, vl, A, X, O, VA, VX, VO, s1, p1, p2, p3, l1, l2⟩ := hst
      have mA := p1.1.mem
      have mX := p1.2.1.mem
      have mO := p1.2.2.mem
      have lA := p1.1.len.1
      have lX := p1.2.1.len.1
      have lO := p1.2.2.len.1
      have hwl := low_hd _ _ _ l1
      by_cases h15 : sW T n q 15 = 0
      · by_cases h16 : sW T n q 16 = 0
        · by_cases h17 : sW T n q 17 = 0
          · -- no operator
            have hrk : sK T n q = 3 → rk (T (sS T n q)) = 0 := by
              intro hk
              unfold rk
              rw [if_neg (show ¬ T (sS T n q) = 124 from fun z => (sign_iff T hq sg15.1 sg15.2.1 sg15.2.2).mpr ⟨hk, z⟩ h15), if_neg (show ¬ T (sS T n q) = 94 from fun z => (sign_iff T hq sg16.1 sg16.2.1 sg16.2.2).mpr ⟨hk, z⟩ h16), if_neg (show ¬ T (sS T n q) = 38 from fun z => (sign_iff T hq sg17.1 sg17.2.1 sg17.2.2).mpr ⟨hk, z⟩ h17)]
            have G : Y w mX11_expression (d + 5) (qX F0 T n (allM c.i) (SB (tkOf T n) c f m t q)) o 137 [some (.ref o), some (.int (nI t.1)), some (.int 0), some (.int 0)] [] F := by
              refine yX11_expression_137 (yX11_expression_138 (fun h9 => ?_) (fun h9 => ?_))
              · have h0 : t.1 = 0 := by
                  rcases Nat.eq_zero_or_pos t.1 with z | z
                  · exact z
                  · exact absurd h9 (nI_nle z (by omega))
                rw [SB_end (K := tkOf T n) (fun z => by omega) h15 h16 h17]
                refine yX11_expression_187 (yX11_expression_188 rfl (yX11_expression_189 ?_))
                refine yX11_expression_16 (yX11_expression_17 (yX11_expression_20 (fun h9 => absurd (ha.2.2.2.1.symm.trans h9) (by decide)) (fun _ => ?_)))
                refine yX11_expression_23 (yX11_expression_24 (fun _ => ?_) (fun h9 => absurd h9 (by decide)))
                refine yX11_expression_192 (yX11_expression_193 (yX11_expression_196 (fun h9 => absurd (ha.2.2.2.1.symm.trans h9) (by decide)) (fun _ => ?_)))
                have hlow : wl = [] ∧ vl = [] := by rw [h0] at l1; exact l1
                obtain ⟨rfl, rfl⟩ := hlow
                rw [List.append_nil, List.append_nil] at s1
                have s1' : stk F ((A ++ (X ++ O)) ++ []) ((y &&& allM c.i) :: ((VA ++ (VX ++ VO)) ++ [])) := by rw [List.append_nil, List.append_nil]; exact s1
                refine yX11_expression_199 (yX11_expression_200 (yX11_expression_201_g (ble rfl) (m_settleC (least := 0) (by simp only [List.length_append]; omega) s1' (fun c' hc' => ?_) (fun c' l e => by cases e)) (fun v F1 hF => ?_)))
                · unfold cnd
                  rw [if_pos rfl]
                  intro z
                  rw [List.mem_append, List.mem_append] at hc'
                  rcases hc' with g | g | g
                  · rw [mA _ g] at z; exact absurd z (by decide)
                  · rw [mX _ g] at z; exact absurd z (by decide)
                  · rw [mO _ g] at z; exact absurd z (by decide)
                obtain ⟨rfl, s2, k2⟩ := hF
                have a1 := ha.xK k2
                have ev : fS (A ++ (X ++ O)) (VA ++ (VX ++ VO)) (y &&& allM c.i) = tTot t &&& allM c.i := by
                  rw [fS_app _ _ _ _ _ lA, fS_A p1.1, fS_app _ _ _ _ _ lX, fS_X p1.2.1, fS_O p1.2.2]
                  unfold tTot
                  rw [p2]
                rw [ev] at s2
                have e0 : F1.l 22 0 = tTot t &&& allM c.i := s2.2.2.2.1.1
                refine yX11_expression_204 (yX11_expression_205 (yX11_expression_208 (fun h9 => absurd (a1.2.2.2.1.symm.trans h9) (by decide)) (fun _ => ?_)))
                refine yX11_expression_211 (yX11_expression_212 (yX11_expression_215 (yX11_expression_216 (ble rfl) rfl (i := 0) rfl (by omega) (yX11_expression_217 (yX11_expression_221 ⟨kF.tr k2.eK, ?_⟩)))))
                show if t.1 = 0 then _ else _
                rw [if_pos h0, e0]
                exact ⟨rfl, a1⟩
              · have h0 : 0 < t.1 := by
                  rcases Nat.eq_zero_or_pos t.1 with z | z
                  · rw [z] at h9; exact absurd (show nI 0 ≤ 0 by decide) h9
                  · exact z
                refine yX11_expression_141 (yX11_expression_142 (yX11_expression_143 (yX11_expression_145 (ble rfl) (m_isSign 41 ha.1 h14 hq ht) ?_)))
                by_cases h41 : sW T n q 14 = 0
                · rw [show sgn T n q 41 = 0 from (sgn_W (T := T) hq sg14).trans h41]
                  rw [SB_end (K := tkOf T n) (fun z => z.2 h41) h15 h16 h17]
                  refine yX11_expression_148 (ble rfl) n_0 (yX11_expression_151 (yX11_expression_152 (yX11_expression_155 (fun _ => ?_) (fun h9 => absurd rfl h9))))
                  refine ex_D rfl ⟨kF.tr die_kT.eK, ?_⟩
                  show if t.1 = 0 then _ else _
                  rw [if_neg (by omega)]
                  exact ⟨⟨_, rfl⟩, ha.die⟩
                · rw [show sgn T n q 41 = 1 from (sgn_iff (T := T) hq sg14).mpr h41]
                  have hk0 : ¬ sK T n q = 0 := by
                    have := ((sign_iff T hq sg14.1 sg14.2.1 sg14.2.2).mp h41).1; omega
                  have hgt := sE_gt (T := T) hq hk0
                  have hle := (sE_le T hq).2
                  obtain ⟨g, rfl⟩ : ∃ g, f = g + 1 := ⟨f - 1, by omega⟩
                  rw [SB_close (K := tkOf T n) h0 h41]
                  obtain ⟨j, hj⟩ : ∃ j, t.1 = j + 1 := ⟨t.1 - 1, by omega⟩
                  have l1' : low t (allM c.i) (j + 1) wl vl := by rw [← hj]; exact l1
                  obtain ⟨b, wl', vl', A', X', O', VA', VX', VO', rfl, rfl, p1', p2', l1''⟩ := l1'
                  have s1' : stk F ((A ++ (X ++ O)) ++ (40 :: (List.replicate b 33 ++ (A' ++ (X' ++ (O' ++ wl')))))) ((y &&& allM c.i) :: ((VA ++ (VX ++ VO)) ++ (VA' ++ (VX' ++ (VO' ++ vl'))))) := by
                    simp only [List.append_assoc] at s1 ⊢; exact s1
                  refine yX11_expression_148 (ble rfl) (n_1 ha.2.2.2.1) (yX11_expression_151 (yX11_expression_152 (yX11_expression_155 (fun h9 => absurd (ha.2.2.2.1.symm.trans h9) (by decide)) (fun _ => ?_))))
                  refine yX11_expression_158 (yX11_expression_159 (yX11_expression_160_g (ble rfl) (m_settleC (least := 0) (by simp only [List.length_append]; omega) s1' (fun c' hc' => ?_) (fun c' l e => ?_)) (fun v F1 hF => ?_)))
                  · unfold cnd
                    rw [if_pos rfl]
                    intro z
                    rw [List.mem_append, List.mem_append] at hc'
                    rcases hc' with g | g | g
                    · rw [mA _ g] at z; exact absurd z (by decide)
                    · rw [mX _ g] at z; exact absurd z (by decide)
                    · rw [mO _ g] at z; exact absurd z (by decide)
                  · cases e
                    unfold cnd
                    rw [if_pos rfl]
                    exact fun z => z rfl
                  obtain ⟨rfl, s2, k2⟩ := hF
                  have a1 := ha.xK k2
                  have ev : fS (A ++ (X ++ O)) (VA ++ (VX ++ VO)) (y &&& allM c.i) = tTot t &&& allM c.i := by
                    rw [fS_app _ _ _ _ _ lA, fS_A p1.1, fS_app _ _ _ _ _ lX, fS_X p1.2.1, fS_O p1.2.2]
                    unfold tTot
                    rw [p2]
                  rw [ev] at s2
                  obtain ⟨u1, u2, u3, u4, u5, u6⟩ := s2
                  have e1 : F1.s 32 - 1 = nI (List.replicate b (33 : Int32) ++ (A' ++ (X' ++ (O' ++ wl')))).length := by rw [u1]; exact nI_pred _
                  refine yX11_expression_163 (yX11_expression_164 rfl (yX11_expression_165 (yX11_expression_168 (yX11_expression_169 ?_))))
                  rw [e1]
                  refine yX11_expression_170 (yX11_expression_173 rfl ?_)
                  rw [show nI t.1 + (-1) = nI j by rw [hj]; exact pk_m1 j]
                  have kx : xK F1 (F1.uS 32 (nI (List.replicate b (33 : Int32) ++ (A' ++ (X' ++ (O' ++ wl')))).length)) := xK.uS (Or.inl rfl)
                  have a2 := a1.xK kx
                  have u5' : (List.replicate b (33 : Int32) ++ (A' ++ (X' ++ (O' ++ wl')))).length + 1 ≤ 1400 := u5
                  have s3 : stk (F1.uS 32 (nI (List.replicate b (33 : Int32) ++ (A' ++ (X' ++ (O' ++ wl')))).length)) (List.replicate b 33 ++ (A' ++ (X' ++ (O' ++ wl')))) ((tTot t &&& allM c.i) :: (VA' ++ (VX' ++ (VO' ++ vl')))) := ⟨rfl, u2, u3.2, u4, by omega, u6⟩
                  generalize F1.uS 32 (nI (List.replicate b (33 : Int32) ++ (A' ++ (X' ++ (O' ++ wl')))).length) = F2 at kx a2 s3 ⊢
                  have k3 := kF.tr (k2.tr kx).eK
                  have f30 : F2.s 30 = nI cc := by rw [k3.1 30 (by omega) (by omega) (by omega) (by omega) (by omega) (by omega) (by omega)]; exact h30
                  have f13 : F2.a 13 cc = nI c.i := (r.eK k3).2.2.1
                  have hturn : yC w (d + 4) mX11_turn [.ref o] o F2 (fun r F' => r = none ∧ stk F' (A' ++ (X' ++ (O' ++ wl'))) (nots (allM c.i) b (tTot t &&& allM c.i) :: (VA' ++ (VX' ++ (VO' ++ vl')))) ∧ xK F2 F') :=
                    yC_of (by decide) (ble rfl) (ls := [some (.ref o)]) rfl (m_turn hw.1 hcc b _ _ _ F2 f30 f13 s3 (fun c' l e z => by rcases pend_hd p1' (low_hd _ _ _ l1'') c' l e with h | h | h | h <;> (rw [z] at h; exact absurd h (by decide))))
                  refine yX11_expression_176 (yX11_expression_177_g (ble rfl) hturn (fun v F3 hF => ?_))
                  obtain ⟨rfl, s4, k4⟩ := hF
                  have a3 := a2.xK k4
                  refine yX11_expression_180 (yX11_expression_181_g (ble rfl) (g_a a3) (fun v F4 hF => ?_))
                  obtain ⟨rfl, a4, k5⟩ := hF
                  refine yX11_expression_184 ?_
                  have hj2 : (tClose t).1 = j := by show t.1 - 1 = j; omega
                  have K := ihB F4 (tClose t) (sE T n q) g m (by omega) a4 (k3.tr (k4.eK.tr k5.eK)) (by omega) ⟨t.2.2.2.1 j, tTot t ^^^ t.2.2.2.2 j, wl', vl', A', X', O', VA', VX', VO', ?_, ?_, ?_, ?_, ?_, ?_⟩ (by omega) (by omega)
                  · rw [hj2] at K; exact K
                  · rw [nots_p _ b _ _ p2'] at s4
                    exact s4.kT k5
                  · rw [hj2]; exact p1'
                  · show uL t.2.2.2.1 (t.1 - 1) (t.2.2.2.1 (t.1 - 1) &&& (tTot t ^^^ t.2.2.2.2 (t.1 - 1))) (t.1 - 1) = _
                    rw [ul_s, show t.1 - 1 = j by omega]
                  · exact ul_s
                  · rw [hj2]
                    exact low_cg (t := t) _ _ _ (fun i hi => ⟨rfl, rfl, ul_lt (k := t.1 - 1) (by omega), ul_lt (k := t.1 - 1) (by omega)⟩) l1''
                  · simp only [List.length_append, List.length_cons, List.length_replicate] at l2 ⊢; omega
            refine yX11_expression_16 (yX11_expression_17 (yX11_expression_20 (fun h9 => absurd (ha.2.2.2.1.symm.trans h9) (by decide)) (fun _ => ?_)))
            refine yX11_expression_23 (yX11_expression_24 (fun h9 => absurd rfl h9) (fun _ => ?_))
            refine yX11_expression_27 (yX11_expression_28 (fun _ => ?_) (fun h9 => absurd rfl h9))
            refine yX11_expression_80 (yX11_expression_81 ?_)
            rw [ht.2.2.1]
            refine yX11_expression_84 (yX11_expression_85 (fun _ => G) (fun h9 => ?_))
            have h9 : sK T n q = 3 := (nI_eq (b := 3) (by omega) (by omega)).mp h9
            have hlt : sS T n q < n := by rcases kcase T hq with h | h | h | h | h <;> omega
            refine yX11_expression_88 (yX11_expression_89 (yX11_expression_92 (yX11_expression_93 (yX11_expression_96 (ble rfl) rfl (i := sS T n q) ht.1 (by omega) ?_))))
            rw [ha.1]
            refine yX11_expression_97 (ble rfl) (m_rank _) ?_
            rw [hrk h9]
            refine yX11_expression_100 (fun _ => G) (fun h8 => absurd (by decide) h8)
          · -- &
            obtain ⟨hk, hch⟩ := (sign_iff T hq sg17.1 sg17.2.1 sg17.2.2).mp h17
            have hgt := sE_gt (T := T) hq (by omega)
            have hle := (sE_le T hq).2
            obtain ⟨g, rfl⟩ : ∃ g, m = g + 1 := ⟨m - 1, by omega⟩
            rw [SB_and (K := tkOf T n) (sW_x hq sg17 sg14 (by decide) h17) h15 h16 h17, rFun_SA]
            refine op_step (M := allM c.i) (t := t) (t' := t) (b := 0) (R := X ++ (O ++ wl)) (VR := VX ++ (VO ++ vl)) (least := 3) ha lA s1 l2 hk (fun c' hc' => ?_) (fun c' l e => ?_) (by decide) hch (by decide) (fun F' a' k' s' => ?_)
            · rw [mA _ hc']; unfold cnd; decide
            · have : c' = 94 ∨ c' = 124 ∨ c' = 40 := by
                rcases p1.2.1 with ⟨rfl, _⟩ | ⟨rfl, _⟩
                · rcases p1.2.2 with ⟨rfl, _⟩ | ⟨rfl, _⟩
                  · exact Or.inr (Or.inr (hwl c' l e))
                  · cases e; exact Or.inr (Or.inl rfl)
                · cases e; exact Or.inl rfl
              rcases this with rfl | rfl | rfl <;> (unfold cnd; decide)
            · rw [fS_A p1.1, ← p2] at s'
              refine ihA F' t (sE T n q) 1400 g (by omega) a' (kF.tr k') ho ⟨0, wl, vl, [38], X, O, [t.2.2.2.1 t.1 &&& allM c.i], VX, VO, s', ⟨Or.inr ⟨rfl, rfl⟩, p1.2.1, p1.2.2⟩, p3, l1, ?_⟩ (by omega) (by omega)
              simp only [List.length_append, List.length_cons, List.length_replicate, List.length_nil] at l2 ⊢; omega
        · -- ^
          obtain ⟨hk, hch⟩ := (sign_iff T hq sg16.1 sg16.2.1 sg16.2.2).mp h16
          have hgt := sE_gt (T := T) hq (by omega)
          have hle := (sE_le T hq).2
          obtain ⟨g, rfl⟩ : ∃ g, m = g + 1 := ⟨m - 1, by omega⟩
          rw [SB_xor (K := tkOf T n) (sW_x hq sg16 sg14 (by decide) h16) h15 h16, rFun_SA]
          have s1' : stk F ((A ++ X) ++ (O ++ wl)) ((y &&& allM c.i) :: ((VA ++ VX) ++ (VO ++ vl))) := by simp only [List.append_assoc] at s1 ⊢; exact s1
          refine op_step (M := allM c.i) (t := t) (t' := t) (b := 0) (least := 2) ha (by simp only [List.length_append]; omega) s1' (by simp only [List.append_assoc] at l2 ⊢; exact l2) hk (fun c' hc' => ?_) (fun c' l e => ?_) (by decide) hch (by decide) (fun F' a' k' s' => ?_)
          · rw [List.mem_append] at hc'
            rcases hc' with g | g
            · rw [mA _ g]; unfold cnd; decide
            · rw [mX _ g]; unfold cnd; decide
          · have : c' = 124 ∨ c' = 40 := by
              rcases p1.2.2 with ⟨rfl, _⟩ | ⟨rfl, _⟩
              · exact Or.inr (hwl c' l e)
              · cases e; exact Or.inl rfl
            rcases this with rfl | rfl <;> (unfold cnd; decide)
          · rw [fS_app _ _ _ _ _ lA, fS_A p1.1, fS_X p1.2.1, ← p2] at s'
            refine ihA F' (tAnd t) (sE T n q) 1400 g (by omega) a' (kF.tr k') ho ⟨0, wl, vl, [], [94], O, [], [(t.2.2.1 t.1 ^^^ t.2.2.2.1 t.1) &&& allM c.i], VO, s', ⟨Or.inl ⟨rfl, rfl, ul_s⟩, Or.inr ⟨rfl, by rw [show (tAnd t).2.2.1 (tAnd t).1 = t.2.2.1 t.1 ^^^ t.2.2.2.1 t.1 from ul_s]⟩, p1.2.2⟩, p3, low_t l1 rfl (fun i hi => ⟨rfl, ul_lt hi, ul_lt hi, rfl⟩), ?_⟩ (by omega) (by omega)
            simp only [List.length_append, List.length_cons, List.length_replicate, List.length_nil] at l2 ⊢; omega
      · -- |
        obtain ⟨hk, hch⟩ := (sign_iff T hq sg15.1 sg15.2.1 sg15.2.2).mp h15
        have hgt := sE_gt (T := T) hq (by omega)
        have hle := (sE_le T hq).2
        obtain ⟨g, rfl⟩ : ∃ g, m = g + 1 := ⟨m - 1, by omega⟩
        rw [SB_or (K := tkOf T n) (sW_x hq sg15 sg14 (by decide) h15) h15, rFun_SA]
        have s1' : stk F ((A ++ (X ++ O)) ++ wl) ((y &&& allM c.i) :: ((VA ++ (VX ++ VO)) ++ vl)) := by simp only [List.append_assoc] at s1 ⊢; exact s1
        refine op_step (M := allM c.i) (t := t) (t' := t) (b := 0) (least := 1) ha (by simp only [List.length_append]; omega) s1' (by simp only [List.append_assoc] at l2 ⊢; exact l2) hk (fun c' hc' => ?_) (fun c' l e => ?_) (by decide) hch (by decide) (fun F' a' k' s' => ?_)
        · rw [List.mem_append, List.mem_append] at hc'
          rcases hc' with g | g | g
          · rw [mA _ g]; unfold cnd; decide
          · rw [mX _ g]; unfold cnd; decide
          · rw [mO _ g]; unfold cnd; decide
        · rw [hwl c' l e]; unfold cnd; decide
        · rw [fS_app _ _ _ _ _ lA, fS_A p1.1, fS_app _ _ _ _ _ lX, fS_X p1.2.1, fS_O p1.2.2, ← p2] at s'
          refine ihA F' (tXor t) (sE T n q) 1400 g (by omega) a' (kF.tr k') ho ⟨0, wl, vl, [], [], [124], [], [], [(t.2.1 t.1 ||| (t.2.2.1 t.1 ^^^ t.2.2.2.1 t.1)) &&& allM c.i], s', ⟨Or.inl ⟨rfl, rfl, ul_s⟩, Or.inl ⟨rfl, rfl, ul_s⟩, Or.inr ⟨rfl, by rw [show (tXor t).2.1 (tXor t).1 = t.2.1 t.1 ||| (t.2.2.1 t.1 ^^^ t.2.2.2.1 t.1) from ul_s]⟩⟩, p3, low_t l1 rfl (fun i hi => ⟨ul_lt hi, ul_lt hi, ul_lt hi, rfl⟩), ?_⟩ (by omega) (by omega)
          simp only [List.length_append, List.length_cons, List.length_replicate, List.length_nil] at l2 ⊢; omega
end M12
