section M8
variable {w : xWd} {d o : Nat} {F : mF} {T : Nat → Int32} {n : Nat}
def rk (c : Int32) : Int32 := if c = 124 then 1 else if c = 94 then 2 else if c = 38 then 3 else 0
theorem m_rank (c : Int32) : yC w d mX11_rank [.int c] o F (yR (some (.int (rk c))) F) := by
  refine yC_of (by decide) (ble rfl) (ls := [some (.int c)]) rfl ?_
  refine yX11_rank_0 (yX11_rank_1 (yX11_rank_3 (fun h3 => ?_) (fun h3 => ?_)))
  · refine yX11_rank_10 (yX11_rank_11 (yX11_rank_13 (fun h13 => ?_) (fun h13 => ?_)))
    · refine yX11_rank_20 (yX11_rank_21 (yX11_rank_23 (fun h23 => ?_) (fun h23 => ?_)))
      · refine yX11_rank_30 (yX11_rank_31 ?_)
        refine ⟨?_, rfl⟩; unfold rk; simp_all
      · refine yX11_rank_26 (yX11_rank_27 (yX11_rank_31 ?_))
        refine ⟨?_, rfl⟩; unfold rk; simp_all
    · refine yX11_rank_16 (yX11_rank_17 (yX11_rank_31 ?_))
      refine ⟨?_, rfl⟩; unfold rk; simp_all
  · refine yX11_rank_6 (yX11_rank_7 (yX11_rank_31 ?_))
    refine ⟨?_, rfl⟩; unfold rk; simp_all
/-- the states of i inputs -/
def allM (i : Nat) : Int64 := if i = 6 then -1 else (1 <<< ((nI (2 ^ i)).toInt64 &&& 63)) - 1
theorem m_all {i : Nat} (hi : i ≤ 6) : yC w d mX11_all [.int (nI i)] o F (yR (some (.long (allM i))) F) := by
  refine yC_of (by decide) (ble rfl) (ls := [some (.int (nI i))]) rfl ?_
  refine yX11_all_0 (yX11_all_1 (yX11_all_3 (fun h9 => ?_) (fun h9 => ?_)))
  · have h9 : ¬ i = 6 := fun z => h9 (by rw [z]; rfl)
    refine yX11_all_12 (yX11_all_13 (yX11_all_14 (yX11_all_15 ?_)))
    rw [sh1 ⟨i, by omega⟩]
    refine yX11_all_16 (yX11_all_17 (yX11_all_18 (yX11_all_19 ⟨by rw [allM, if_neg h9], rfl⟩)))
  · have h9 : i = 6 := (nI_eq (b := 6) (by omega) (by omega)).mp h9
    refine yX11_all_6 (yX11_all_9 (yX11_all_19 ⟨by rw [allM, if_pos h9], rfl⟩))
def sOf (k : Nat) : Nat → Nat → Int64 → Int64
  | 0, _, v => v
  | m + 1, s, v => sOf k m (s + 1) (v ||| (if (nI s >>> (nI k &&& 31)) &&& 1 = 1 then (1 : Int64) <<< ((nI s).toInt64 &&& 63) else 0))
theorem sOf_all : ∀ i : Fin 7, ∀ k : Fin 6, sOf k (2 ^ i.val) 0 0 = xN k &&& allM i := by decide +kernel
theorem m_statesOf {i k : Nat} (hi : i ≤ 6) (hk : k < 6) : yC w d mX11_statesOf [.int (nI k), .int (nI i)] o F (yR (some (.long (xN k &&& allM i))) F) := by
  have p2 : 2 ^ i ≤ 64 := Nat.pow_le_pow_right (n := 2) (by omega) hi
  rw [← sOf_all ⟨i, by omega⟩ ⟨k, hk⟩]
  refine yC_of (by decide) (ble rfl) (ls := [some (.int (nI k)), some (.int (nI i)), none, none, none]) rfl ?_
  have Lp : ∀ m s v, s + m = 2 ^ i → Y w mX11_statesOf d (yR (some (.long (sOf k m s v))) F) o 5 [some (.int (nI k)), some (.int (nI i)), some (.long v), none, some (.int (nI s))] [] F := by
    intro m
    induction m with
    | zero =>
      intro s v hs
      refine yX11_statesOf_5 (yX11_statesOf_7 (yX11_statesOf_8 (yX11_statesOf_9 ?_)))
      rw [sh1 ⟨i, by omega⟩]
      refine yX11_statesOf_10 (fun _ => ?_) (fun h9 => absurd (nI_le (by show 2 ^ i ≤ s; omega) (by omega)) h9)
      refine yX11_statesOf_40 (yX11_statesOf_41 ⟨rfl, rfl⟩)
    | succ m ih =>
      intro s v hs
      refine yX11_statesOf_5 (yX11_statesOf_7 (yX11_statesOf_8 (yX11_statesOf_9 ?_)))
      rw [sh1 ⟨i, by omega⟩]
      refine yX11_statesOf_10 (fun h9 => absurd h9 (nI_ge (by show s < 2 ^ i; omega) (by show 2 ^ i < _; omega))) (fun _ => ?_)
      have G : ∀ x : Int64, x = (if (nI s >>> (nI k &&& 31)) &&& 1 = 1 then (1 : Int64) <<< ((nI s).toInt64 &&& 63) else 0) → Y w mX11_statesOf d (yR (some (.long (sOf k (m + 1) s v))) F) o 32 [some (.int (nI k)), some (.int (nI i)), some (.long v), none, some (.int (nI s))] [.long x, .long v] F := by
        intro x hx
        refine yX11_statesOf_32 (yX11_statesOf_33 rfl (yX11_statesOf_34 rfl (yX11_statesOf_37 ?_)))
        rw [nI_1, hx]
        exact ih (s + 1) _ (by omega)
      refine yX11_statesOf_13 (yX11_statesOf_14 (yX11_statesOf_16 (yX11_statesOf_17 (yX11_statesOf_18 (yX11_statesOf_19 (yX11_statesOf_20 (yX11_statesOf_21 (fun h9 => ?_) (fun h9 => ?_))))))))
      · refine yX11_statesOf_31 ?_
        exact G 0 (by rw [if_neg h9])
      · refine yX11_statesOf_24 (yX11_statesOf_25 (yX11_statesOf_27 (yX11_statesOf_28 ?_)))
        exact G _ (by rw [if_pos h9])
  have L0 := Lp (2 ^ i) 0 0 (by omega)
  rw [nI_0] at L0
  refine yX11_statesOf_0 (yX11_statesOf_1 rfl (yX11_statesOf_2 (yX11_statesOf_3 rfl ?_)))
  exact L0
/-! the two stacks: the head of a list is the top -/
def stw (f : Nat → Int32) : List Int32 → Prop
  | [] => True
  | c :: l => f l.length = c ∧ stw f l
def stv (f : Nat → Int64) : List Int64 → Prop
  | [] => True
  | c :: l => f l.length = c ∧ stv f l
theorem stw_up {f : Nat → Int32} {k : Nat} {c : Int32} : ∀ {l : List Int32}, stw f l → l.length ≤ k → stw (upd f k c) l := by
  intro l
  induction l with
  | nil => intro _ _; trivial
  | cons a l ih =>
    intro h hk
    have hk : l.length + 1 ≤ k := hk
    exact ⟨by rw [pk_un (by omega)]; exact h.1, ih h.2 (by omega)⟩
theorem stv_up {f : Nat → Int64} {k : Nat} {c : Int64} : ∀ {l : List Int64}, stv f l → l.length ≤ k → stv (vp_updL f k c) l := by
  intro l
  induction l with
  | nil => intro _ _; trivial
  | cons a l ih =>
    intro h hk
    have hk : l.length + 1 ≤ k := hk
    exact ⟨by rw [pk_uLn (by omega)]; exact h.1, ih h.2 (by omega)⟩
def stk (F : mF) (wl : List Int32) (vl : List Int64) : Prop := F.s 32 = nI wl.length ∧ F.s 34 = nI vl.length ∧ stw (F.a 21) wl ∧ stv (F.l 22) vl ∧ wl.length ≤ 1400 ∧ vl.length ≤ 190
/-- only the stacks are different -/
def xK (F F' : mF) : Prop := (∀ j, j ≠ 32 → j ≠ 34 → F'.s j = F.s j) ∧ F'.nm = F.nm ∧ (∀ r, r ≠ 21 → F'.a r = F.a r) ∧ ∀ r, r ≠ 22 → F'.l r = F.l r
theorem xK.rf : xK F F := ⟨fun _ _ _ => rfl, rfl, fun _ _ => rfl, fun _ _ => rfl⟩
theorem xK.tr {F F1 F2 : mF} (h : xK F F1) (h2 : xK F1 F2) : xK F F2 := ⟨fun j a b => (h2.1 j a b).trans (h.1 j a b), h2.2.1.trans h.2.1, fun r a => (h2.2.2.1 r a).trans (h.2.2.1 r a), fun r a => (h2.2.2.2 r a).trans (h.2.2.2 r a)⟩
theorem xK.uS {j : Nat} {v : Int32} (h : j = 32 ∨ j = 34) : xK F (F.uS j v) := ⟨fun i h1 h2 => if_neg (by omega), rfl, fun _ _ => rfl, fun _ _ => rfl⟩
theorem xK.uL {f : Nat → Int64} : xK F (F.uL 22 f) := ⟨fun _ _ _ => rfl, rfl, fun _ _ => rfl, fun r hr => uL_n hr⟩
theorem xK.uA {f : Nat → Int32} : xK F (F.uA 21 f) := ⟨fun _ _ _ => rfl, rfl, fun r hr => uA_n hr, fun _ _ => rfl⟩
theorem mTk.xK {F F' : mF} {q : Nat} (h : mTk F T n q) (k : xK F F') : mTk F' T n q := by
  unfold mTk
  rw [k.1 23 (by omega) (by omega), k.1 24 (by omega) (by omega), k.1 25 (by omega) (by omega), k.1 27 (by omega) (by omega), k.2.1]
  exact h
theorem al.xK {F F' : mF} {q : Nat} (h : al F T n q) (k : xK F F') : al F' T n q := by
  refine ⟨?_, ?_, h.2.2.1, ?_, h.2.2.2.2.1, h.2.2.2.2.2.xK k⟩
  · rw [k.2.2.1 1 (by omega)]; exact h.1
  · rw [k.1 1 (by omega) (by omega)]; exact h.2.1
  · rw [k.1 28 (by omega) (by omega)]; exact h.2.2.2.1
def ap (c : Int32) (a b : Int64) : Int64 := if c = 124 then a ||| b else if c = 94 then a ^^^ b else a &&& b
def fS : List Int32 → List Int64 → Int64 → Int64
  | c :: l, a :: m, v => fS l m (ap c a v)
  | _, _, v => v
def cnd (least c : Int32) : Prop := if least = 0 then ¬ c = 40 else least ≤ rk c
theorem m_settle {least : Int32} : ∀ (ops : List Int32) (rest : List Int32) (vals vl : List Int64) (v : Int64) (F : mF) (l2 l3 l4 l5 l6 : Option Value), ops.length = vals.length → stk F (ops ++ rest) (v :: (vals ++ vl)) → (∀ c ∈ ops, cnd least c) → (∀ c l, rest = c :: l → ¬ cnd least c) →
    Y w mX11_settle (d + 1) (fun r F' => r = none ∧ stk F' rest (fS ops vals v :: vl) ∧ xK F F') o 0 [some (.ref o), some (.int least), l2, l3, l4, l5, l6] [] F := by
  intro ops
  induction ops with
  | nil =>
    intro rest vals vl v F l2 l3 l4 l5 l6 hlen hs hc hr
    match vals, hlen with
    | [], _ =>
    obtain ⟨s1, s2, s3, s4, s5, s6⟩ := hs
    match rest, s1, s3, s5, hr with
    | [], s1, s3, s5, hr =>
      refine yX11_settle_0 (yX11_settle_1 ?_)
      rw [s1]
      refine yX11_settle_4 (fun _ => ?_) (fun h9 => absurd (show nI 0 ≤ 0 by decide) h9)
      refine yX11_settle_152 ⟨rfl, ⟨s1, s2, s3, s4, s5, s6⟩, xK.rf⟩
    | c :: l, s1, s3, s5, hr =>
      have hr := hr c l rfl
      have s1' : F.s 32 = nI (l.length + 1) := s1
      have s5' : l.length + 1 ≤ 1400 := s5
      have e1 : F.s 32 - 1 = nI l.length := by rw [s1', nI_pred]
      refine yX11_settle_0 (yX11_settle_1 (yX11_settle_4 (fun h9 => absurd h9 (by rw [s1']; exact nI_nle (by omega) (by omega))) (fun _ => ?_)))
      have Z : Y w mX11_settle (d + 1) (fun r F' => r = none ∧ stk F' (c :: l) (fS [] [] v :: vl) ∧ xK F F') o 152 [some (.ref o), some (.int least), l2, l3, l4, l5, l6] [] F := yX11_settle_152 ⟨rfl, ⟨s1, s2, s3, s4, s5, s6⟩, xK.rf⟩
      refine yX11_settle_7 (yX11_settle_8 (fun h9 => ?_) (fun h9 => ?_))
      · refine yX11_settle_30 (yX11_settle_31 (yX11_settle_34 (yX11_settle_35 (yX11_settle_38 (yX11_settle_39 (yX11_settle_40 (ble rfl) rfl (i := l.length) e1 (by omega) ?_))))))
        rw [s3.1]
        refine yX11_settle_41 (ble rfl) (m_rank _) (yX11_settle_44 (yX11_settle_45 (fun _ => Z) (fun h8 => ?_)))
        unfold cnd at hr
        rw [if_neg h9] at hr
        exact absurd (Int32.not_lt.mp h8) hr
      · refine yX11_settle_11 (yX11_settle_12 (yX11_settle_15 (yX11_settle_16 (yX11_settle_19 (yX11_settle_20 (yX11_settle_21 (ble rfl) rfl (i := l.length) e1 (by omega) ?_))))))
        rw [s3.1]
        unfold cnd at hr
        rw [if_pos h9] at hr
        refine yX11_settle_22 (yX11_settle_24 (fun _ => Z) (fun h8 => absurd h8 hr))
  | cons c ops ih =>
    intro rest vals vl v F l2 l3 l4 l5 l6 hlen hs hc hr
    match vals, hlen with
    | a :: vals, hlen =>
    obtain ⟨s1, s2, s3, s4, s5, s6⟩ := hs
    have s1' : F.s 32 = nI ((ops ++ rest).length + 1) := s1
    have s5' : (ops ++ rest).length + 1 ≤ 1400 := s5
    have s2' : F.s 34 = nI ((vals ++ vl).length + 2) := s2
    have s6' : (vals ++ vl).length + 2 ≤ 190 := s6
    have t1 : F.a 21 (ops ++ rest).length = c := s3.1
    have t2 : F.l 22 ((vals ++ vl).length + 1) = v := s4.1
    have t3 : F.l 22 (vals ++ vl).length = a := s4.2.1
    have e1 : F.s 32 - 1 = nI (ops ++ rest).length := by rw [s1', nI_pred]
    have e2 : F.s 34 - 1 = nI ((vals ++ vl).length + 1) := by rw [s2']; exact nI_pred _
    have e3 : F.s 34 - 2 = nI (vals ++ vl).length := by rw [s2']; exact pk_sub (b := 2) (by omega)
    have hc1 := hc c (List.mem_cons_self ..)
    refine yX11_settle_0 (yX11_settle_1 (yX11_settle_4 (fun h9 => absurd h9 (by rw [s1']; exact nI_nle (by omega) (by omega))) (fun _ => ?_)))
    have Z : Y w mX11_settle (d + 1) (fun r F' => r = none ∧ stk F' rest (fS (c :: ops) (a :: vals) v :: vl) ∧ xK F F') o 48 [some (.ref o), some (.int least), l2, l3, l4, l5, l6] [] F := by
      refine yX11_settle_48 (yX11_settle_49 (yX11_settle_52 (yX11_settle_53 (yX11_settle_56 (yX11_settle_57 (yX11_settle_58 (ble rfl) rfl (i := (vals ++ vl).length + 1) e2 (by omega) ?_))))))
      rw [t2]
      refine yX11_settle_59 rfl (yX11_settle_60 (yX11_settle_61 (yX11_settle_64 (yX11_settle_65 (yX11_settle_68 (yX11_settle_69 (yX11_settle_70 (ble rfl) rfl (i := (vals ++ vl).length) e3 (by omega) ?_)))))))
      rw [t3]
      refine yX11_settle_71 rfl (yX11_settle_73 (yX11_settle_74 (yX11_settle_77 (yX11_settle_78 (yX11_settle_81 (yX11_settle_82 (yX11_settle_83 (ble rfl) rfl (i := (ops ++ rest).length) e1 (by omega) ?_)))))))
      rw [t1]
      refine yX11_settle_84 rfl (yX11_settle_86 (yX11_settle_87 rfl (yX11_settle_88 (yX11_settle_91 (yX11_settle_92 ?_)))))
      rw [e2]
      refine yX11_settle_93 (yX11_settle_96 (yX11_settle_97 rfl (yX11_settle_98 (yX11_settle_101 (yX11_settle_102 ?_)))))
      rw [show (F.uS 34 (nI ((vals ++ vl).length + 1))).s 32 - 1 = nI (ops ++ rest).length from e1]
      refine yX11_settle_103 (yX11_settle_106 (yX11_settle_107 (yX11_settle_110 (yX11_settle_111 (yX11_settle_114 (yX11_settle_115 ?_))))))
      rw [show ((F.uS 34 (nI ((vals ++ vl).length + 1))).uS 32 (nI (ops ++ rest).length)).s 34 - 1 = nI (vals ++ vl).length from nI_pred _]
      have kx : xK F ((F.uS 34 (nI ((vals ++ vl).length + 1))).uS 32 (nI (ops ++ rest).length)) := (xK.uS (Or.inr rfl)).tr (xK.uS (Or.inl rfl))
      have G : ∀ x : Int64, x = ap c a v → Y w mX11_settle (d + 1) (fun r F' => r = none ∧ stk F' rest (fS (c :: ops) (a :: vals) v :: vl) ∧ xK F F') o 148 [some (.ref o), some (.int least), some (.long v), none, some (.long a), none, some (.int c)] [.long x, .int (nI (vals ++ vl).length), .ref (o + 22)] ((F.uS 34 (nI ((vals ++ vl).length + 1))).uS 32 (nI (ops ++ rest).length)) := by
        intro x hx
        refine yX11_settle_148 (ble rfl) (fun _ => rfl) (i := (vals ++ vl).length) rfl (by omega) (yX11_settle_149 ?_)
        refine Y_imp (ih rest vals vl x _ _ _ _ _ _ (by simpa using hlen) ⟨?_, ?_, ?_, ?_, ?_, ?_⟩ (fun c' h' => hc c' (List.mem_cons_of_mem _ h')) hr) (fun r F' hh => ⟨hh.1, ?_, kx.tr (xK.uL.tr hh.2.2)⟩)
        · rfl
        · show nI ((vals ++ vl).length + 1) = nI (x :: (vals ++ vl)).length; rfl
        · exact s3.2
        · exact ⟨pk_uLs, stv_up s4.2.2 (Nat.le_refl _)⟩
        · omega
        · show (vals ++ vl).length + 1 ≤ 190; omega
        · rw [show fS (c :: ops) (a :: vals) v = fS ops vals x by show fS ops vals (ap c a v) = _; rw [hx]]
          exact hh.2.1
      refine yX11_settle_116 (yX11_settle_118 (yX11_settle_120 (fun h9 => ?_) (fun h9 => ?_)))
      · refine yX11_settle_130 (yX11_settle_132 (yX11_settle_134 (fun h8 => ?_) (fun h8 => ?_)))
        · refine yX11_settle_144 (yX11_settle_146 (yX11_settle_147 ?_))
          exact G _ (by unfold ap; rw [if_neg h9, if_neg h8])
        · refine yX11_settle_137 (yX11_settle_139 (yX11_settle_140 (yX11_settle_141 ?_)))
          exact G _ (by unfold ap; rw [if_neg h9, if_pos h8])
      · refine yX11_settle_123 (yX11_settle_125 (yX11_settle_126 (yX11_settle_127 ?_)))
        exact G _ (by unfold ap; rw [if_pos h9])
    refine yX11_settle_7 (yX11_settle_8 (fun h9 => ?_) (fun h9 => ?_))
    · refine yX11_settle_30 (yX11_settle_31 (yX11_settle_34 (yX11_settle_35 (yX11_settle_38 (yX11_settle_39 (yX11_settle_40 (ble rfl) rfl (i := (ops ++ rest).length) e1 (by omega) ?_))))))
      rw [t1]
      unfold cnd at hc1
      rw [if_neg h9] at hc1
      refine yX11_settle_41 (ble rfl) (m_rank _) (yX11_settle_44 (yX11_settle_45 (fun h8 => absurd hc1 (Int32.not_le.mpr h8)) (fun _ => Z)))
    · refine yX11_settle_11 (yX11_settle_12 (yX11_settle_15 (yX11_settle_16 (yX11_settle_19 (yX11_settle_20 (yX11_settle_21 (ble rfl) rfl (i := (ops ++ rest).length) e1 (by omega) ?_))))))
      rw [t1]
      unfold cnd at hc1
      rw [if_pos h9] at hc1
      refine yX11_settle_22 (yX11_settle_24 (fun h8 => absurd h8 hc1) (fun _ => ?_))
      refine yX11_settle_27 ?_
      exact Z
end M8
