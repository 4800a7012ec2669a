section XStart
def R_law : String := "CellLibraryLaw"
def lw_P (b : Addr) (xs : List Int32) (args : Array Value) (s : State) : Prop := args = #[.ref b] ∧ s.IntsAt b xs ∧ xs.length ≤ 3072 ∧ (Jvm.Cond.and given_1 narrow_1).before args s = true
def lw_Q (_ : Array Value) (s : State) (o : Outcome) (t : State) : Prop := o = .returned (some (.int 1)) ∧ Framed s o t [] 601024 7293034
def lw_Z (below : List Frame) (a : Array Value) (s : State) : State → Prop := fun t => ∃ o, t.status = .running ∧ Ended t below o ∧ lw_Q a s o t
def lw_At (p : Program) (s : State) (m : MethodId) (meth : Method) (c : Code) (b L : Nat) (xs : Nat → Int32) : Prop :=
  p.tables.exec = Jvm.exec ∧ c.code = code ∧ meth.sig.returnType = ret ∧ c.maxLocals = 8 ∧ s.vm.findClass R_law = some m.cls ∧ (∀ w ∈ lw_tbl, w.before #[Value.ref b] s = true) ∧ va_X b L xs s s.heap ∧ b < s.heap.size ∧ meth.locks = false ∧ (Jvm.Cond.and given_1 narrow_1).before #[Value.ref b] s = true
theorem x_str {b : Nat} {s : State} (hts : ∀ c ∈ lw_tbl, c.before #[Value.ref b] s = true) (hf : ∀ c ∈ x_fl, c.before #[Value.ref b] s = true) (i : Nat) : ∃ q : Nat × Nat, i < 26 → vk_R RX5 (xSi.getD i 0) (xSx.getD i "") q.1 s ∧ vk_S 1 [xSl.getD i 0] [xSb.getD i []] (fun _ => q.1) (fun _ => q.2) (fun q => s.heap.size ≤ q) s s.heap := by
  by_cases hi : i < 26
  · obtain ⟨f1, f2, f3, f4, f5⟩ := x_f2 ⟨i, hi⟩
    have hl5 : xSl.getD i 0 ≤ 5 := by
      have : ∀ k : Fin 26, xSl.getD k 0 ≤ 5 := by decide +kernel
      exact this ⟨i, hi⟩
    obtain ⟨adK, adV, h1, h2⟩ := vk_Sof (args := #[Value.ref b]) (s := s) (N := 1) (tm := fun _ => x_st i) (len := [xSl.getD i 0]) (byt := [xSb.getD i []]) (A := fun q => s.heap.size ≤ q)
      (fun j hj => by rw [show j = 0 by omega]; show xSl.getD i 0 < 2 ^ 31; omega)
      (fun j hj => hf _ f1) (fun j hj => hf _ f2) (fun j hj => hf _ f3)
      (fun j hj => by rw [show j = 0 by omega]; exact hf _ f4)
      (fun j hj k hk => by
        obtain rfl : j = 0 := by omega
        have hk' : k < xSl.getD i 0 := hk
        exact hf _ (f5 ⟨k, by omega⟩ hk'))
      (fun j k hj hk hne => absurd (show j = k by omega) hne) (fun a ha => Nat.not_le.mpr ha)
    refine ⟨(adK 0, adV 0), fun _ => ⟨vk_R.of (hts _ (x_sw.1 ⟨i, hi⟩)) ?_, ?_⟩⟩
    · exact h2 0 Nat.one_pos
    · have e1 : (fun _ => adK 0 : Nat → Nat) = (fun j => adK (if j < 1 then j else 0)) := by
        funext j
        by_cases h : j < 1
        · rw [if_pos h, show j = 0 by omega]
        · rw [if_neg h]
      refine ⟨fun j hj => ?_, fun j k hj hk _ => by omega⟩
      obtain rfl : j = 0 := by omega
      exact h1.1 0 Nat.one_pos
  · exact ⟨(0, 0), fun h => absurd h hi⟩
theorem x_ok {s : State} {b L : Nat} {xs : Nat → Int32} (l : Launch) (hl : l.stackTraces = false) (hts : ∀ c ∈ lw_tbl, c.before #[Value.ref b] s = true) (hX : va_X b L xs s s.heap) (hbl : b < s.heap.size) (hgv : (Jvm.Cond.and given_1 narrow_1).before #[Value.ref b] s = true) : ∃ (D : va_G) (ac : Nat → ClassId) (ad : Nat → Nat), ad 0 = b ∧ xOK (l, s, D, ac, ad, L, xs) := by
  have hf : ∀ c ∈ x_fl, c.before #[Value.ref b] s = true := flat_of_before _ hgv
  have hA : ∀ a : Nat, a < s.heap.size → ¬ (s.heap.size ≤ a) := fun a ha => Nat.not_le.mpr ha
  obtain ⟨⟨g1, g2, g3, g4⟩, ⟨g5, g6, g7⟩, g8⟩ := x_f1
  obtain ⟨-, ⟨s1, s2, s3⟩, ⟨s4, s5⟩, ⟨s6, s7⟩, ⟨s8, s9⟩⟩ := x_sw
  obtain ⟨-, -, a0, a1, a2, a3, a4, a5⟩ := x_ins
  obtain ⟨D, hD⟩ := x_cls hts
  obtain ⟨c0, k0, k0'⟩ := x_arr hts a0
  obtain ⟨c1, k1, k1'⟩ := x_arr hts a1
  obtain ⟨c2, k2, k2'⟩ := x_arr hts a2
  obtain ⟨c3, k3, k3'⟩ := x_arr hts a3
  obtain ⟨c4, k4, k4'⟩ := x_arq hts a4
  obtain ⟨c5, k5, k5'⟩ := x_arq hts a5
  obtain ⟨tI, hI1, hI2⟩ := va_Tof (args := #[Value.ref b]) (s := s) (tm := .static RX2 "INPUTS" "[J") (ty := .long) (N := 6) (f := fun j => .long (xN j)) (A := fun q => s.heap.size ≤ q) (by decide) (hf _ g5) (va_eqt (hf _ g6)) (fun j hj => va_eqtl (hf _ (g7 ⟨j, hj⟩))) hA
  have hS := x_str hts hf
  refine ⟨D, fun t => match t with | 0 => c0 | 1 => c1 | 2 => c2 | 3 => c3 | 4 => c4 | _ => c5, fun i => if i = 0 then b else if i = 1 then tI else if i < 40 then (hS (i - 10)).choose.1 else (hS (i - 40)).choose.2, rfl, hts, ⟨hD, fun k q hk => ?_⟩, hl, ⟨vx_Zqof (hts _ s1) (hts _ s3) (hf _ g1) hA, vx_Zqof (hts _ s2) (hts _ s3) (hf _ g2) hA⟩, ⟨va_Zref (hts _ s4) (hts _ s5) hI1 hA, hI2⟩, ⟨hX, hbl⟩, va_Nc.of (hf _ g8), fun i hi => ?_, fun i hi => ?_, va_Zof (hts _ s6) (hts _ s7) (va_eqt (hf _ g4)) hA, va_Zqof (hts _ s8) (hts _ s9) (hf _ g3) hA⟩
  · match k, hk with
    | 0, hk => cases hk; exact ⟨k0, k0'⟩
    | 1, hk => cases hk; exact ⟨k1, k1'⟩
    | 2, hk => cases hk; exact ⟨k2, k2'⟩
    | 3, hk => cases hk; exact ⟨k3, k3'⟩
    | 4, hk => cases hk; exact ⟨k4, k4'⟩
    | 5, hk => cases hk; exact ⟨k5, k5'⟩
    | k + 6, hk => cases hk
  · have h := ((hS i).choose_spec hi).1
    have e : (if 10 + i = 0 then b else if 10 + i = 1 then tI else if 10 + i < 40 then (hS (10 + i - 10)).choose.1 else (hS (10 + i - 40)).choose.2) = (hS i).choose.1 := by
      rw [if_neg (by omega), if_neg (by omega), if_pos (by omega)]
      rw [show 10 + i - 10 = i by omega]
    show vk_R RX5 _ _ (if 10 + i = 0 then b else if 10 + i = 1 then tI else if 10 + i < 40 then (hS (10 + i - 10)).choose.1 else (hS (10 + i - 40)).choose.2) s
    rw [e]; exact h
  · have h := ((hS i).choose_spec hi).2
    have e : (if 10 + i = 0 then b else if 10 + i = 1 then tI else if 10 + i < 40 then (hS (10 + i - 10)).choose.1 else (hS (10 + i - 40)).choose.2) = (hS i).choose.1 := by
      rw [if_neg (by omega), if_neg (by omega), if_pos (by omega)]
      rw [show 10 + i - 10 = i by omega]
    have e2 : (if 40 + i = 0 then b else if 40 + i = 1 then tI else if 40 + i < 40 then (hS (40 + i - 10)).choose.1 else (hS (40 + i - 40)).choose.2) = (hS i).choose.2 := by
      rw [if_neg (by omega), if_neg (by omega), if_neg (by omega)]
      rw [show 40 + i - 40 = i by omega]
    show vk_S 1 _ _ (fun _ => (if 10 + i = 0 then b else if 10 + i = 1 then tI else if 10 + i < 40 then (hS (10 + i - 10)).choose.1 else (hS (10 + i - 40)).choose.2)) (fun _ => (if 40 + i = 0 then b else if 40 + i = 1 then tI else if 40 + i < 40 then (hS (40 + i - 10)).choose.1 else (hS (40 + i - 40)).choose.2)) _ s s.heap
    rw [e, e2]; exact h
/-- the empty pure heap of the start -/
def xP0 (w : xWd) : xH := (fun _ => none, w.z, 0)
def xQ1 : Outcome → xH → Prop := fun o _ => o = .returned (some (.int 1))
theorem x_start (hX9 : ∀ w : xWd, w.2.2.2.2.2.1 ≤ 3072 → X w xMlaw 200 xQ1 0 [some (.ref (w.ad 0)), none, none, none, none, none, none, none] [] (xP0 w)) {p : Program} {e : Env} {s : State} {m : MethodId} {below : List Frame} {meth : Method} {c : Code} (l : Launch) (hl : l.stackTraces = false) {b L : Nat} {xs : Nat → Int32} (hL : L ≤ 3072) (hnm : meth.name = "law") (htab : c.exceptionTable.toList = []) (C0 : lw_At p s m meth c b L xs) : W p l e room_1 s m #[Value.ref b] below meth c s.heap [] 0 0 (lw_Z below #[Value.ref b] s) (entryFrame m ([Value.ref b] : List Value).toArray 8) := by
  obtain ⟨hx, hb, hr, hml, hown, hts, hX, hbl, hlocks, hgv⟩ := C0
  obtain ⟨D, ac, ad, rfl, ok⟩ := x_ok l hl hts hX hbl hgv
  have hH : xHp (l, s, D, ac, ad, L, xs) (xP0 (l, s, D, ac, ad, L, xs)) s.heap := ⟨rfl, Nat.le_refl _, fun _ _ => rfl, fun a e h => (by cases h), fun a cell hz h => absurd (Array.getElem?_eq_some_iff.mp h).1 (Nat.not_lt.mpr hz), Nat.le_add_right _ _, Nat.zero_le _⟩
  have F : xFr (l, s, D, ac, ad, L, xs) xMlaw 200 (xP0 (l, s, D, ac, ad, L, xs)) p room_1 s m meth c := ⟨hx, hb, hml, hr, hlocks, hown, hnm, State.WarmedH.refl s, htab, hH.old, rfl, by decide, by decide, Nat.add_comm _ _, rfl⟩
  have he := lv_entry ([.ref (ad 0)]) (n := 8) (Nat.le_of_ble_eq_true rfl)
  rw [lg_entry_eq]
  have K := hX9 (l, s, D, ac, ad, L, xs) hL ok p e room_1 s m #[Value.ref (ad 0)] below meth c _ s.heap [] _ F (Nat.le_refl _) (Nat.le_refl _) hH (fun q hq => by cases hq) (⟨he.1, he.2.1, fun i v hi => he.2.2 (i, v) (by
    have := (xl_in [some (.ref (ad 0)), none, none, none, none, none, none, none] 0 i v).mpr ⟨i, by omega, hi⟩
    exact this)⟩ : xLs _ _ _)
  rw [Nat.sub_self, Nat.sub_self] at K
  refine xMono (fun t ht => ?_) K
  obtain ⟨o, a1, a2, P', rfl, hHt, p1, p2, hW, Lc, hsm, hLc⟩ := ht
  refine ⟨_, a1, a2, rfl, ⟨_, rfl⟩, hW, ?_⟩
  obtain ⟨e1, e2, e3, e4, e5, e6⟩ := hsm
  have hb1 := hHt.2.2.2.2.2
  have hz : (xP0 (l, s, D, ac, ad, L, xs)).2.1 = s.heap.size := rfl
  have hz2 : (xP0 (l, s, D, ac, ad, L, xs)).2.2 = 0 := rfl
  have hz3 : xWd.z (l, s, D, ac, ad, L, xs) = s.heap.size := rfl
  refine ⟨e1, e2, Nat.le_trans e3 (by rw [hz]; rw [hz3] at hb1; omega), e4, Nat.le_trans e5 (by omega), fun a c9 h9 => ?_⟩
  obtain ⟨c', q1, q2, q3, q4⟩ := e6 a c9 h9
  refine ⟨c', q1, q2, q3, fun i _ => q4 i (fun hm => ?_)⟩
  have h8 := hLc _ hm
  exact absurd (Array.getElem?_eq_some_iff.mp h9).1 (Nat.not_lt.mpr h8)
end XStart
