section XBase
/-! PURE WORLD. A pure heap: what lies at an address, how many cells there are, how many slots have been booked. -/
abbrev xE : Type := (Nat × List Value) ⊕ ((Nat × Nat × (Nat → Int32)) ⊕ ((Nat × (Nat → Int64)) ⊕ (Nat × Nat × (Nat → Option Nat))))
abbrev xH : Type := (Nat → Option xE) × Nat × Nat
abbrev xO (k : Nat) (fs : List Value) : xE := .inl (k, fs)
abbrev xA (t n : Nat) (f : Nat → Int32) : xE := .inr (.inl (t, n, f))
abbrev xJ (n : Nat) (f : Nat → Int64) : xE := .inr (.inr (.inl (n, f)))
abbrev xR (t n : Nat) (f : Nat → Option Nat) : xE := .inr (.inr (.inr (t, n, f)))
def xs (P : xH) (a : Nat) (e : xE) : xH := (va_up P.1 a (some e), P.2)
def xal (P : xH) (e : xE) (n : Nat) : xH := (va_up P.1 P.2.1 (some e), P.2.1 + 1, P.2.2 + n)
/-- the run's own: launch, state at the law's entry, numbers of classes and slots, numbers of array classes, addresses, the script -/
abbrev xWd : Type := Launch × State × va_G × (Nat → ClassId) × (Nat → Nat) × Nat × (Nat → Int32)
abbrev xWd.l (w : xWd) : Launch := w.1
abbrev xWd.S (w : xWd) : State := w.2.1
abbrev xWd.D (w : xWd) : va_G := w.2.2.1
abbrev xWd.ac (w : xWd) : Nat → ClassId := w.2.2.2.1
abbrev xWd.ad (w : xWd) : Nat → Nat := w.2.2.2.2.1
abbrev xWd.z (w : xWd) : Nat := w.2.1.heap.size
def xty (t : Nat) : FieldType := match t with
  | 0 => .int
  | 1 => .long
  | 2 => .char
  | 3 => .boolean
  | 4 => .object RX7
  | _ => .object RX1
def xtys (w : xWd) : List (ClassId × FieldType) := [(w.ac 0, .int), (w.ac 1, .long), (w.ac 2, .char), (w.ac 3, .boolean), (w.ac 4, .object RX7), (w.ac 5, .object RX1)]
def xe (w : xWd) : xE → va_E
  | .inl o => .inr o
  | .inr (.inl (t, n, f)) => .inl (w.ac t, n, .inl f)
  | .inr (.inr (.inl (n, f))) => .inl (w.ac 1, n, .inr (.inl f))
  | .inr (.inr (.inr (t, n, f))) => .inl (w.ac t, n, .inr (.inr (.inr (.inr f))))
def xISE : String := "java/lang/IllegalStateException"
def xIOE : String := "java/lang/IndexOutOfBoundsException"
def xIAE : String := "java/lang/IllegalArgumentException"
def xCl : List vw_C := vwCl ++ [(xISE, TX2, 0), (xIOE, TX2, 0), (xIAE, TX2, 0)]
def xHp (w : xWd) (P : xH) (H : Heap) : Prop := H.size = P.2.1 ∧ w.z ≤ P.2.1 ∧ (∀ a, a < w.z → H[a]? = w.S.heap[a]?) ∧ (∀ a e, P.1 a = some e → w.z ≤ a ∧ va_at w.D xCl (a, xe w e) H) ∧ (∀ (a : Nat) (cell : Cell), w.z ≤ a → H[a]? = some cell → cell.vm.isStatics = false) ∧ P.2.1 ≤ w.z + 601024 ∧ P.2.2 ≤ 7293034
def xOld (w : xWd) (H : Heap) : Prop := w.z ≤ H.size ∧ (∀ a, a < w.z → H[a]? = w.S.heap[a]?) ∧ (∀ (a : Nat) (cell : Cell), w.z ≤ a → H[a]? = some cell → cell.vm.isStatics = false)
theorem xHp.old {w : xWd} {P : xH} {H : Heap} (h : xHp w P H) : xOld w H := ⟨by rw [h.1]; exact h.2.1, h.2.2.1, h.2.2.2.2.1⟩
theorem xHp.one {w : xWd} {P : xH} {H : Heap} (h : xHp w P H) {a : Nat} {e : xE} (ha : P.1 a = some e) : va_P w.D xCl [(a, xe w e)] H := by
  intro k q hq
  match k, hq with
  | 0, hq => cases hq; exact (h.2.2.2.1 a e ha).2
  | k + 1, hq => simp at hq
theorem xHp.lt {w : xWd} {P : xH} {H : Heap} (h : xHp w P H) {a : Nat} {e : xE} (ha : P.1 a = some e) : a < P.2.1 := by
  have h1 := (h.2.2.2.1 a e ha).2.lt
  rw [h.1] at h1
  exact h1
theorem xHp.set {w : xWd} {P : xH} {H H' : Heap} (h : xHp w P H) {a : Nat} {e0 : xE} (ha : P.1 a = some e0) (e' : xE) (hs : H'.size = H.size) (ho : ∀ q : Nat, q ≠ a → H'[q]? = H[q]?) (hat : va_at w.D xCl (a, xe w e') H') (hn : ∀ cell : Cell, H'[a]? = some cell → cell.vm.isStatics = false) : xHp w (xs P a e') H' := by
  have hza := (h.2.2.2.1 a e0 ha).1
  refine ⟨hs.trans h.1, h.2.1, fun q hq => ?_, fun q e hq => ?_, fun q cell hz hq => ?_, h.2.2.2.2.2⟩
  · rw [ho q (by omega)]; exact h.2.2.1 q hq
  · by_cases hqa : q = a
    · subst hqa
      have : some e' = some e := by rw [← hq]; simp [xs, va_up]
      cases this
      exact ⟨hza, hat⟩
    · have hq' : P.1 q = some e := by rw [← hq]; simp [xs, va_up, hqa]
      exact ⟨(h.2.2.2.1 q e hq').1, (h.2.2.2.1 q e hq').2.kept (ho q hqa)⟩
  · by_cases hqa : q = a
    · subst hqa; exact hn cell hq
    · rw [ho q hqa] at hq; exact h.2.2.2.2.1 q cell hz hq
theorem xHp.push {w : xWd} {P : xH} {H H' : Heap} (h : xHp w P H) (e' : xE) (n : Nat) (hs : H'.size = P.2.1 + 1) (ho : ∀ q : Nat, q < P.2.1 → H'[q]? = H[q]?) (hat : va_at w.D xCl (P.2.1, xe w e') H') (hn : ∀ cell : Cell, H'[P.2.1]? = some cell → cell.vm.isStatics = false) (hr1 : P.2.1 + 1 ≤ w.z + 601024) (hr2 : P.2.2 + n ≤ 7293034) : xHp w (xal P e' n) H' := by
  refine ⟨hs, Nat.le_succ_of_le h.2.1, fun q hq => ?_, fun q e hq => ?_, fun q cell hz hq => ?_, hr1, hr2⟩
  · rw [ho q (Nat.lt_of_lt_of_le hq h.2.1)]; exact h.2.2.1 q hq
  · by_cases hqa : q = P.2.1
    · subst hqa
      have : some e' = some e := by rw [← hq]; simp [xal, va_up]
      cases this
      exact ⟨h.2.1, hat⟩
    · have hq' : P.1 q = some e := by rw [← hq]; simp [xal, va_up, hqa]
      exact ⟨(h.2.2.2.1 q e hq').1, (h.2.2.2.1 q e hq').2.kept (ho q (h.lt hq'))⟩
  · by_cases hqa : q = P.2.1
    · subst hqa; exact hn cell hq
    · have hlt : q < H'.size := (Array.getElem?_eq_some_iff.mp hq).1
      rw [ho q (by omega)] at hq; exact h.2.2.2.2.1 q cell hz hq
/-- a method: its name, code, locals, what it returns, its table of handlers -/
abbrev xM : Type := MethodName × ByteArray × Nat × Option FieldType × List (Nat × Nat × Nat × Nat)
def xcw (M : xM) : Cond := match M.2.2.2.2 with
  | [] => .code M.1 M.2.1 M.2.2.1 M.2.2.2.1
  | h :: t => .codeWith M.1 M.2.1 M.2.2.1 M.2.2.2.1 (h :: t)
def xrm (w : xWd) (d : Nat) (P : xH) : Room := { frames := d + 8, cells := w.z + 601024 - P.2.1, slots := 7293034 - P.2.2, locals := 64 * d + 128 }
def xN : Nat → Int64 := fun j => match j with
  | 0 => -6148914691236517206
  | 1 => -3689348814741910324
  | 2 => -1085102592571150096
  | 3 => -71777214294589696
  | 4 => -281470681808896
  | _ => -4294967296
def xSi : List Nat := [46, 88, 104, 122, 55, 145, 147, 149, 155, 198, 281, 283, 291, 298, 300, 305, 310, 315, 163, 171, 173, 175, 275, 277, 279, 180]
def xSx : List String := ["table", ":", "/", ";", "cell", "{", "}", "in", "out", "=", "!", "(", "1", "0", ")", "|", "^", "&", "drive", "load", "area", "arc", "pos", "neg", "both", "power"]
def xSl : List Nat := [5, 1, 1, 1, 4, 1, 1, 2, 3, 1, 1, 1, 1, 1, 1, 1, 1, 1, 5, 4, 4, 3, 3, 3, 4, 5]
def xSb : List (List Int32) := [[116, 97, 98, 108, 101], [58], [47], [59], [99, 101, 108, 108], [123], [125], [105, 110], [111, 117, 116], [61], [33], [40], [49], [48], [41], [124], [94], [38], [100, 114, 105, 118, 101], [108, 111, 97, 100], [97, 114, 101, 97], [97, 114, 99], [112, 111, 115], [110, 101, 103], [98, 111, 116, 104], [112, 111, 119, 101, 114]]
/-- what is known of the run -/
def xOK (w : xWd) : Prop := (∀ c ∈ lw_tbl, c.before #[Value.ref (w.ad 0)] w.S = true) ∧ va_K w.D xCl (xtys w) w.S ∧ w.l.stackTraces = false ∧
  (vx_Zq Bundle.tN "UNASSIGNED_STACK" Bundle.steD (fun q => w.z ≤ q) w.S w.S.heap ∧ vx_Zq Bundle.tN "SUPPRESSED_SENTINEL" Bundle.listD (fun q => w.z ≤ q) w.S w.S.heap) ∧
  (va_Z RX2 "INPUTS" "[J" (.ref (w.ad 1)) (fun q => w.z ≤ q) w.S w.S.heap ∧ va_T .long (w.ad 1) 6 (fun j => .long (xN j)) (fun q => w.z ≤ q) w.S w.S.heap) ∧
  (va_X (w.ad 0) w.2.2.2.2.2.1 w.2.2.2.2.2.2 w.S w.S.heap ∧ w.ad 0 < w.z) ∧
  va_Nc xIAE xIOE w.S ∧
  (∀ i, i < 26 → vk_R RX5 (xSi.getD i 0) (xSx.getD i "") (w.ad (10 + i)) w.S) ∧ (∀ i, i < 26 → vk_S 1 [xSl.getD i 0] [xSb.getD i []] (fun _ => w.ad (10 + i)) (fun _ => w.ad (40 + i)) (fun q => w.z ≤ q) w.S w.S.heap) ∧
  va_Z RJ0 "COMPACT_STRINGS" "Z" (.int 1) (fun q => w.z ≤ q) w.S w.S.heap ∧ va_Zq RJ3 "SIOOBE_FORMATTER" "Ljava/util/function/BiFunction;" (fun q => w.z ≤ q) w.S w.S.heap
/-- the end of a method's run -/
def xEnd (w : xWd) (P : xH) (Q : Outcome → xH → Prop) (st : State) (o : Outcome) (t : State) : Prop := ∃ P', Q o P' ∧ xHp w P' t.heap ∧ P.2.1 ≤ P'.2.1 ∧ P.2.2 ≤ P'.2.2 ∧ st.WarmedH t.vm ∧
  ∃ L : List Loc, st.sameButNew ({ t with vm := st.vm } : State) L (P'.2.1 - P.2.1) (P'.2.2 - P.2.2) ∧ ∀ q ∈ L, w.z ≤ q.base
/-- A CONTRACT: from a heap that holds P the method, with these arguments, ends with an outcome and a heap of which Q speaks -/
def xC (w : xWd) (d : Nat) (M : xM) (As : List Value) (P : xH) (Q : Outcome → xH → Prop) : Prop := xOK w → MetFree w.l M.1 (headSpec [xcw M] (xrm w d P)) (fun a U => a = As.toArray ∧ w.S.WarmedH U.vm ∧ xHp w P U.heap) (fun _ _ _ _ _ => True) (fun _ st o t => xEnd w P Q st o t)
def xFr (w : xWd) (M : xM) (d : Nat) (P0 : xH) (p : Program) (R : Room) (s : State) (m : MethodId) (meth : Method) (c : Code) : Prop :=
  p.tables.exec = Jvm.exec ∧ c.code = M.2.1 ∧ c.maxLocals = M.2.2.1 ∧ meth.sig.returnType = M.2.2.2.1 ∧ meth.locks = false ∧ s.vm.findClass M.1.cls = some m.cls ∧ meth.name = M.1.name ∧ w.S.WarmedH s.vm ∧ c.exceptionTable.toList = tableOf M.2.2.2.2 ∧ xOld w s.heap ∧ s.heap.size = P0.2.1 ∧ d + 8 ≤ R.frames ∧ 64 * d + 128 ≤ R.locals ∧ R.cells + P0.2.1 = w.z + 601024 ∧ R.slots + P0.2.2 = 7293034
def xLs (lsA : Array Slot) (nL : Nat) (ls : List (Option Value)) : Prop := lsA.size = nL ∧ lv_wf lsA ∧ ∀ (k : Nat) (v : Value), ls[k]? = some (some v) → lsA[k]? = some (.val v)
def xMQ (w : xWd) (below : List Frame) (s : State) (P0 : xH) (Q : Outcome → xH → Prop) : State → Prop := fun t => ∃ o, t.status = .running ∧ Ended t below o ∧ xEnd w P0 Q s o t
/-- THE JUDGEMENT: at pc of the method M, with these locals and this operand stack, over a heap that holds P, the run comes to an end of which Q speaks -/
def X (w : xWd) (M : xM) (d : Nat) (Q : Outcome → xH → Prop) (pc : Nat) (ls : List (Option Value)) (st : List Value) (P : xH) : Prop := xOK w → ∀ (p : Program) (e : Env) (R : Room) (s : State) (m : MethodId) (args : Array Value) (below : List Frame) (meth : Method) (c : Code) (P0 : xH) (H : Heap) (locs : List Loc) (lsA : Array Slot),
  xFr w M d P0 p R s m meth c → P0.2.1 ≤ P.2.1 → P0.2.2 ≤ P.2.2 → xHp w P H → (∀ q ∈ locs, w.z ≤ q.base) → xLs lsA M.2.2.1 ls →
  W p w.l e R s m args below meth c H locs (P.2.1 - P0.2.1) (P.2.2 - P0.2.2) (xMQ w below s P0 Q) (F0 m pc lsA st)
/-- a step that changes neither locals nor heap -/
theorem X_go {w : xWd} {M : xM} {d : Nat} {Q : Outcome → xH → Prop} {pc pc2 : Nat} {ls : List (Option Value)} {st st2 : List Value} {P : xH}
    (h : ∀ {p : Program} {l : Launch} {e : Env} {R : Room} {s : State} {m : MethodId} {args : Array Value} {below : List Frame} {meth : Method} {c : Code} {H : Heap} {locs : List Loc} {cells slots : Nat} {Qw : State → Prop} {lsA : Array Slot}, p.tables.exec = Jvm.exec → c.code = M.2.1 → W p l e R s m args below meth c H locs cells slots Qw (F0 m pc2 lsA st2) → W p l e R s m args below meth c H locs cells slots Qw (F0 m pc lsA st))
    (k : X w M d Q pc2 ls st2 P) : X w M d Q pc ls st P := by
  intro ok p e R s m args below meth c P0 H locs lsA F h1 h2 hH hL hls
  exact h F.1 F.2.1 (k ok p e R s m args below meth c P0 H locs lsA F h1 h2 hH hL hls)
/-- a branch -/
theorem X_br {w : xWd} {M : xM} {d : Nat} {Q : Outcome → xH → Prop} {pc pc1 pc2 : Nat} {ls : List (Option Value)} {st st2 : List Value} {P : xH} {B : Prop}
    (h : ∀ {p : Program} {l : Launch} {e : Env} {R : Room} {s : State} {m : MethodId} {args : Array Value} {below : List Frame} {meth : Method} {c : Code} {H : Heap} {locs : List Loc} {cells slots : Nat} {Qw : State → Prop} {lsA : Array Slot}, p.tables.exec = Jvm.exec → c.code = M.2.1 → (B → W p l e R s m args below meth c H locs cells slots Qw (F0 m pc1 lsA st2)) → (¬ B → W p l e R s m args below meth c H locs cells slots Qw (F0 m pc2 lsA st2)) → W p l e R s m args below meth c H locs cells slots Qw (F0 m pc lsA st))
    (kt : B → X w M d Q pc1 ls st2 P) (kf : ¬ B → X w M d Q pc2 ls st2 P) : X w M d Q pc ls st P := by
  intro ok p e R s m args below meth c P0 H locs lsA F h1 h2 hH hL hls
  exact h F.1 F.2.1 (fun b => kt b ok p e R s m args below meth c P0 H locs lsA F h1 h2 hH hL hls) (fun b => kf b ok p e R s m args below meth c P0 H locs lsA F h1 h2 hH hL hls)
theorem xLs.get {lsA : Array Slot} {nL : Nat} {ls : List (Option Value)} (h : xLs lsA nL ls) {k : Nat} {v : Value} (hk : ls[k]? = some (some v)) : lsA[k]? = some (.val v) := h.2.2 k v hk
def xl : List (Option Value) → Nat → List (Nat × Value)
  | [], _ => []
  | none :: t, k => xl t (k + 1)
  | some v :: t, k => (k, v) :: xl t (k + 1)
theorem xl_in : ∀ (ls : List (Option Value)) (k i : Nat) (v : Value), (i, v) ∈ xl ls k ↔ ∃ j, i = k + j ∧ ls[j]? = some (some v) := by
  intro ls
  induction ls with
  | nil => intro k i v; simp [xl]
  | cons a t ih =>
    intro k i v
    cases a with
    | none =>
      rw [xl, ih]
      constructor
      · rintro ⟨j, h1, h2⟩
        exact ⟨j + 1, by omega, by simpa using h2⟩
      · rintro ⟨j, h1, h2⟩
        cases j with
        | zero => simp at h2
        | succ j => exact ⟨j, by omega, by simpa using h2⟩
    | some u =>
      rw [xl, List.mem_cons, ih]
      constructor
      · rintro (h | ⟨j, h1, h2⟩)
        · cases h; exact ⟨0, by omega, by simp⟩
        · exact ⟨j + 1, by omega, by simpa using h2⟩
      · rintro ⟨j, h1, h2⟩
        cases j with
        | zero => left; simp at h2; rw [h1, h2]; rfl
        | succ j => right; exact ⟨j, by omega, by simpa using h2⟩
theorem xLs.has {lsA : Array Slot} {nL : Nat} {ls : List (Option Value)} (h : xLs lsA nL ls) : lv_has lsA nL (xl ls 0) := ⟨h.1, h.2.1, fun q hq => by
  obtain ⟨i, v⟩ := q
  obtain ⟨j, h1, h2⟩ := (xl_in ls 0 i v).mp hq
  have : i = j := by omega
  subst this
  exact h.2.2 i v h2⟩
/-- no long begins there -/
def xnl : Option Value → Bool
  | none => true
  | some v => v.category == 1
def xnlp (ls : List (Option Value)) (i : Nat) : Prop := ∀ v, ls[i]? = some (some v) → v.category = 1
theorem xLs.st1 {lsA lsB : Array Slot} {nL i : Nat} {v : Value} {ls : List (Option Value)} (hb : lv_has lsB nL ((i, v) :: (xl ls 0).filter (fun q => !(q.1 == i) && !(q.1 + 1 == i && q.2.category == 2)))) (hn : ∀ j, j + 1 = i → xnlp ls j) : xLs lsB nL (ls.set i (some v)) := by
  refine ⟨hb.1, hb.2.1, fun k u hk => ?_⟩
  by_cases hki : k = i
  · subst hki
    have hlen : k < ls.length := by
      rcases Nat.lt_or_ge k ls.length with h | h
      · exact h
      · rw [List.getElem?_eq_none (by simpa using h)] at hk; cases hk
    rw [List.getElem?_set_self hlen] at hk
    cases hk
    exact hb.2.2 (k, v) List.mem_cons_self
  · rw [List.getElem?_set_ne (fun h => hki h.symm)] at hk
    refine hb.2.2 (k, u) (List.mem_cons_of_mem _ (List.mem_filter.mpr ⟨(xl_in ls 0 k u).mpr ⟨k, by omega, hk⟩, ?_⟩))
    have h1 : (k == i) = false := by simpa using hki
    simp only [h1, Bool.not_false, Bool.true_and, Bool.not_eq_true', Bool.and_eq_false_iff, beq_eq_false_iff_ne, ne_eq]
    by_cases hk1 : k + 1 = i
    · right
      have := hn k hk1 u hk
      omega
    · left; exact hk1
end XBase
