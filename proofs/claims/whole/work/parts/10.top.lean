section XTop
def RLw : String := "CellLibraryLaw"
/-- the law as a method of the judgement -/
def xMlaw : xM := (yL_law, code, 8, ret, [])
set_option maxRecDepth 100000 in
theorem x_in0 : xIn RX0 TX0 2 := by unfold xIn; decide +kernel
set_option maxRecDepth 100000 in
theorem x_in1 : xIn RX1 TX1 12 := by unfold xIn; decide +kernel
set_option maxRecDepth 100000 in
theorem x_in3 : xIn RX3 TX3 4 := by unfold xIn; decide +kernel
set_option maxRecDepth 100000 in
theorem x_in5 : xIn RX5 TX5 3 := by unfold xIn; decide +kernel
set_option maxRecDepth 100000 in
theorem x_in6 : xIn RX6 TX6 5 := by unfold xIn; decide +kernel
set_option maxRecDepth 100000 in
theorem x_in7 : xIn RX7 TX7 3 := by unfold xIn; decide +kernel
set_option maxRecDepth 100000 in
theorem x_in8 : xIn RX8 TX8 5 := by unfold xIn; decide +kernel
set_option maxRecDepth 100000 in
theorem x_in9 : xIn RX9 TX9 5 := by unfold xIn; decide +kernel
set_option maxRecDepth 100000 in
theorem x_in10 : xIn RX10 TX10 6 := by unfold xIn; decide +kernel
set_option maxRecDepth 100000 in
theorem x_in11 : xIn RX11 TX11 37 := by unfold xIn; decide +kernel
theorem x_c0 : xCls RX0 TX0 2 tyX0 := ⟨x_in0, tyX0_ok, nmX0⟩
theorem x_c1 : xCls RX1 TX1 12 tyX1 := ⟨x_in1, tyX1_ok, nmX1⟩
theorem x_c3 : xCls RX3 TX3 4 tyX3 := ⟨x_in3, tyX3_ok, nmX3⟩
theorem x_c5 : xCls RX5 TX5 3 tyX5 := ⟨x_in5, tyX5_ok, nmX5⟩
theorem x_c6 : xCls RX6 TX6 5 tyX6 := ⟨x_in6, tyX6_ok, nmX6⟩
theorem x_c7 : xCls RX7 TX7 3 tyX7 := ⟨x_in7, tyX7_ok, nmX7⟩
theorem x_c8 : xCls RX8 TX8 5 tyX8 := ⟨x_in8, tyX8_ok, nmX8⟩
theorem x_c9 : xCls RX9 TX9 5 tyX9 := ⟨x_in9, tyX9_ok, nmX9⟩
theorem x_c10 : xCls RX10 TX10 6 tyX10 := ⟨x_in10, tyX10_ok, nmX10⟩
theorem x_c11 : xCls RX11 TX11 37 tyX11 := ⟨x_in11, tyX11_ok, nmX11⟩
set_option maxRecDepth 100000 in
theorem x_ins : (Cond.instantiable RX0 2 ∈ lw_tbl ∧ Cond.instantiable RX1 12 ∈ lw_tbl ∧ Cond.instantiable RX3 4 ∈ lw_tbl ∧ Cond.instantiable RX5 3 ∈ lw_tbl ∧ Cond.instantiable RX6 5 ∈ lw_tbl ∧ Cond.instantiable RX7 3 ∈ lw_tbl ∧ Cond.instantiable RX8 5 ∈ lw_tbl ∧ Cond.instantiable RX9 5 ∈ lw_tbl ∧ Cond.instantiable RX10 6 ∈ lw_tbl ∧ Cond.instantiable RX11 37 ∈ lw_tbl) ∧ (Cond.instantiable xISE 6 ∈ lw_tbl ∧ Cond.instantiable xIOE 6 ∈ lw_tbl ∧ Cond.instantiable xIAE 6 ∈ lw_tbl) ∧ (Cond.arrayClass .int ∈ lw_tbl ∧ Cond.arrayClass .long ∈ lw_tbl ∧ Cond.arrayClass .char ∈ lw_tbl ∧ Cond.arrayClass .boolean ∈ lw_tbl ∧ Cond.arrayOver (.object RX7) ∈ lw_tbl ∧ Cond.arrayOver (.object RX1) ∈ lw_tbl) := by decide +kernel
theorem x_cls {b : Nat} {s : State} (hts : ∀ c ∈ lw_tbl, c.before #[Value.ref b] s = true) : ∃ D : va_G, ∀ (k : Nat) (r : vw_C), xCl[k]? = some r → u_Kn s r.1 r.2.1 r.2.2 (D.1 k) (D.2 k) := by
  have K : ∀ {C : String} {T : u_T} {N n : Nat}, xIn C T N → Cond.instantiable C n ∈ lw_tbl → ∃ q : ClassId × (Nat → Nat), ∀ r : vw_C, some (C, T, N) = some r → u_Kn s r.1 r.2.1 r.2.2 q.1 q.2 := fun {C T N n} hin hi => by
    obtain ⟨c, i, h⟩ := u_known (C := C) (T := T) (N := N) (n := n) hts (fun c hc => (hin c hc).1) (hts _ hi)
    exact ⟨(c, i), fun r hr => by cases hr; exact h⟩
  have h0 : ∀ C, xIn C TX2 0 := fun C c hc => by cases hc
  obtain ⟨⟨i0, i1, i2, i3, i4, i5, i6, i7, i8, i9⟩, ⟨i10, i11, i12⟩, -⟩ := x_ins
  have h : ∀ k, ∃ q : ClassId × (Nat → Nat), ∀ r : vw_C, xCl[k]? = some r → u_Kn s r.1 r.2.1 r.2.2 q.1 q.2 := fun k => match k with
    | 0 => K x_in0 i0
    | 1 => K x_in1 i1
    | 2 => K x_in3 i2
    | 3 => K x_in5 i3
    | 4 => K x_in6 i4
    | 5 => K x_in7 i5
    | 6 => K x_in8 i6
    | 7 => K x_in9 i7
    | 8 => K x_in10 i8
    | 9 => K x_in11 i9
    | 10 => K (h0 _) i10
    | 11 => K (h0 _) i11
    | 12 => K (h0 _) i12
    | k + 13 => ⟨(0, fun _ => 0), fun r hr => by cases hr⟩
  exact ⟨(fun k => (h k).choose.1, fun k => (h k).choose.2), fun k r hr => (h k).choose_spec r hr⟩
theorem x_arr {b : Nat} {s : State} (hts : ∀ c ∈ lw_tbl, c.before #[Value.ref b] s = true) {ty : FieldType} (h : Cond.arrayClass ty ∈ lw_tbl) : ∃ cA : ClassId, ArrOfT s cA ty ∧ s.vm.findClass ("[" ++ ty.toString) = some cA := by
  obtain ⟨cA, kA, comp, h1, h2, h3⟩ := Cond.arrayClass_spec (hts _ h)
  exact ⟨cA, fun n z => ⟨fun k h => (by cases h), kA, h2, comp, h3⟩, h1⟩
theorem x_arq {b : Nat} {s : State} (hts : ∀ c ∈ lw_tbl, c.before #[Value.ref b] s = true) {C : String} (h : Cond.arrayOver (.object C) ∈ lw_tbl) : ∃ cA : ClassId, ArrOfT s cA (.object C) ∧ va_RA s cA (.object C) := by
  obtain ⟨comp, cA, kA, h1, -, h3, h4, h5⟩ := Cond.arrayOver_spec (hts _ h)
  exact ⟨cA, fun n z => ⟨fun k h => (by cases h), kA, h3, comp, h4⟩, kA, comp, h3, h4, h1, h5⟩
set_option maxRecDepth 100000 in
theorem x_sw : (∀ i : Fin 26, Cond.stringRef RX5 (xSi.getD i 0) (xSx.getD i "") ∈ lw_tbl) ∧ (Cond.laysStatic Bundle.tN "UNASSIGNED_STACK" Bundle.steD ∈ lw_tbl ∧ Cond.laysStatic Bundle.tN "SUPPRESSED_SENTINEL" Bundle.listD ∈ lw_tbl ∧ Cond.initialized Bundle.tN ∈ lw_tbl) ∧ (Cond.laysStatic RX2 "INPUTS" "[J" ∈ lw_tbl ∧ Cond.initialized RX2 ∈ lw_tbl) ∧ (Cond.laysStatic RJ0 "COMPACT_STRINGS" "Z" ∈ lw_tbl ∧ Cond.initialized RJ0 ∈ lw_tbl) ∧ (Cond.laysStatic RJ3 "SIOOBE_FORMATTER" "Ljava/util/function/BiFunction;" ∈ lw_tbl ∧ Cond.initialized RJ3 ∈ lw_tbl) := by decide +kernel
/-- the conditions of the start that are used -/
def x_st (i : Nat) : Term := .string RX5 (xSi.getD i 0)
def x_vt (i : Nat) : Term := .field (x_st i) "java/lang/String" "value" "[B"
def x_fl : List Cond := flatC (Jvm.Cond.and given_1 narrow_1)
set_option maxRecDepth 100000 in
theorem x_f1 : (Cond.isRef (.static Bundle.tN "UNASSIGNED_STACK" Bundle.steD) ∈ x_fl ∧ Cond.isRef (.static Bundle.tN "SUPPRESSED_SENTINEL" Bundle.listD) ∈ x_fl ∧ Cond.isRef (.static RJ3 "SIOOBE_FORMATTER" "Ljava/util/function/BiFunction;") ∈ x_fl ∧ Cond.eq (.static RJ0 "COMPACT_STRINGS" "Z") (.int 1) ∈ x_fl) ∧ (Cond.arrayOf (.static RX2 "INPUTS" "[J") .long ∈ x_fl ∧ Cond.eq (.length (.static RX2 "INPUTS" "[J")) (.int (Int32.ofNat 6)) ∈ x_fl ∧ ∀ j : Fin 6, Cond.eq (.elem (.static RX2 "INPUTS" "[J") (.int (Int32.ofNat j))) (.long (xN j)) ∈ x_fl) ∧ Cond.not (.castable xIAE xIOE) ∈ x_fl := by decide +kernel
set_option maxRecDepth 100000 in
theorem x_f2 : ∀ i : Fin 26, Cond.exactly (x_st i) "java/lang/String" ∈ x_fl ∧ Cond.eq (.field (x_st i) "java/lang/String" "coder" "B") (.int 0) ∈ x_fl ∧ Cond.arrayOf (x_vt i) .byte ∈ x_fl ∧ Cond.eq (.length (x_vt i)) (.int (Int32.ofNat (xSl.getD i 0))) ∈ x_fl ∧ ∀ j : Fin 5, j.val < xSl.getD i 0 → Cond.eq (.elem (x_vt i) (.int (Int32.ofNat j))) (.int ((xSb.getD i []).getD j 0)) ∈ x_fl := by decide +kernel
end XTop
