/-! what holds at the law's start -/
theorem arr_of {args : Array Value} {s : State} {ty : FieldType} (hty : ty = .int ∨ ty = .long ∨ ty = .boolean) (h : (Cond.arrayClass ty).before args s = true) : ∃ cA : ClassId, ArrOfT s cA ty ∧ va_RA s cA ty := by
  obtain ⟨cA, kA, comp, h1, h2, h3⟩ := Cond.arrayClass_spec h
  refine ⟨cA, fun n z => ⟨fun k h => (by cases h), kA, h2, comp, h3⟩, ?_⟩
  rcases hty with r | r | r <;> subst r <;> exact h1
theorem arr_over {s : State} {C : String} (h : va_AO C s) : ∃ cA : ClassId, ArrOfT s cA (.object C) ∧ va_RA s cA (.object C) := by
  obtain ⟨comp, cA, kA, h1, -, h3, h4, h5⟩ := Cond.arrayOver_spec h
  exact ⟨cA, fun n z => ⟨fun k h => (by cases h), kA, h3, comp, h4⟩, kA, comp, h3, h4, h1, h5⟩
theorem k_start {args : Array Value} {s : State} (hts : ∀ w ∈ lw_tbl, w.before args s = true) : ∃ (D : va_G) (t : Nat → ClassId), va_K D vwCl (TY t) s := by
  obtain ⟨c0, i0, hk0⟩ := u_known (C := RJ6) (T := TJ6) (N := 1) (n := 1) hts inJ6 (hts (.instantiable RJ6 1) (by decide +kernel))
  obtain ⟨c1, i1, hk1⟩ := u_known (C := RJx4a65c) (T := TJx4a65c) (N := 3) (n := 3) hts inJx4a65c (hts (.instantiable RJx4a65c 3) (by decide +kernel))
  obtain ⟨c2, i2, hk2⟩ := u_known (C := RX0) (T := TX0) (N := 4) (n := 4) hts inX0 (hts (.instantiable RX0 4) (by decide +kernel))
  obtain ⟨c3, i3, hk3⟩ := u_known (C := RX1) (T := TX1) (N := 2) (n := 2) hts inX1 (hts (.instantiable RX1 2) (by decide +kernel))
  obtain ⟨c4, i4, hk4⟩ := u_known (C := RX2) (T := TX2) (N := 2) (n := 2) hts inX2 (hts (.instantiable RX2 2) (by decide +kernel))
  obtain ⟨c5, i5, hk5⟩ := u_known (C := RX6) (T := TX6) (N := 7) (n := 7) hts inX6 (hts (.instantiable RX6 7) (by decide +kernel))
  obtain ⟨c6, i6, hk6⟩ := u_known (C := RX7) (T := TX7) (N := 16) (n := 16) hts inX7 (hts (.instantiable RX7 16) (by decide +kernel))
  obtain ⟨t0, a0⟩ := arr_of (ty := .int) (by simp) (hts (.arrayClass .int) (by decide +kernel))
  obtain ⟨t1, a1⟩ := arr_of (ty := .long) (by simp) (hts (.arrayClass .long) (by decide +kernel))
  obtain ⟨t2, a2⟩ := arr_of (ty := .boolean) (by simp) (hts (.arrayClass .boolean) (by decide +kernel))
  obtain ⟨t3, a3⟩ := arr_over (va_AO.of (hts (.arrayOver (.object RX2)) (by decide +kernel)))
  obtain ⟨t4, a4⟩ := arr_over (va_AO.of (hts (.arrayOver (.object RX1)) (by decide +kernel)))
  obtain ⟨t5, a5⟩ := arr_over (va_AO.of (hts (.arrayOver (.object RX0)) (by decide +kernel)))
  obtain ⟨t6, a6⟩ := arr_over (va_AO.of (hts (.arrayOver (.object "java/lang/Object")) (by decide +kernel)))
  refine ⟨(fun k => match k with | 0 => c0 | 1 => c1 | 2 => c2 | 3 => c3 | 4 => c4 | 5 => c5 | _ => c6, fun k => match k with | 0 => i0 | 1 => i1 | 2 => i2 | 3 => i3 | 4 => i4 | 5 => i5 | _ => i6), fun k => match k with | 0 => t0 | 1 => t1 | 2 => t2 | 3 => t3 | 4 => t4 | 5 => t5 | _ => t6, fun k q hq => ?_, fun k q hq => ?_⟩
  · match k, hq with
    | 0, hq => cases hq; exact hk0
    | 1, hq => cases hq; exact hk1
    | 2, hq => cases hq; exact hk2
    | 3, hq => cases hq; exact hk3
    | 4, hq => cases hq; exact hk4
    | 5, hq => cases hq; exact hk5
    | 6, hq => cases hq; exact hk6
    | k + 7, hq => simp [vwCl] at hq
  · match k, hq with
    | 0, hq => cases hq; exact a0
    | 1, hq => cases hq; exact a1
    | 2, hq => cases hq; exact a2
    | 3, hq => cases hq; exact a3
    | 4, hq => cases hq; exact a4
    | 5, hq => cases hq; exact a5
    | 6, hq => cases hq; exact a6
    | k + 7, hq => simp [TY] at hq
theorem jV_start {args : Array Value} {s : State} (A : Nat → Prop) (hts : ∀ w ∈ lw_tbl, w.before args s = true) : jV A s s.heap :=
  ⟨va_AO.of (hts (.arrayOver (.object RX2)) (by decide +kernel)), va_AO.of (hts (.arrayOver (.object RX1)) (by decide +kernel)), va_AO.of (hts (.arrayOver (.object RX0)) (by decide +kernel))⟩
theorem jK_start {args : Array Value} {s : State} {A : Nat → Prop} (hts : ∀ w ∈ lw_tbl, w.before args s = true) (hgv : (Jvm.Cond.and given_1 narrow_1).before args s = true) (hA : ∀ a : Nat, a < s.heap.size → ¬ A a) : ∃ (ad : Nat → Nat) (d0 tc : Nat), jK ad d0 tc A s s.heap := by
  have hs := flat_of_before _ hgv
  have e1 : (Cond.eq (.length (.static "java/util/ArrayList" "DEFAULTCAPACITY_EMPTY_ELEMENTDATA" "[Ljava/lang/Object;")) (.int 0)).value args s none s [] = some true := by simpa [Cond.before, Cond.holds] using hs (Cond.eq (.length (.static "java/util/ArrayList" "DEFAULTCAPACITY_EMPTY_ELEMENTDATA" "[Ljava/lang/Object;")) (.int 0)) (by decide +kernel)
  obtain ⟨d0, v1, T1⟩ := va_Tof (N := 0) (f := fun _ => .null) (A := A) (by decide) (hs (Cond.arrayOf (.static "java/util/ArrayList" "DEFAULTCAPACITY_EMPTY_ELEMENTDATA" "[Ljava/lang/Object;") (.object "java/lang/Object")) (by decide +kernel)) (va_eqI e1 (v := .int (Int32.ofNat 0)) rfl) (fun j hj => absurd hj (Nat.not_lt_zero j)) hA
  have e2 : (Cond.eq (.static "java/lang/Integer$IntegerCache" "high" "I") (.int 127)).value args s none s [] = some true := by simpa [Cond.before, Cond.holds] using hs (Cond.eq (.static "java/lang/Integer$IntegerCache" "high" "I") (.int 127)) (by decide +kernel)
  have v2 := va_eqI e2 (v := .int 127) rfl
  have e3 : (Cond.eq (.length (.static "java/lang/Integer$IntegerCache" "cache" "[Ljava/lang/Integer;")) (.int 256)).value args s none s [] = some true := by simpa [Cond.before, Cond.holds] using hs (Cond.eq (.length (.static "java/lang/Integer$IntegerCache" "cache" "[Ljava/lang/Integer;")) (.int 256)) (by decide +kernel)
  have l3 := va_eqI e3 (v := .int (Int32.ofNat 256)) rfl
  obtain ⟨ad, hC, hel⟩ := vb_Cof (A := A) (st := .static "java/lang/Integer$IntegerCache" "cache" "[Ljava/lang/Integer;") rfl l3 (hs _ (by decide +kernel)) hA
  obtain ⟨tc, v3, T3⟩ := va_Tof (N := 256) (f := fun k => .ref (ad k)) (A := A) (by decide) (hs (Cond.arrayOf (.static "java/lang/Integer$IntegerCache" "cache" "[Ljava/lang/Integer;") (.object "java/lang/Integer")) (by decide +kernel)) l3 hel hA
  refine ⟨ad, d0, tc, hC, ?_, ?_, ?_, T3, T1, va_AO.of (hts (.arrayOver (.object "java/lang/Object")) (by decide +kernel)), va_Nw.of rfl (hts (.castable "java/lang/Integer" "java/lang/Object") (by decide +kernel))⟩
  · exact va_Zof (hts (.laysStatic "java/util/ArrayList" "DEFAULTCAPACITY_EMPTY_ELEMENTDATA" "[Ljava/lang/Object;") (by decide +kernel)) (hts (.initialized "java/util/ArrayList") (by decide +kernel)) v1 hA
  · exact va_Zof (hts (.laysStatic "java/lang/Integer$IntegerCache" "high" "I") (by decide +kernel)) (hts (.initialized "java/lang/Integer$IntegerCache") (by decide +kernel)) v2 hA
  · exact va_Zof (hts (.laysStatic "java/lang/Integer$IntegerCache" "cache" "[Ljava/lang/Integer;") (by decide +kernel)) (hts (.initialized "java/lang/Integer$IntegerCache") (by decide +kernel)) v3 hA
