/-! what holds at the law's start -/
theorem NW_of {s : State} {args : Array Value} (hts : ∀ w ∈ lw_tbl, w.before args s = true) (hta : ∀ w ∈ ALLW, w.before args s = true) : NW s := by
  intro w hw
  simp only [nwl, List.mem_cons, List.not_mem_nil, or_false] at hw
  rcases hw with rfl | rfl | rfl | rfl | rfl | rfl | rfl | rfl | rfl | rfl | rfl | rfl | rfl | rfl | rfl | rfl | rfl | rfl | rfl | rfl | rfl | rfl | rfl
  · exact va_Nw.of rfl (hts _ tq_54)
  · exact va_Nw.of rfl (hts _ tq_60)
  · exact va_Nw.of rfl (hts _ tq_282)
  · exact va_Nw.of rfl (hts _ tq_296)
  · exact va_Nw.of rfl (hts _ tq_304)
  · exact va_Nw.of rfl (hts _ tq_313)
  · exact va_Nw.of rfl (hts _ tq_317)
  · exact va_Nw.of rfl (hts _ tq_324)
  · exact va_Nw.of rfl (hts _ tq_384)
  · exact va_Nw.of rfl (hts _ tq_389)
  · exact va_Nw.of rfl (hts _ tq_391)
  · exact va_Nw.of rfl (hts _ tq_393)
  · exact va_Nw.of rfl (hts _ tq_395)
  · exact va_Nw.of rfl (hts _ tq_503)
  · exact va_Nw.of rfl (hts _ tq_591)
  · exact va_Nw.of rfl (hts _ tq_148)
  · exact va_Nw.of rfl (hts _ tq_149)
  · exact va_Nw.of rfl (hts _ tq_150)
  · exact va_Nw.of rfl (hts _ tq_151)
  · exact va_Nw.of rfl (hts _ tq_152)
  · exact va_Nw.of rfl (hts _ tq_153)
  · exact va_Nw.of rfl (hts _ tq_147)
  · exact va_Nw.of rfl (hts _ tq_240)
theorem arr_of {s : State} {args : Array Value} {ty : FieldType} (h : (Cond.arrayClass ty).before args s = true) (hn : ∀ C, ty ≠ .object C) : ∃ cA : ClassId, ArrOfT s cA ty ∧ va_RA s cA ty := by
  obtain ⟨c, k, comp, h1, h2, h3⟩ := Cond.arrayClass_spec h
  refine ⟨c, fun n z => ⟨(fun q hq => by cases hq), k, h2, comp, h3⟩, ?_⟩
  cases ty <;> first | exact h1 | exact absurd rfl (hn _)
theorem arrO_of {s : State} {args : Array Value} {C : String} (h : (Cond.arrayOver (.object C)).before args s = true) : ∃ cA : ClassId, ArrOfT s cA (.object C) ∧ va_RA s cA (.object C) := by
  obtain ⟨comp, c, k, h1, h2, h3, h4, h5⟩ := Cond.arrayOver_spec h
  exact ⟨c, fun n z => ⟨(fun q hq => by cases hq), k, h3, comp, h4⟩, ⟨k, comp, h3, h4, h1, h5⟩⟩
theorem str_of {s : State} {args : Array Value} {k : Nat} (h : (Cond.exactly (.string "PlotKernel" k) "java/lang/String").before args s = true) : ∃ a : Nat, (Term.string "PlotKernel" k).eval args s none [] s = some (.ref a) := by
  obtain ⟨a, -, -, -, h1, -⟩ := Cond.exactly_spec h
  exact ⟨a, h1⟩
set_option maxRecDepth 100000 in
theorem start_of {s : State} {b : Nat} (hts : ∀ w ∈ lw_tbl, w.before #[Value.ref b] s = true) (hta : ∀ w ∈ ALLW, w.before #[Value.ref b] s = true) (hgv : (Jvm.Cond.and given_1 narrow_1).before #[Value.ref b] s = true) (A : Nat → Prop) (hA : ∀ a : Nat, a < s.heap.size → ¬ A a) : ∃ E : EV, KE E s ∧ ZE E A s s.heap := by
  have hs := flat_of_before _ hgv
  obtain ⟨c0, i0, k0⟩ := u_known (C := RJx4a65c) (T := TJx4a65c) (N := 3) (n := 3) hta lay_AL (hta _ tw_27)
  obtain ⟨c1, i1, k1⟩ := u_known (C := RX0) (T := TX0) (N := 4) (n := 4) hta lay_X0 (hta _ tw_285)
  obtain ⟨c2, i2, k2⟩ := u_known (C := RX1) (T := TX1) (N := 2) (n := 2) hta lay_X1 (hta _ tw_53)
  obtain ⟨c3, i3, k3⟩ := u_known (C := RX2) (T := TX2) (N := 19) (n := 19) hta lay_X2 (hta _ tw_19)
  obtain ⟨cI, aI1, aI2⟩ := arr_of (hta _ tw_125) (fun C h => by cases h)
  obtain ⟨cJ, aJ1, aJ2⟩ := arr_of (hta _ tw_66) (fun C h => by cases h)
  obtain ⟨cO, aO1, aO2⟩ := arrO_of (hts _ tq_373)
  obtain ⟨mi, hmi⟩ := va_Mi.of (C := "[Ljava/lang/Object;") (hs (.isRef (.mirror "[Ljava/lang/Object;")) (by decide +kernel))
  obtain ⟨s0, hs0⟩ := str_of (hs (.exactly (.string "PlotKernel" 164) "java/lang/String") (by decide +kernel))
  obtain ⟨s1, hs1⟩ := str_of (hs (.exactly (.string "PlotKernel" 32) "java/lang/String") (by decide +kernel))
  obtain ⟨s2, hs2⟩ := str_of (hs (.exactly (.string "PlotKernel" 141) "java/lang/String") (by decide +kernel))
  obtain ⟨s3, hs3⟩ := str_of (hs (.exactly (.string "PlotKernel" 173) "java/lang/String") (by decide +kernel))
  obtain ⟨s4, hs4⟩ := str_of (hs (.exactly (.string "PlotKernel" 228) "java/lang/String") (by decide +kernel))
  obtain ⟨t, ht, hT⟩ := va_Tof (tm := (.static "java/util/ArrayList" "DEFAULTCAPACITY_EMPTY_ELEMENTDATA" "[Ljava/lang/Object;")) (ty := .object "java/lang/Object") (N := 0) (f := fun _ => .null) (A := A) (by decide) (hs (.arrayOf (.static "java/util/ArrayList" "DEFAULTCAPACITY_EMPTY_ELEMENTDATA" "[Ljava/lang/Object;") (.object "java/lang/Object")) (by decide +kernel)) (Cond.eq_int (hs (.eq (.length (.static "java/util/ArrayList" "DEFAULTCAPACITY_EMPTY_ELEMENTDATA" "[Ljava/lang/Object;")) (.int 0)) (by decide +kernel)) rfl) (fun j hj => absurd hj (Nat.not_lt_zero j)) hA
  have hZ := va_Zref (A := A) (hts _ tq_39) (hta _ tw_4) ht hA
  have hZ2 := vx_Zqof (A := A) (hts _ tq_172) (hta _ tw_9) (hs (.isRef (.static "java/lang/Throwable" "UNASSIGNED_STACK" "[Ljava/lang/StackTraceElement;")) (by decide +kernel)) hA
  have hZ3 := vx_Zqof (A := A) (hts _ tq_174) (hta _ tw_9) (hs (.isRef (.static "java/lang/Throwable" "SUPPRESSED_SENTINEL" "Ljava/util/List;")) (by decide +kernel)) hA
  refine ⟨(fun k => if k = 0 then c0 else if k = 1 then c1 else if k = 2 then c2 else c3, fun k => if k = 0 then i0 else if k = 1 then i1 else if k = 2 then i2 else i3, fun k => if k = 0 then cI else if k = 1 then cJ else cO, fun k => if k = 0 then t else if k = 1 then mi else if k = 2 then s0 else if k = 3 then s1 else if k = 4 then s2 else if k = 5 then s3 else s4), ⟨⟨?_, ?_⟩, NW_of hts hta, va_AO.of (hts _ tq_373), hmi, va_Dc.of (hts _ tq_596), ⟨vk_R.of (hts _ tq_185) hs0, vk_R.of (hts _ tq_247) hs1, vk_R.of (hts _ tq_416) hs2, vk_R.of (hts _ tq_496) hs3, vk_R.of (hts _ tq_502) hs4⟩, va_Nc.of (hs (.not (.castable "java/lang/IllegalArgumentException" "java/lang/IndexOutOfBoundsException")) (by decide +kernel))⟩, ⟨hZ, hT, hZ2, hZ3⟩⟩
  · intro k q hq
    match k, hq with
    | 0, hq => cases hq; exact k0
    | 1, hq => cases hq; exact k1
    | 2, hq => cases hq; exact k2
    | 3, hq => cases hq; exact k3
    | k + 4, hq => simp [vwCl] at hq
  · intro k q hq
    match k, hq with
    | 0, hq => cases hq; exact ⟨aI1, aI2⟩
    | 1, hq => cases hq; exact ⟨aJ1, aJ2⟩
    | 2, hq => cases hq; exact ⟨aO1, aO2⟩
    | k + 3, hq => simp [eT] at hq
