/-! what the law knows at its entry: classes, arrays, statics, strings -/
theorem lw_nest : ∀ w ∈ xNest, w ∈ lw_tbl := by decide +kernel
theorem lw_ew : ∀ w ∈ xEw, w ∈ lw_tbl := by decide +kernel
theorem lw_row {args : Array Value} {s : State} {n : String} {N : Nat} {g : Nat → Int32} (hN : N < 2 ^ 31) (hs : ∀ w ∈ flatC (Jvm.Cond.and given_1 narrow_1), w.before args s = true) (hts : ∀ w ∈ lw_tbl, w.before args s = true)
    (h1 : Cond.arrayOf (.static RX10 n "[I") .int ∈ flatC (Jvm.Cond.and given_1 narrow_1)) (h2 : Cond.eq (.length (.static RX10 n "[I")) (.int (Int32.ofNat N)) ∈ flatC (Jvm.Cond.and given_1 narrow_1))
    (h3 : ∀ j, j < N → Cond.eq (.elem (.static RX10 n "[I") (.int (Int32.ofNat j))) (.int (g j)) ∈ flatC (Jvm.Cond.and given_1 narrow_1)) (h4 : Cond.laysStatic RX10 n "[I" ∈ lw_tbl) :
    ∃ t : Nat, va_Z RX10 n "[I" (.ref t) (lwA s) s s.heap ∧ va_T .int t N (fun j => .int (g j)) (lwA s) s s.heap := by
  have hA : ∀ a : Nat, a < s.heap.size → ¬ lwA s a := fun a h => Nat.not_le.mpr h
  obtain ⟨t, ht, hT⟩ := va_Tof (tm := .static RX10 n "[I") (ty := .int) (N := N) (f := fun j => .int (g j)) (A := lwA s) hN (hs _ h1) (va_eqt (hs _ h2)) (fun j hj => va_eqt (hs _ (h3 j hj))) hA
  exact ⟨t, va_Zref (hts _ h4) (hts (.initialized RX10) (by decide +kernel)) ht hA, hT⟩
theorem lw_str {args : Array Value} {s : State} {own tx : String} {k : Nat} (hs : ∀ w ∈ flatC (Jvm.Cond.and given_1 narrow_1), w.before args s = true) (hts : ∀ w ∈ lw_tbl, w.before args s = true)
    (h1 : Cond.stringRef own k tx ∈ lw_tbl) (h2 : Cond.exactly (.string own k) "java/lang/String" ∈ flatC (Jvm.Cond.and given_1 narrow_1)) : ∃ a : Nat, vk_R own k tx a s := by
  obtain ⟨a, c, cell, kk, h, -⟩ := Cond.exactly_spec (hs _ h2)
  exact ⟨a, vk_R.of (hts _ h1) h⟩
theorem lw_arrI {args : Array Value} {s : State} (h : (Cond.arrayClass .int).before args s = true) : ∃ c : ClassId, ArrOfT s c .int ∧ va_RA s c .int := by
  obtain ⟨c, k, comp, h1, h2, h3⟩ := Cond.arrayClass_spec h
  exact ⟨c, fun n z => ⟨fun q e => (by cases e), k, h2, comp, h3⟩, h1⟩
theorem lw_arrJ {args : Array Value} {s : State} (h : (Cond.arrayClass .long).before args s = true) : ∃ c : ClassId, ArrOfT s c .long ∧ va_RA s c .long := by
  obtain ⟨c, k, comp, h1, h2, h3⟩ := Cond.arrayClass_spec h
  exact ⟨c, fun n z => ⟨fun q e => (by cases e), k, h2, comp, h3⟩, h1⟩
theorem lw_arrZ {args : Array Value} {s : State} (h : (Cond.arrayClass .boolean).before args s = true) : ∃ c : ClassId, ArrOfT s c .boolean ∧ va_RA s c .boolean := by
  obtain ⟨c, k, comp, h1, h2, h3⟩ := Cond.arrayClass_spec h
  exact ⟨c, fun n z => ⟨fun q e => (by cases e), k, h2, comp, h3⟩, h1⟩
theorem lw_arrO {C : String} {s : State} (h : va_AO C s) : ∃ c : ClassId, ArrOfT s c (.object C) ∧ va_RA s c (.object C) := by
  obtain ⟨comp, c, k, h1, h2, h3, h4, h5⟩ := Cond.arrayOver_spec h
  exact ⟨c, fun n z => ⟨fun q e => (by cases e), k, h3, comp, h4⟩, k, comp, h3, h4, h1, h5⟩
theorem lw_cls {args : Array Value} {s : State} (hts : ∀ w ∈ lw_tbl, w.before args s = true) : ∀ k : Nat, ∃ d : ClassId × (Nat → Nat), ∀ q : vw_C, vwCl[k]? = some q → u_Kn s q.1 q.2.1 q.2.2 d.1 d.2 := by
  intro k
  by_cases hk : k < 12
  · rcases (show k = 0 ∨ k = 1 ∨ k = 2 ∨ k = 3 ∨ k = 4 ∨ k = 5 ∨ k = 6 ∨ k = 7 ∨ k = 8 ∨ k = 9 ∨ k = 10 ∨ k = 11 by omega) with rfl | rfl | rfl | rfl | rfl | rfl | rfl | rfl | rfl | rfl | rfl | rfl
    · obtain ⟨c, g, h⟩ := u_known (C := RX0) (T := TX0) (N := 1) (n := 1) hts in_wsX00 (hts (.instantiable RX0 1) (by decide +kernel))
      exact ⟨(c, g), fun q hq => by cases hq; exact h⟩
    · obtain ⟨c, g, h⟩ := u_known (C := RX1) (T := TX1) (N := 1) (n := 1) hts in_wsX10 (hts (.instantiable RX1 1) (by decide +kernel))
      exact ⟨(c, g), fun q hq => by cases hq; exact h⟩
    · obtain ⟨c, g, h⟩ := u_known (C := RX2) (T := TX2) (N := 1) (n := 1) hts in_wsX20 (hts (.instantiable RX2 1) (by decide +kernel))
      exact ⟨(c, g), fun q hq => by cases hq; exact h⟩
    · obtain ⟨c, g, h⟩ := u_known (C := RX3) (T := TX3) (N := 1) (n := 1) hts in_wsX30 (hts (.instantiable RX3 1) (by decide +kernel))
      exact ⟨(c, g), fun q hq => by cases hq; exact h⟩
    · obtain ⟨c, g, h⟩ := u_known (C := RX4) (T := TX4) (N := 1) (n := 1) hts in_wsX40 (hts (.instantiable RX4 1) (by decide +kernel))
      exact ⟨(c, g), fun q hq => by cases hq; exact h⟩
    · obtain ⟨c, g, h⟩ := u_known (C := RX5) (T := TX5) (N := 1) (n := 1) hts in_wsX50 (hts (.instantiable RX5 1) (by decide +kernel))
      exact ⟨(c, g), fun q hq => by cases hq; exact h⟩
    · obtain ⟨c, g, h⟩ := u_known (C := RX6) (T := TX6) (N := 1) (n := 1) hts in_wsX60 (hts (.instantiable RX6 1) (by decide +kernel))
      exact ⟨(c, g), fun q hq => by cases hq; exact h⟩
    · obtain ⟨c, g, h⟩ := u_known (C := RX7) (T := TX7) (N := 2) (n := 2) hts in_wsX70 (hts (.instantiable RX7 2) (by decide +kernel))
      exact ⟨(c, g), fun q hq => by cases hq; exact h⟩
    · obtain ⟨c, g, h⟩ := u_known (C := RX8) (T := TX8) (N := 10) (n := 10) hts in_wsX80 (hts (.instantiable RX8 10) (by decide +kernel))
      exact ⟨(c, g), fun q hq => by cases hq; exact h⟩
    · obtain ⟨c, g, h⟩ := u_known (C := RX9) (T := TX9) (N := 1) (n := 1) hts in_wsX90 (hts (.instantiable RX9 1) (by decide +kernel))
      exact ⟨(c, g), fun q hq => by cases hq; exact h⟩
    · obtain ⟨c, g, h⟩ := u_known (C := RX10) (T := TX10) (N := 7) (n := 7) hts in_wsX100 (hts (.instantiable RX10 7) (by decide +kernel))
      exact ⟨(c, g), fun q hq => by cases hq; exact h⟩
    · obtain ⟨c, g, h⟩ := u_known (C := RX11) (T := TX11) (N := 37) (n := 37) hts in_wsX110 (hts (.instantiable RX11 37) (by decide +kernel))
      exact ⟨(c, g), fun q hq => by cases hq; exact h⟩
  · exact ⟨((0 : Nat), fun _ => 0), fun q hq => absurd (List.getElem?_eq_some_iff.mp hq).1 hk⟩
theorem lw_known {p : Program} {s : State} {m : MethodId} {meth : Method} {c : Code} {b L : Nat} {sc : Nat → Int32} (C : lw_At p s m meth c b L sc) :
    ∃ (D : va_G) (T T' : mT3) (z e0 : Nat → Nat), va_K D vwCl (cT T) s ∧ va_K D vwCl (mT T') s ∧ xS z (lwA s) s s.heap ∧ xE e0 (lwA s) s s.heap ∧ va_AO RX0 s ∧ va_AO RX7 s := by
  obtain ⟨-, -, -, -, -, hts, -, -, -, hgv⟩ := C
  have hs := flat_of_before _ hgv
  have hA : ∀ a : Nat, a < s.heap.size → ¬ lwA s a := fun a h => Nat.not_le.mpr h
  obtain ⟨F, hF⟩ := Classical.axiomOfChoice (lw_cls hts)
  have hO : va_AO RX0 s := va_AO.of (hts (.arrayOver (.object RX0)) (by decide +kernel))
  have hO7 : va_AO RX7 s := va_AO.of (hts (.arrayOver (.object RX7)) (by decide +kernel))
  obtain ⟨cI, aI⟩ := lw_arrI (hts (.arrayClass .int) (by decide +kernel))
  obtain ⟨cJ, aJ⟩ := lw_arrJ (hts (.arrayClass .long) (by decide +kernel))
  obtain ⟨cZ, aZ'⟩ := lw_arrZ (hts (.arrayClass .boolean) (by decide +kernel))
  obtain ⟨cB, aB⟩ := lw_arrO hO
  obtain ⟨cR, aR⟩ := lw_arrO hO7
  obtain ⟨t0, z0⟩ := lw_row (n := "AHEAD") (N := 12) (g := cAh) (by decide) hs hts (by decide +kernel) (by decide +kernel) (by decide +kernel) (by decide +kernel)
  obtain ⟨t1, z1⟩ := lw_row (n := "ASIDE") (N := 12) (g := cAs) (by decide) hs hts (by decide +kernel) (by decide +kernel) (by decide +kernel) (by decide +kernel)
  obtain ⟨t2, z2⟩ := lw_row (n := "LEAST") (N := 7) (g := cLe) (by decide) hs hts (by decide +kernel) (by decide +kernel) (by decide +kernel) (by decide +kernel)
  obtain ⟨t3, z3⟩ := lw_row (n := "MOST") (N := 7) (g := cMo) (by decide) hs hts (by decide +kernel) (by decide +kernel) (by decide +kernel) (by decide +kernel)
  obtain ⟨t4, z4⟩ := lw_row (n := "LEAST_OF_SORT") (N := 3) (g := cLs) (by decide) hs hts (by decide +kernel) (by decide +kernel) (by decide +kernel) (by decide +kernel)
  obtain ⟨e0, k0⟩ := lw_str (own := RX10) (tx := "no such SHELF") (k := 283) hs hts (by decide +kernel) (by decide +kernel)
  obtain ⟨e1, k1⟩ := lw_str (own := RX10) (tx := "no ROW or no such place") (k := 293) hs hts (by decide +kernel) (by decide +kernel)
  obtain ⟨e2, k2⟩ := lw_str (own := RX0) (tx := "a BRICK fails") (k := 17) hs hts (by decide +kernel) (by decide +kernel)
  obtain ⟨e3, k3⟩ := lw_str (own := RX6) (tx := "a PROP fails") (k := 19) hs hts (by decide +kernel) (by decide +kernel)
  obtain ⟨e4, k4⟩ := lw_str (own := RX5) (tx := "an OILED PROP fails") (k := 22) hs hts (by decide +kernel) (by decide +kernel)
  refine ⟨(fun k => (F k).1, fun k => (F k).2), (cI, cB, cR), (cI, cJ, cZ), (fun j => ([t0, t1, t2, t3, t4] : List Nat).getD j 0), (fun j => ([e0, e1, e2, e3, e4] : List Nat).getD j 0), ⟨fun k q hq => hF k q hq, fun k q hk => ?_⟩, ⟨fun k q hq => hF k q hq, fun k q hk => ?_⟩, ?_, ?_, hO, hO7⟩
  · match k, hk with
    | 0, hk => cases hk; exact aI
    | 1, hk => cases hk; exact aB
    | 2, hk => cases hk; exact aR
    | k + 3, hk => simp [cT] at hk
  · match k, hk with
    | 0, hk => cases hk; exact aI
    | 1, hk => cases hk; exact aJ
    | 2, hk => cases hk; exact aZ'
    | k + 3, hk => simp [mT] at hk
  · exact ⟨fun w hw => va_Nw.of (xNest_on w hw) (hts w (lw_nest w hw)), z0, z1, z2, z3, z4⟩
  · refine ⟨fun w hw => va_Nw.of ((Bool.and_eq_true _ _).mp (List.all_eq_true.mp xEw_on w hw)).1 (hts w (lw_ew w hw)), ?_, ?_, k0, k1, k2, k3, k4, ?_, ?_, ?_⟩
    · exact vx_Zqof (hts (.laysStatic Bundle.tN "UNASSIGNED_STACK" Bundle.steD) (by decide +kernel)) (hts (.initialized Bundle.tN) (by decide +kernel)) (hs (.isRef (.static Bundle.tN "UNASSIGNED_STACK" Bundle.steD)) (by decide +kernel)) hA
    · exact vx_Zqof (hts (.laysStatic Bundle.tN "SUPPRESSED_SENTINEL" Bundle.listD) (by decide +kernel)) (hts (.initialized Bundle.tN) (by decide +kernel)) (hs (.isRef (.static Bundle.tN "SUPPRESSED_SENTINEL" Bundle.listD)) (by decide +kernel)) hA
    · exact va_Nc.of (hs (.not (.castable "java/lang/IllegalStateException" "java/lang/IllegalArgumentException")) (by decide +kernel))
    · exact va_Nc.of (hs (.not (.castable "java/lang/UnsupportedOperationException" "java/lang/IllegalArgumentException")) (by decide +kernel))
    · exact va_Nc.of (hs (.not (.castable "java/lang/UnsupportedOperationException" "java/lang/IllegalStateException")) (by decide +kernel))
