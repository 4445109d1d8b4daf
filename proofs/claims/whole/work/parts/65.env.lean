/-! what holds at the law's entry beside the good words -/
theorem la_arrO {args : Array Value} {s : State} {C : String} (h : (Cond.arrayOver (.object C)).before args s = true) : ∃ cA, ArrOfT s cA (.object C) ∧ va_RA s cA (.object C) := by
  obtain ⟨comp, cA, kA, h1, -, h2, h3, h4⟩ := Cond.arrayOver_spec h
  exact ⟨cA, fun n z => ⟨fun k h => (by cases h), kA, h2, comp, h3⟩, kA, comp, h2, h3, h1, h4⟩
theorem la_arrB {args : Array Value} {s : State} (h : (Cond.arrayClass .byte).before args s = true) : ∃ cA, ArrOfT s cA .byte ∧ va_RA s cA .byte := by
  obtain ⟨cA, kA, comp, h1, h2, h3⟩ := Cond.arrayClass_spec h
  exact ⟨cA, fun n z => ⟨fun k h => (by cases h), kA, h2, comp, h3⟩, h1⟩
theorem la_arrI {args : Array Value} {s : State} (h : (Cond.arrayClass .int).before args s = true) : ∃ cA, ArrOfT s cA .int ∧ va_RA s cA .int := by
  obtain ⟨cA, kA, comp, h1, h2, h3⟩ := Cond.arrayClass_spec h
  exact ⟨cA, fun n z => ⟨fun k h => (by cases h), kA, h2, comp, h3⟩, h1⟩
theorem la_arrZ {args : Array Value} {s : State} (h : (Cond.arrayClass .boolean).before args s = true) : ∃ cA, ArrOfT s cA .boolean ∧ va_RA s cA .boolean := by
  obtain ⟨cA, kA, comp, h1, h2, h3⟩ := Cond.arrayClass_spec h
  exact ⟨cA, fun n z => ⟨fun k h => (by cases h), kA, h2, comp, h3⟩, h1⟩
theorem la_arrL {args : Array Value} {s : State} (h : (Cond.arrayClass .long).before args s = true) : ∃ cA, ArrOfT s cA .long ∧ va_RA s cA .long := by
  obtain ⟨cA, kA, comp, h1, h2, h3⟩ := Cond.arrayClass_spec h
  exact ⟨cA, fun n z => ⟨fun k h => (by cases h), kA, h2, comp, h3⟩, h1⟩
theorem la_str {args : Array Value} {s : State} {own tx : String} {k : Nat} (h1 : (Cond.stringRef own k tx).before args s = true) (h2 : (Cond.exactly (.string own k) "java/lang/String").before args s = true) : ∃ a, vk_R own k tx a s := by
  obtain ⟨a, c, cell, kk, e, -⟩ := Cond.exactly_spec h2
  exact ⟨a, vk_R.of h1 e⟩
theorem la_strT : ∀ q ∈ ga_S, Cond.stringRef q.1 q.2.1 q.2.2 ∈ lw_tbl := by decide +kernel
theorem la_strF : ∀ q ∈ ga_S, Cond.exactly (.string q.1 q.2.1) "java/lang/String" ∈ flatC (Jvm.Cond.and given_1 narrow_1) := by decide +kernel
theorem la_NT : ∀ w ∈ ga_N, w ∈ lw_tbl := by decide +kernel
theorem la_ao : Cond.arrayOver (.object "NetWires$Event") ∈ lw_tbl := by decide +kernel
theorem la_nc1 : Cond.not (.castable ga_ISE ga_IAE) ∈ flatC (Jvm.Cond.and given_1 narrow_1) := by decide +kernel
theorem la_nc2 : Cond.not (.castable ga_IAE ga_IOB) ∈ flatC (Jvm.Cond.and given_1 narrow_1) := by decide +kernel
theorem la_nb1 : Cond.arrayOf (.static "NetWires" "NO_BYTES" "[B") .byte ∈ flatC (Jvm.Cond.and given_1 narrow_1) := by decide +kernel
theorem la_nb2 : Cond.eq (.length (.static "NetWires" "NO_BYTES" "[B")) (.int 0) ∈ flatC (Jvm.Cond.and given_1 narrow_1) := by decide +kernel
theorem la_nb3 : Cond.laysStatic "NetWires" "NO_BYTES" "[B" ∈ lw_tbl := by decide +kernel
theorem la_th1 : Cond.laysStatic Bundle.tN "UNASSIGNED_STACK" Bundle.steD ∈ lw_tbl := by decide +kernel
theorem la_th2 : Cond.laysStatic Bundle.tN "SUPPRESSED_SENTINEL" Bundle.listD ∈ lw_tbl := by decide +kernel
theorem la_th3 : Cond.initialized Bundle.tN ∈ lw_tbl := by decide +kernel
theorem la_th4 : Cond.isRef (.static Bundle.tN "UNASSIGNED_STACK" Bundle.steD) ∈ flatC (Jvm.Cond.and given_1 narrow_1) := by decide +kernel
theorem la_th5 : Cond.isRef (.static Bundle.tN "SUPPRESSED_SENTINEL" Bundle.listD) ∈ flatC (Jvm.Cond.and given_1 narrow_1) := by decide +kernel
theorem la_stat {s : State} {b : Nat} (hts : ∀ w ∈ lw_tbl, w.before #[Value.ref b] s = true) (hgv : (Jvm.Cond.and given_1 narrow_1).before #[Value.ref b] s = true) : ∃ nb, ga_stat nb (fun q : Nat => s.heap.size ≤ q) s s.heap := by
  have hF := flat_of_before _ hgv
  have hA : ∀ a : Nat, a < s.heap.size → ¬ (fun q : Nat => s.heap.size ≤ q) a := fun a h => Nat.not_le.mpr h
  obtain ⟨nb, e1, hT⟩ := va_Tof (N := 0) (f := fun _ => .int 0) (A := fun q : Nat => s.heap.size ≤ q) (by decide) (hF _ la_nb1) (va_eqt (hF _ la_nb2)) (fun j hj => absurd hj (Nat.not_lt_zero j)) hA
  refine ⟨nb, va_Zof (hts _ la_nb3) (hts _ (List.mem_filter.mp ini_NetWires).1) e1 hA, hT, vx_Zqof (hts _ la_th1) (hts _ la_th3) (hF _ la_th4) hA, vx_Zqof (hts _ la_th2) (hts _ la_th3) (hF _ la_th5) hA, ?_, ?_, ⟨va_Nc.of (hF _ la_nc1), va_Nc.of (hF _ la_nc2)⟩, va_AO.of (hts _ la_ao)⟩
  · exact fun w hw => va_Nw.of (ga_N_tab hw) (hts w (la_NT w hw))
  · exact fun q hq => la_str (hts _ (la_strT q hq)) (hF _ (la_strF q hq))
theorem la_cls {s : State} {b : Nat} (hT : ∀ w ∈ ga_T, w.before #[Value.ref b] s = true) : ∃ (dC : Nat → ClassId) (dI : Nat → Nat → Nat), ∀ (k : Nat) (q : vw_C), classes[k]? = some q → u_Kn s q.1 q.2.1 q.2.2 (dC k) (dI k) := by
  obtain ⟨c0, i0, h0⟩ := u_known (C := R_NetWires) (T := F_NetWires) (N := 12) (n := 12) hT i_NetWires (hT _ in_NetWires)
  obtain ⟨c1, i1, h1⟩ := u_known (C := R_Tape) (T := F_Tape) (N := 2) (n := 2) hT i_Tape (hT _ in_Tape)
  obtain ⟨c2, i2, h2⟩ := u_known (C := R_Agenda) (T := F_Agenda) (N := 3) (n := 3) hT i_Agenda (hT _ in_Agenda)
  obtain ⟨c3, i3, h3⟩ := u_known (C := R_History) (T := F_History) (N := 4) (n := 4) hT i_History (hT _ in_History)
  obtain ⟨c4, i4, h4⟩ := u_known (C := R_Noise) (T := F_Noise) (N := 4) (n := 4) hT i_Noise (hT _ in_Noise)
  obtain ⟨c5, i5, h5⟩ := u_known (C := R_Event) (T := F_Event) (N := 6) (n := 6) hT i_Event (hT _ in_Event)
  obtain ⟨c6, i6, h6⟩ := u_known (C := R_M) (T := F_M) (N := 28) (n := 28) hT i_M (hT _ in_M)
  refine ⟨fun k => match k with | 0 => c0 | 1 => c1 | 2 => c2 | 3 => c3 | 4 => c4 | 5 => c5 | _ => c6, fun k => match k with | 0 => i0 | 1 => i1 | 2 => i2 | 3 => i3 | 4 => i4 | 5 => i5 | _ => i6, ?_⟩
  intro k q hq
  match k, hq with
  | 0, hq => cases hq; exact h0
  | 1, hq => cases hq; exact h1
  | 2, hq => cases hq; exact h2
  | 3, hq => cases hq; exact h3
  | 4, hq => cases hq; exact h4
  | 5, hq => cases hq; exact h5
  | 6, hq => cases hq; exact h6
  | k + 7, hq => simp [classes] at hq
theorem la_env {s : State} {b : Nat} (hts : ∀ w ∈ lw_tbl, w.before #[Value.ref b] s = true) (hgv : (Jvm.Cond.and given_1 narrow_1).before #[Value.ref b] s = true) : ∃ k : xa_k, ga_w (xa_K k) [] (fun q : Nat => s.heap.size ≤ q) s s.heap [] := by
  have hT : ∀ w ∈ ga_T, w.before #[Value.ref b] s = true := fun w hw => hts w (List.mem_filter.mp hw).1
  obtain ⟨nb, hS⟩ := la_stat hts hgv
  obtain ⟨dC, dI, hK⟩ := la_cls hT
  obtain ⟨t0, h0⟩ := la_arrB (hT _ ga_arrB)
  obtain ⟨t1, h1⟩ := la_arrI (hT _ ga_arrI)
  obtain ⟨t2, h2⟩ := la_arrO (hts _ la_ao)
  obtain ⟨t3, h3⟩ := la_arrZ (hT _ ga_arrZ)
  obtain ⟨t4, h4⟩ := la_arrL (hT _ ga_arrL)
  refine ⟨((dC, dI), fun j => match j with | 0 => t0 | 1 => t1 | 2 => t2 | 3 => t3 | _ => t4, fun _ => nb), fun k q h => by simp at h, ⟨fun i j p q h => by simp at h, fun k q h => by simp at h⟩, va_S.rf, ⟨hK, ?_⟩, fun _ h => h, hS, ga_stat_ok nb⟩
  intro k q hq
  match k, hq with
  | 0, hq =>
    have hq2 : some (t0, (FieldType.byte : FieldType)) = some q := hq
    cases hq2
    exact h0
  | 1, hq =>
    have hq2 : some (t1, (FieldType.int : FieldType)) = some q := hq
    cases hq2
    exact h1
  | 2, hq =>
    have hq2 : some (t2, (FieldType.object "NetWires$Event" : FieldType)) = some q := hq
    cases hq2
    exact h2
  | 3, hq =>
    have hq2 : some (t3, (FieldType.boolean : FieldType)) = some q := hq
    cases hq2
    exact h3
  | 4, hq =>
    have hq2 : some (t4, (FieldType.long : FieldType)) = some q := hq
    cases hq2
    exact h4
  | k + 5, hq => exact absurd (List.getElem?_eq_some_iff.mp hq).1 (by show ¬ (k + 5 < 5); omega)
