/-! new arrays, copies of arrays; Arrays.copyOf of the tape -/
theorem ga_arrB : Cond.arrayClass .byte ∈ ga_T := ga_tb (i := 39) (by decide +kernel) rfl
theorem ga_arrI : Cond.arrayClass .int ∈ ga_T := ga_tb (i := 79) (by decide +kernel) rfl
theorem ga_arrZ : Cond.arrayClass .boolean ∈ ga_T := ga_tb (i := 639) (by decide +kernel) rfl
theorem ga_arrL : Cond.arrayClass .long ∈ ga_T := ga_tb (i := 780) (by decide +kernel) rfl
section GN
variable {p : Program} {l : Launch} {e : Env} {R : Room} {s : State} {m : MethodId} {args : Array Value} {below : List Frame} {meth : Method} {c : Code} {H : Heap} {locs : List Loc} {cells slots : Nat} {Q : State → Prop}
variable {cc : ByteArray} {pc nL idx : Nat} {ls : Array Slot} {rest : List Value} {K : ga_K} {ws : va_W} {A : Nat → Prop} {own : String} {cA : ClassId} {n : Int32} {N' t0 : Nat}
theorem ga_newB (hC : CallFix p m c cc nL s args ga_T own) (hw : ga_w K ws A s H locs) (ht : K.2.1[t0]? = some (cA, .byte)) (hn : ¬ n < 0) (hN : n.toNatClampNeg = N') (hb9 : N' ≤ 100000) (hcells : cells + 1 ≤ R.cells) (hslots : slots + N' ≤ R.slots) (hdg : decode cc pc = .ok (.newarray .byte, 2))
    (kk : ∀ (q : Nat) (H1 : Heap), ga_w K (ws ++ [(q, .inl (cA, N', .inl (fun _ => 0)))]) A s H1 locs → W p l e R s m args below meth c H1 locs (cells + 1) (slots + N') Q (F0 m (pc + 2) ls (.ref q :: rest))) : W p l e R s m args below meth c H locs cells slots Q (F0 m pc ls (.int n :: rest)) := by
  refine va_newa (atype := .byte) (a0 := (N', .inl (fun _ => 0))) (ty := .byte) hC.1 hC.2.1 (hC.2.2.2.2 _ ga_arrB) rfl hw.2.2.2.1 hw.1 hw.2.1 hw.2.2.1 hw.2.2.2.2.1 (fun _ => rfl) hn hN (by show N' * 1 ≤ _; omega) hcells hslots hdg (fun q c1 H1 h0 h1 h2 h3 => ?_)
  have e1 : s.vm.findClass ("[" ++ FieldType.byte.toString) = some c1 := (h0.2 K.2.1.length (c1, .byte) (by rw [List.getElem?_append_right (Nat.le_refl _), Nat.sub_self]; rfl)).2
  have e2 : s.vm.findClass ("[" ++ FieldType.byte.toString) = some cA := (hw.2.2.2.1.2 t0 _ ht).2
  cases e1.symm.trans e2
  exact kk q H1 ⟨h1, h2, h3, hw.2.2.2⟩
theorem ga_newI (hC : CallFix p m c cc nL s args ga_T own) (hw : ga_w K ws A s H locs) (ht : K.2.1[t0]? = some (cA, .int)) (hn : ¬ n < 0) (hN : n.toNatClampNeg = N') (hb9 : N' ≤ 100000) (hcells : cells + 1 ≤ R.cells) (hslots : slots + N' ≤ R.slots) (hdg : decode cc pc = .ok (.newarray .int, 2))
    (kk : ∀ (q : Nat) (H1 : Heap), ga_w K (ws ++ [(q, .inl (cA, N', .inl (fun _ => 0)))]) A s H1 locs → W p l e R s m args below meth c H1 locs (cells + 1) (slots + N') Q (F0 m (pc + 2) ls (.ref q :: rest))) : W p l e R s m args below meth c H locs cells slots Q (F0 m pc ls (.int n :: rest)) := by
  refine va_newa (atype := .int) (a0 := (N', .inl (fun _ => 0))) (ty := .int) hC.1 hC.2.1 (hC.2.2.2.2 _ ga_arrI) rfl hw.2.2.2.1 hw.1 hw.2.1 hw.2.2.1 hw.2.2.2.2.1 (fun _ => rfl) hn hN (by show N' * 4 ≤ _; omega) hcells hslots hdg (fun q c1 H1 h0 h1 h2 h3 => ?_)
  have e1 : s.vm.findClass ("[" ++ FieldType.int.toString) = some c1 := (h0.2 K.2.1.length (c1, .int) (by rw [List.getElem?_append_right (Nat.le_refl _), Nat.sub_self]; rfl)).2
  have e2 : s.vm.findClass ("[" ++ FieldType.int.toString) = some cA := (hw.2.2.2.1.2 t0 _ ht).2
  cases e1.symm.trans e2
  exact kk q H1 ⟨h1, h2, h3, hw.2.2.2⟩
theorem ga_newZ (hC : CallFix p m c cc nL s args ga_T own) (hw : ga_w K ws A s H locs) (ht : K.2.1[t0]? = some (cA, .boolean)) (hn : ¬ n < 0) (hN : n.toNatClampNeg = N') (hb9 : N' ≤ 100000) (hcells : cells + 1 ≤ R.cells) (hslots : slots + N' ≤ R.slots) (hdg : decode cc pc = .ok (.newarray .boolean, 2))
    (kk : ∀ (q : Nat) (H1 : Heap), ga_w K (ws ++ [(q, .inl (cA, N', .inl (fun _ => 0)))]) A s H1 locs → W p l e R s m args below meth c H1 locs (cells + 1) (slots + N') Q (F0 m (pc + 2) ls (.ref q :: rest))) : W p l e R s m args below meth c H locs cells slots Q (F0 m pc ls (.int n :: rest)) := by
  refine va_newa (atype := .boolean) (a0 := (N', .inl (fun _ => 0))) (ty := .boolean) hC.1 hC.2.1 (hC.2.2.2.2 _ ga_arrZ) rfl hw.2.2.2.1 hw.1 hw.2.1 hw.2.2.1 hw.2.2.2.2.1 (fun _ => rfl) hn hN (by show N' * 1 ≤ _; omega) hcells hslots hdg (fun q c1 H1 h0 h1 h2 h3 => ?_)
  have e1 : s.vm.findClass ("[" ++ FieldType.boolean.toString) = some c1 := (h0.2 K.2.1.length (c1, .boolean) (by rw [List.getElem?_append_right (Nat.le_refl _), Nat.sub_self]; rfl)).2
  have e2 : s.vm.findClass ("[" ++ FieldType.boolean.toString) = some cA := (hw.2.2.2.1.2 t0 _ ht).2
  cases e1.symm.trans e2
  exact kk q H1 ⟨h1, h2, h3, hw.2.2.2⟩
theorem ga_newL (hC : CallFix p m c cc nL s args ga_T own) (hw : ga_w K ws A s H locs) (ht : K.2.1[t0]? = some (cA, .long)) (hn : ¬ n < 0) (hN : n.toNatClampNeg = N') (hb9 : N' ≤ 100000) (hcells : cells + 1 ≤ R.cells) (hslots : slots + N' ≤ R.slots) (hdg : decode cc pc = .ok (.newarray .long, 2))
    (kk : ∀ (q : Nat) (H1 : Heap), ga_w K (ws ++ [(q, .inl (cA, N', .inr (.inl (fun _ => 0))))]) A s H1 locs → W p l e R s m args below meth c H1 locs (cells + 1) (slots + N') Q (F0 m (pc + 2) ls (.ref q :: rest))) : W p l e R s m args below meth c H locs cells slots Q (F0 m pc ls (.int n :: rest)) := by
  refine va_newa (atype := .long) (a0 := (N', .inr (.inl (fun _ => 0)))) (ty := .long) hC.1 hC.2.1 (hC.2.2.2.2 _ ga_arrL) rfl hw.2.2.2.1 hw.1 hw.2.1 hw.2.2.1 hw.2.2.2.2.1 (fun _ => rfl) hn hN (by show N' * 8 ≤ _; omega) hcells hslots hdg (fun q c1 H1 h0 h1 h2 h3 => ?_)
  have e1 : s.vm.findClass ("[" ++ FieldType.long.toString) = some c1 := (h0.2 K.2.1.length (c1, .long) (by rw [List.getElem?_append_right (Nat.le_refl _), Nat.sub_self]; rfl)).2
  have e2 : s.vm.findClass ("[" ++ FieldType.long.toString) = some cA := (hw.2.2.2.1.2 t0 _ ht).2
  cases e1.symm.trans e2
  exact kk q H1 ⟨h1, h2, h3, hw.2.2.2⟩
end GN
theorem d_J_copyOf_0 : decode b_J_copyOf 0 = .ok (.iload_n 1, 1) := by decide +kernel
theorem d_J_copyOf_1 : decode b_J_copyOf 1 = .ok (.aload_n 0, 1) := by decide +kernel
theorem d_J_copyOf_2 : decode b_J_copyOf 2 = .ok (.arraylength, 1) := by decide +kernel
theorem d_J_copyOf_3 : decode b_J_copyOf 3 = .ok (.if_icmp .ne 11, 3) := by decide +kernel
theorem d_J_copyOf_6 : decode b_J_copyOf 6 = .ok (.aload_n 0, 1) := by decide +kernel
theorem d_J_copyOf_7 : decode b_J_copyOf 7 = .ok (.invokevirtual 310, 3) := by decide +kernel
theorem d_J_copyOf_10 : decode b_J_copyOf 10 = .ok (.checkcast 311, 3) := by decide +kernel
theorem d_J_copyOf_13 : decode b_J_copyOf 13 = .ok (.areturn, 1) := by decide +kernel
theorem d_J_copyOf_14 : decode b_J_copyOf 14 = .ok (.iload_n 1, 1) := by decide +kernel
theorem d_J_copyOf_15 : decode b_J_copyOf 15 = .ok (.newarray .byte, 2) := by decide +kernel
theorem d_J_copyOf_17 : decode b_J_copyOf 17 = .ok (.astore_n 2, 1) := by decide +kernel
theorem d_J_copyOf_18 : decode b_J_copyOf 18 = .ok (.aload_n 0, 1) := by decide +kernel
theorem d_J_copyOf_19 : decode b_J_copyOf 19 = .ok (.iconst 0, 1) := by decide +kernel
theorem d_J_copyOf_20 : decode b_J_copyOf 20 = .ok (.aload_n 2, 1) := by decide +kernel
theorem d_J_copyOf_21 : decode b_J_copyOf 21 = .ok (.iconst 0, 1) := by decide +kernel
theorem d_J_copyOf_22 : decode b_J_copyOf 22 = .ok (.aload_n 0, 1) := by decide +kernel
theorem d_J_copyOf_23 : decode b_J_copyOf 23 = .ok (.arraylength, 1) := by decide +kernel
theorem d_J_copyOf_24 : decode b_J_copyOf 24 = .ok (.iload_n 1, 1) := by decide +kernel
theorem d_J_copyOf_25 : decode b_J_copyOf 25 = .ok (.invokestatic 304, 3) := by decide +kernel
theorem d_J_copyOf_28 : decode b_J_copyOf 28 = .ok (.invokestatic 150, 3) := by decide +kernel
theorem d_J_copyOf_31 : decode b_J_copyOf 31 = .ok (.aload_n 2, 1) := by decide +kernel
theorem d_J_copyOf_32 : decode b_J_copyOf 32 = .ok (.areturn, 1) := by decide +kernel
theorem jw_clone : Cond.methodLink "java/util/Arrays" 310 ⟨"[B", "clone", "()Ljava/lang/Object;"⟩ ∈ ga_T := ga_tb (i := 313) (by decide +kernel) rfl
theorem jw_same : Cond.sameMethod "[B" "java/lang/Object" "clone" "()Ljava/lang/Object;" ∈ ga_T := ga_tb (i := 314) (by decide +kernel) rfl
theorem jw_nat : Cond.native ⟨"java/lang/Object", "clone", "()Ljava/lang/Object;"⟩ ∈ ga_T := ga_tb (i := 315) (by decide +kernel) rfl
theorem jw_inst : Cond.instanceMethod ⟨"java/lang/Object", "clone", "()Ljava/lang/Object;"⟩ ∈ ga_T := ga_tb (i := 316) (by decide +kernel) rfl
theorem jw_sel : Cond.selects "[B" ⟨"[B", "clone", "()Ljava/lang/Object;"⟩ ⟨"java/lang/Object", "clone", "()Ljava/lang/Object;"⟩ ∈ ga_T := ga_tb (i := 317) (by decide +kernel) rfl
theorem jw_cl : Cond.classLink "java/util/Arrays" 311 "[B" ∈ ga_T := ga_tb (i := 319) (by decide +kernel) rfl
theorem jw_min : Cond.methodLink "java/util/Arrays" 304 Lib.Math.min.name ∈ ga_T := ga_tb (i := 320) (by decide +kernel) rfl
theorem jw_minS : Cond.static Lib.Math.min.name ∈ ga_T := ga_tb (i := 321) (by decide +kernel) rfl
theorem jw_minC : Cond.code Lib.Math.min.name Lib.Math.min.code 2 (some .int) ∈ ga_T := ga_tb (i := 322) (by decide +kernel) rfl
theorem jw_ac : Cond.methodLink "java/util/Arrays" 150 arraycopyName ∈ ga_T := ga_tb (i := 323) (by decide +kernel) rfl
theorem jw_acS : Cond.static arraycopyName ∈ ga_T := ga_tb (i := 324) (by decide +kernel) rfl
theorem jw_acN : Cond.native arraycopyName ∈ ga_T := ga_tb (i := 325) (by decide +kernel) rfl
theorem jw_iM : Cond.initialized "java/lang/Math" ∈ ga_T := ga_tb (i := 13) (by decide +kernel) rfl
theorem jw_iS : Cond.initialized "java/lang/System" ∈ ga_T := ga_tb (i := 14) (by decide +kernel) rfl
theorem ga_setEnd {w : va_W} {b c : Nat × va_E} : (w ++ [b]).set w.length c = w ++ [c] := by simp
theorem ga_getEnd {w : va_W} {b : Nat × va_E} : (w ++ [b])[w.length]? = some b := by simp
set_option maxHeartbeats 4000000 in
set_option maxRecDepth 100000 in
/-- Arrays.copyOf of the tape's first t bytes: a new row of them in the pool -/
theorem c_J_copyOf (l : Launch) (k : xa_k) (x : XS) (t : Nat) (ht0 : 0 < t) (ht : t ≤ 2048) (hfit : ∀ j, j < 2048 → fits .byte (.int (xa_T x j)) = true) (sz : Nat) : Met l y_J_copyOf (Cond.code y_J_copyOf b_J_copyOf 3 (some (.array .byte)) :: ga_T) ({ frames := 1, cells := 1, slots := 2048, locals := 40 }) (va_Pc [.ref (xa_a k 2), .int (nI t)] (ga_pre (xa_K k) (xa_W k x) sz)) (va_Qq (fun (r : Option Nat) (u : XS) => ∃ a f, a ∉ (xa_P x).1 ∧ r = some a ∧ (∀ j, j < t → f j = xa_T x j) ∧ u = xa_sP x ((xa_P x).1 ++ [a], va_up (xa_P x).2 a (.inl (k.2.1 0, t, .inl f)))) (ga_post (xa_K k) (xa_W k x) sz (xa_W k)) (va_A (xa_W k x) sz)) 1 2048 (va_A (xa_W k x) sz) := by
  refine ga_Met (by decide) (Nat.le_of_ble_eq_true rfl) ?_
  intro p e s m below meth c hC hr hlocks _ hw ls hl
  have hx := hC.1
  have hb := hC.2.1
  have hl : lv_has ls 3 [(0, .ref (xa_a k 2)), (1, .int (nI t))] := hl
  have hnB : s.vm.findClass "[B" = some (k.2.1 0) := (hw.2.2.2.1.2 0 (k.2.1 0, .byte) rfl).2
  refine lv_iload_n hx hb d_J_copyOf_0 rfl (lv_at hl 1 rfl) ?_
  refine lv_aload_n hx hb d_J_copyOf_1 rfl (lv_at hl 0 rfl) ?_
  refine ga_alen (w := nI 2048) hC hw 2 0 rfl rfl rfl d_J_copyOf_2 ?_
  refine lv_icmp_ne (tgt := 14) hx hb d_J_copyOf_3 (by decide) (fun c_3 => ?_) (fun c_3 => ?_)
  · have hlt : t < 2048 := by
      rcases Nat.lt_or_ge t 2048 with h | h
      · exact h
      · exact absurd (by rw [Nat.le_antisymm ht h]) c_3
    refine lv_iload_n hx hb d_J_copyOf_14 rfl (lv_at hl 1 rfl) ?_
    refine ga_newB (n := nI t) (N' := t) (t0 := 0) (cA := k.2.1 0) hC hw rfl (nI_pos (by omega)) (nI_clamp (by omega)) (by omega) (Nat.le_of_ble_eq_true rfl) (by show 0 + t ≤ 2048; omega) d_J_copyOf_15 (fun a H hw => ?_)
    refine lv_astore_n (lv' := [(2, .ref a), (0, .ref (xa_a k 2)), (1, .int (nI t))]) hx hb d_J_copyOf_17 rfl hl (by decide) rfl (fun ls hl => ?_)
    refine lv_aload_n hx hb d_J_copyOf_18 rfl (lv_at hl 1 rfl) ?_
    refine lv_iconst (v := 0) hx hb d_J_copyOf_19 (by decide) ?_
    refine lv_aload_n hx hb d_J_copyOf_20 rfl (lv_at hl 0 rfl) ?_
    refine lv_iconst (v := 0) hx hb d_J_copyOf_21 (by decide) ?_
    refine lv_aload_n hx hb d_J_copyOf_22 rfl (lv_at hl 1 rfl) ?_
    refine ga_alen (w := nI 2048) hC hw 2 0 rfl rfl rfl d_J_copyOf_23 ?_
    refine lv_iload_n hx hb d_J_copyOf_24 rfl (lv_at hl 2 rfl) ?_
    refine va_mmin hx hb (by rw [hC.2.2.1]; exact hl.1.symm) hC.2.2.2.1 (hC.2.2.2.2 _ jw_min) (hC.2.2.2.2 _ jw_minS) (hC.2.2.2.2 _ jw_iM) (hC.2.2.2.2 _ jw_minC) (Nat.le_of_ble_eq_true rfl) (Nat.le_of_ble_eq_true rfl) (Nat.le_of_ble_eq_true rfl) (by show 0 + t ≤ 2048; omega) d_J_copyOf_25 ?_
    refine ga_asi (v := nI t) (if_pos (nI_lt hlt (by decide))) ?_
    refine va_copyi hx hb (by rw [hC.2.2.1]; exact hl.1.symm) hC.2.2.2.1 (hC.2.2.2.2 _ jw_ac) (hC.2.2.2.2 _ jw_acN) (hC.2.2.2.2 _ jw_acS) (hC.2.2.2.2 _ jw_iS) hw.2.2.2.1 hw.1 hw.2.1 hw.2.2.1 2 (xa_W k x).length 0 0 (ty := .byte) (f := xa_T x) (g := fun _ => 0) (n0 := 2048) (n1 := t) (c0 := k.2.1 0) (c1 := k.2.1 0) rfl ga_getEnd rfl rfl rfl (by decide) (by decide) (nI_pos (by omega)) (by rw [nI_clamp (by omega)]; show 0 + t ≤ 2048; omega) (by rw [nI_clamp (by omega)]; show 0 + t ≤ t; omega) (fun i hi => ?_) (Nat.le_of_ble_eq_true rfl) (Nat.le_of_ble_eq_true rfl) d_J_copyOf_28 (fun H locs hP hD hS => ?_)
    · rw [nI_clamp (by omega)] at hi
      exact hfit _ (by show 0 + i < 2048; omega)
    rw [ga_setEnd] at hP hD
    have hw : ga_w (xa_K k) (xa_W k x ++ [(a, .inl (k.2.1 0, t, .inl (va_cpy (xa_T x) (fun _ => 0) (0 : Int32).toNatClampNeg (0 : Int32).toNatClampNeg (nI t).toNatClampNeg)))]) (va_A (xa_W k x) sz) s H locs := ⟨hP, hD, hS, hw.2.2.2⟩
    obtain ⟨hfr, hw⟩ := xa_absorb hw
    refine lv_aload_n hx hb d_J_copyOf_31 rfl (lv_at hl 0 rfl) ?_
    refine ga_qret (v := some a) (u := xa_sP x ((xa_P x).1 ++ [a], va_up (xa_P x).2 a (.inl (k.2.1 0, t, .inl (va_cpy (xa_T x) (fun _ => 0) (0 : Int32).toNatClampNeg (0 : Int32).toNatClampNeg (nI t).toNatClampNeg))))) hC hr (Or.inr ⟨_, rfl⟩) hlocks hw ⟨a, _, hfr, rfl, fun j hj => ?_, rfl⟩ (Nat.le_of_ble_eq_true rfl) (by show 0 + t ≤ 2048; omega) d_J_copyOf_32
    rw [nI_clamp (by omega)]
    exact sb_cpy0 hj
  · have e2 : t = 2048 := (nI_eq (by omega) (by decide)).mp c_3
    subst e2
    refine lv_aload_n hx hb d_J_copyOf_6 rfl (lv_at hl 0 rfl) ?_
    refine va_clone hx hb (by rw [hC.2.2.1]; exact hl.1.symm) hC.2.2.2.1 (hC.2.2.2.2 _ jw_clone) (hC.2.2.2.2 _ jw_same) (hC.2.2.2.2 _ jw_nat) (hC.2.2.2.2 _ jw_inst) (hC.2.2.2.2 _ jw_sel) (hw.2.2.2.2.2.1.2.2.2.2.1 _ (by decide +kernel)) hw.2.2.2.1 hw.1 hw.2.1 hw.2.2.1 hw.2.2.2.2.1 2 0 (cA := k.2.1 0) (x := (2048, .inl (xa_T x))) (ty := .byte) rfl rfl hnB (fun i v hv => ?_) (Nat.le_of_ble_eq_true rfl) (Nat.le_of_ble_eq_true rfl) (Nat.le_of_ble_eq_true rfl) (Nat.le_of_ble_eq_true rfl) d_J_copyOf_7 (fun a H _ hP hD hS => ?_)
    · have hi : i < 2048 := by
        have h9 := (Array.getElem?_eq_some_iff.mp hv).1
        rw [vp_cell_i, arrV_size] at h9
        exact h9
      rw [vp_cell_i, arrV_read _ _ hi] at hv
      cases hv
      exact hfit i hi
    have hw : ga_w (xa_K k) (xa_W k x ++ [(a, .inl (k.2.1 0, 2048, .inl (xa_T x)))]) (va_A (xa_W k x) sz) s H [] := ⟨hP, hD, hS, hw.2.2.2⟩
    refine va_castA hx hb hC.2.2.2.1 (hC.2.2.2.2 _ jw_cl) hw.1 (xa_W k x).length ga_getEnd hnB d_J_copyOf_10 ?_
    obtain ⟨hfr, hw⟩ := xa_absorb hw
    exact ga_qret (v := some a) (u := xa_sP x ((xa_P x).1 ++ [a], va_up (xa_P x).2 a (.inl (k.2.1 0, 2048, .inl (xa_T x))))) hC hr (Or.inr ⟨_, rfl⟩) hlocks hw ⟨a, _, hfr, rfl, fun j hj => rfl, rfl⟩ (Nat.le_of_ble_eq_true rfl) (Nat.le_of_ble_eq_true rfl) d_J_copyOf_13
