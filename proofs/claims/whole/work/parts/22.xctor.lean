theorem ga_newE {p : Program} {l : Launch} {e : Env} {R : Room} {s : State} {m : MethodId} {args : Array Value} {below : List Frame} {meth : Method} {c : Code} {H : Heap} {locs : List Loc} {cells slots : Nat} {Q : State → Prop} {cc : ByteArray} {pc nL idx : Nat} {ls : Array Slot} {rest : List Value} {D : va_G} {tys : List (ClassId × FieldType)} {nb : Nat} {ws : va_W} {A : Nat → Prop} {own : String} {cA : ClassId} {n : Int32} {N' t0 : Nat} (hC : CallFix p m c cc nL s args ga_T own) (hw : ga_w (D, tys, ga_stat nb) ws A s H locs) (ht : tys[t0]? = some (cA, .object "NetWires$Event")) (hk : Cond.classLink own idx "NetWires$Event" ∈ ga_T) (hn : ¬ n < 0) (hN : n.toNatClampNeg = N') (hb9 : N' ≤ 100000) (hcells : cells + 1 ≤ R.cells) (hslots : slots + N' ≤ R.slots) (hdg : decode cc pc = .ok (.anewarray idx, 3))
    (kk : ∀ (q : Nat) (H1 : Heap), ga_w (D, tys, ga_stat nb) (ws ++ [(q, .inl (cA, N', .inr (.inr (.inr (.inr (fun _ => none))))))]) A s H1 locs → W p l e R s m args below meth c H1 locs (cells + 1) (slots + N') Q (F0 m (pc + 3) ls (.ref q :: rest))) : W p l e R s m args below meth c H locs cells slots Q (F0 m pc ls (.int n :: rest)) := by
  have hSt : ga_stat nb A s s.heap := hw.2.2.2.2.2.1
  refine va_newq hC.1 hC.2.1 hC.2.2.2.1 (hC.2.2.2.2 _ hk) hSt.2.2.2.2.2.2.2 hw.2.2.2.1 hw.1 hw.2.1 hw.2.2.1 hw.2.2.2.2.1 hn hN (by omega) hcells hslots hdg (fun q c1 H1 h0 h1 h2 h3 => ?_)
  obtain ⟨kA, comp, -, -, -, e1⟩ := (h0.2 tys.length (c1, .object "NetWires$Event") (by rw [List.getElem?_append_right (Nat.le_refl _), Nat.sub_self]; rfl)).2
  obtain ⟨kB, compB, -, -, -, e2⟩ := (hw.2.2.2.1.2 t0 _ ht).2
  cases e1.symm.trans e2
  exact kk q H1 ⟨h1, h2, h3, hw.2.2.2⟩
theorem d_J_fill_0 : decode b_J_fill 0 = .ok (.iconst 0, 1) := by decide +kernel
theorem d_J_fill_1 : decode b_J_fill 1 = .ok (.istore_n 2, 1) := by decide +kernel
theorem d_J_fill_2 : decode b_J_fill 2 = .ok (.aload_n 0, 1) := by decide +kernel
theorem d_J_fill_3 : decode b_J_fill 3 = .ok (.arraylength, 1) := by decide +kernel
theorem d_J_fill_4 : decode b_J_fill 4 = .ok (.istore_n 3, 1) := by decide +kernel
theorem d_J_fill_5 : decode b_J_fill 5 = .ok (.iload_n 2, 1) := by decide +kernel
theorem d_J_fill_6 : decode b_J_fill 6 = .ok (.iload_n 3, 1) := by decide +kernel
theorem d_J_fill_7 : decode b_J_fill 7 = .ok (.if_icmp .ge 13, 3) := by decide +kernel
theorem d_J_fill_10 : decode b_J_fill 10 = .ok (.aload_n 0, 1) := by decide +kernel
theorem d_J_fill_11 : decode b_J_fill 11 = .ok (.iload_n 2, 1) := by decide +kernel
theorem d_J_fill_12 : decode b_J_fill 12 = .ok (.iload_n 1, 1) := by decide +kernel
theorem d_J_fill_13 : decode b_J_fill 13 = .ok (.iastore, 1) := by decide +kernel
theorem d_J_fill_14 : decode b_J_fill 14 = .ok (.iinc 2 1, 3) := by decide +kernel
theorem d_J_fill_17 : decode b_J_fill 17 = .ok (.goto (-12), 3) := by decide +kernel
theorem d_J_fill_20 : decode b_J_fill 20 = .ok (.return_, 1) := by decide +kernel
set_option maxHeartbeats 4000000 in
set_option maxRecDepth 100000 in
theorem lp_J_fill {p : Program} {l : Launch} {e : Env} {s : State} {m : MethodId} {args : Array Value} {below : List Frame} {meth : Method} {c : Code} {k : xa_k} {q sz : Nat} {v : Int32} {f0 : Nat → Int32} (hC : CallFix p m c b_J_fill 4 s args ga_T "java/util/Arrays") (hr : meth.sig.returnType = none) (hlocks : meth.locks = false) :
    ∀ (d i : Nat) (f : Nat → Int32) (H : Heap) (locs : List Loc) (ls : Array Slot), d + i = 256 → (∀ j, j < i → f j = v) → ga_w (xa_K k) [(q, .inl (k.2.1 1, 256, .inl f))] (va_A [(q, .inl (k.2.1 1, 256, .inl f0))] sz) s H locs → lv_has ls 4 [(2, .int (nI i)), (3, .int (nI 256)), (0, .ref q), (1, .int v)] →
      W p l e ({ frames := 0, cells := 0, slots := 0, locals := 0 }) s m args below meth c H locs 0 0 (MQ below (va_Qv (fun (g : Nat → Int32) => ∀ j, j < 256 → g j = v) (ga_post (xa_K k) [(q, .inl (k.2.1 1, 256, .inl f0))] sz (fun g => [(q, .inl (k.2.1 1, 256, .inl g))])) (va_A [(q, .inl (k.2.1 1, 256, .inl f0))] sz)) args s 0 0 (va_A [(q, .inl (k.2.1 1, 256, .inl f0))] sz)) (F0 m 5 ls []) := by
  have hx := hC.1
  have hb := hC.2.1
  intro d
  induction d with
  | zero =>
    intro i f H locs ls hd hf hw hl
    have e : i = 256 := by omega
    subst e
    refine lv_iload_n hx hb d_J_fill_5 rfl (lv_at hl 0 rfl) ?_
    refine lv_iload_n hx hb d_J_fill_6 rfl (lv_at hl 1 rfl) ?_
    refine lv_icmp_ge (tgt := 20) hx hb d_J_fill_7 (by decide) (fun c_7 => ?_) (fun c_7 => ?_)
    · exact ga_vret (u := f) hC hr hlocks hw hf (Nat.le_of_ble_eq_true rfl) (Nat.le_of_ble_eq_true rfl) d_J_fill_20
    · exact absurd (Int32.le_refl _) c_7
  | succ d ih =>
    intro i f H locs ls hd hf hw hl
    refine lv_iload_n hx hb d_J_fill_5 rfl (lv_at hl 0 rfl) ?_
    refine lv_iload_n hx hb d_J_fill_6 rfl (lv_at hl 1 rfl) ?_
    refine lv_icmp_ge (tgt := 20) hx hb d_J_fill_7 (by decide) (fun c_7 => ?_) (fun c_7 => ?_)
    · exact absurd c_7 (nI_ge (by omega) (by decide))
    · refine lv_aload_n hx hb d_J_fill_10 rfl (lv_at hl 2 rfl) ?_
      refine lv_iload_n hx hb d_J_fill_11 rfl (lv_at hl 0 rfl) ?_
      refine lv_iload_n hx hb d_J_fill_12 rfl (lv_at hl 3 rfl) ?_
      refine ga_iast hC hw 0 1 rfl rfl (vp_in_nI (by omega) (by decide)) d_J_fill_13 (fun H locs hw => ?_)
      have hw : ga_w (xa_K k) [(q, .inl (k.2.1 1, 256, .inl (upd f (nI i).toNatClampNeg v)))] (va_A [(q, .inl (k.2.1 1, 256, .inl f0))] sz) s H locs := hw
      refine lv_iinc (v := nI (i + 1)) (lv' := [(2, .int (nI (i + 1))), (3, .int (nI 256)), (0, .ref q), (1, .int v)]) hx hb d_J_fill_14 hl (k := 0) rfl (nI_1 i) (by decide) rfl (fun ls hl => ?_)
      refine lv_goto (tgt := 5) hx hb d_J_fill_17 (by decide) ?_
      refine ih (i + 1) _ H locs ls (by omega) (fun j hj => ?_) hw hl
      rw [nI_clamp (by omega)]
      by_cases h : j = i
      · subst h; exact pk_us
      · rw [pk_un h]; exact hf j (by omega)
set_option maxHeartbeats 4000000 in
set_option maxRecDepth 100000 in
theorem c_J_fill (l : Launch) (k : xa_k) (q : Nat) (v : Int32) (f0 : Nat → Int32) (sz : Nat) : Met l y_J_fill (Cond.code y_J_fill b_J_fill 4 none :: ga_T) ({ frames := 0, cells := 0, slots := 0, locals := 0 }) (va_Pc [.ref q, .int v] (ga_pre (xa_K k) [(q, .inl (k.2.1 1, 256, .inl f0))] sz)) (va_Qv (fun (g : Nat → Int32) => ∀ j, j < 256 → g j = v) (ga_post (xa_K k) [(q, .inl (k.2.1 1, 256, .inl f0))] sz (fun g => [(q, .inl (k.2.1 1, 256, .inl g))])) (va_A [(q, .inl (k.2.1 1, 256, .inl f0))] sz)) 0 0 (va_A [(q, .inl (k.2.1 1, 256, .inl f0))] sz) := by
  refine ga_Met (by decide) (Nat.le_of_ble_eq_true rfl) ?_
  intro p e s m below meth c hC hr hlocks hin hw ls hl
  have hx := hC.1
  have hb := hC.2.1
  have hl : lv_has ls 4 [(0, .ref q), (1, .int v)] := hl
  refine lv_iconst (v := 0) hx hb d_J_fill_0 (by decide) ?_
  refine lv_istore_n (lv' := [(2, .int 0), (0, .ref q), (1, .int v)]) hx hb d_J_fill_1 rfl hl (by decide) rfl (fun ls hl => ?_)
  refine lv_aload_n hx hb d_J_fill_2 rfl (lv_at hl 1 rfl) ?_
  refine ga_alen (w := nI 256) hC hw 0 1 rfl rfl rfl d_J_fill_3 ?_
  refine lv_istore_n (lv' := [(3, .int (nI 256)), (2, .int 0), (0, .ref q), (1, .int v)]) hx hb d_J_fill_4 rfl hl (by decide) rfl (fun ls hl => ?_)
  exact lp_J_fill hC hr hlocks 256 0 f0 s.heap [] ls rfl (fun j h => absurd h (Nat.not_lt_zero j)) hw (lv_sub hl [1, 0, 2, 3] rfl)
set_option maxHeartbeats 4000000 in
set_option maxRecDepth 100000 in
theorem c_Tape_init (l : Launch) (k : xa_k) (h0 : Nat) (sz : Nat) : Met l y_Tape_init (Cond.code y_Tape_init b_Tape_init 1 none :: ga_T) ({ frames := 1, cells := 1, slots := 2048, locals := 12 }) (va_Pc [.ref h0] (ga_pre (xa_K k) [(h0, .inr (1, [.null, .int 0]))] sz)) (va_Qv (fun (u : Nat) => True) (ga_post (xa_K k) [(h0, .inr (1, [.null, .int 0]))] sz (fun q => [(h0, .inr (1, [.ref q, .int 0])), (q, .inl (k.2.1 0, 2048, .inl (fun _ => 0)))])) (va_A [(h0, .inr (1, [.null, .int 0]))] sz)) 1 2048 (va_A [(h0, .inr (1, [.null, .int 0]))] sz) := by
  refine ga_Met (by decide) (Nat.le_of_ble_eq_true rfl) ?_
  intro p e s m below meth c hC hr hlocks hin hw ls hl
  have hx := hC.1
  have hb := hC.2.1
  have hl : lv_has ls 1 [(0, .ref h0)] := hl
  refine lv_aload_n hx hb d_Tape_init_0 rfl (lv_at hl 0 rfl) ?_
  refine W.objInit hx hb hC.2.2.2.1 (hC.2.2.2.2 _ ml_Tape_3) (hC.2.2.2.2 _ in_objectInit) (hC.2.2.2.2 _ co_objectInit) rfl (by rw [hC.2.2.1]; exact hl.1) rfl d_Tape_init_1 (Nat.le_of_ble_eq_true rfl) (Nat.le_of_ble_eq_true rfl) ?_
  refine W.eq (g2 := F0 m 4 ls []) rfl ?_
  refine lv_aload_n hx hb d_Tape_init_4 rfl (lv_at hl 0 rfl) ?_
  refine lv_sipush (v := 2048) hx hb d_Tape_init_5 (by decide) ?_
  refine ga_newB (N' := 2048) (t0 := 0) (cA := k.2.1 0) hC hw rfl (by decide) (by decide) (by decide) (Nat.le_of_ble_eq_true rfl) (Nat.le_of_ble_eq_true rfl) d_Tape_init_8 (fun q H hw => ?_)
  have hw : ga_w (xa_K k) [(h0, .inr (1, [.null, .int 0])), (q, .inl (k.2.1 0, 2048, .inl (fun _ => 0)))] (va_A [(h0, .inr (1, [.null, .int 0]))] sz) s H [] := hw
  refine ga_putF (ty := .array .byte) hC hin hw cl_Tape 0 rfl 0 (by decide) fl_Tape_9 rfl rfl (by decide +kernel) rfl rfl (Nat.le_of_ble_eq_true rfl) d_Tape_init_10 (fun H locs hw => ?_)
  have hw : ga_w (xa_K k) [(h0, .inr (1, [.ref q, .int 0])), (q, .inl (k.2.1 0, 2048, .inl (fun _ => 0)))] (va_A [(h0, .inr (1, [.null, .int 0]))] sz) s H locs := hw
  refine lv_aload_n hx hb d_Tape_init_13 rfl (lv_at hl 0 rfl) ?_
  refine lv_iconst (v := 0) hx hb d_Tape_init_14 (by decide) ?_
  refine ga_put (ty := .int) hC hw cl_Tape 0 rfl 1 (by decide) fl_Tape_15 rfl (by decide +kernel) rfl rfl (Nat.le_of_ble_eq_true rfl) d_Tape_init_15 (fun H locs hw => ?_)
  have hw : ga_w (xa_K k) [(h0, .inr (1, [.ref q, .int 0])), (q, .inl (k.2.1 0, 2048, .inl (fun _ => 0)))] (va_A [(h0, .inr (1, [.null, .int 0]))] sz) s H locs := hw
  exact ga_vret (u := q) hC hr hlocks hw trivial (Nat.le_of_ble_eq_true rfl) (Nat.le_of_ble_eq_true rfl) d_Tape_init_18
set_option maxHeartbeats 4000000 in
set_option maxRecDepth 100000 in
theorem c_Agenda_init (l : Launch) (k : xa_k) (h0 : Nat) (sz : Nat) : Met l y_Agenda_init (Cond.code y_Agenda_init b_Agenda_init 1 none :: ga_T) ({ frames := 1, cells := 1, slots := 232, locals := 12 }) (va_Pc [.ref h0] (ga_pre (xa_K k) [(h0, .inr (2, [.null, .int 0, .int 0]))] sz)) (va_Qv (fun (u : Nat) => True) (ga_post (xa_K k) [(h0, .inr (2, [.null, .int 0, .int 0]))] sz (fun q => [(h0, .inr (2, [.ref q, .int 0, .int 0])), (q, .inl (k.2.1 2, 232, .inr (.inr (.inr (.inr (fun _ => none))))))])) (va_A [(h0, .inr (2, [.null, .int 0, .int 0]))] sz)) 1 232 (va_A [(h0, .inr (2, [.null, .int 0, .int 0]))] sz) := by
  refine ga_Met (by decide) (Nat.le_of_ble_eq_true rfl) ?_
  intro p e s m below meth c hC hr hlocks hin hw ls hl
  have hx := hC.1
  have hb := hC.2.1
  have hl : lv_has ls 1 [(0, .ref h0)] := hl
  refine lv_aload_n hx hb d_Agenda_init_0 rfl (lv_at hl 0 rfl) ?_
  refine W.objInit hx hb hC.2.2.2.1 (hC.2.2.2.2 _ ml_Agenda_3) (hC.2.2.2.2 _ in_objectInit) (hC.2.2.2.2 _ co_objectInit) rfl (by rw [hC.2.2.1]; exact hl.1) rfl d_Agenda_init_1 (Nat.le_of_ble_eq_true rfl) (Nat.le_of_ble_eq_true rfl) ?_
  refine W.eq (g2 := F0 m 4 ls []) rfl ?_
  refine lv_aload_n hx hb d_Agenda_init_4 rfl (lv_at hl 0 rfl) ?_
  refine lv_sipush (v := 232) hx hb d_Agenda_init_5 (by decide) ?_
  refine ga_newE (N' := 232) (t0 := 2) (cA := k.2.1 2) hC hw rfl kl_Agenda_9 (by decide) (by decide) (by decide) (Nat.le_of_ble_eq_true rfl) (Nat.le_of_ble_eq_true rfl) d_Agenda_init_8 (fun q H hw => ?_)
  have hw : ga_w (xa_K k) [(h0, .inr (2, [.null, .int 0, .int 0])), (q, .inl (k.2.1 2, 232, .inr (.inr (.inr (.inr (fun _ => none))))))] (va_A [(h0, .inr (2, [.null, .int 0, .int 0]))] sz) s H [] := hw
  refine ga_putF (ty := .array (.object "NetWires$Event")) hC hin hw cl_Agenda 0 rfl 0 (by decide) fl_Agenda_11 rfl rfl (by decide +kernel) rfl rfl (Nat.le_of_ble_eq_true rfl) d_Agenda_init_11 (fun H locs hw => ?_)
  have hw : ga_w (xa_K k) [(h0, .inr (2, [.ref q, .int 0, .int 0])), (q, .inl (k.2.1 2, 232, .inr (.inr (.inr (.inr (fun _ => none))))))] (va_A [(h0, .inr (2, [.null, .int 0, .int 0]))] sz) s H locs := hw
  refine lv_aload_n hx hb d_Agenda_init_14 rfl (lv_at hl 0 rfl) ?_
  refine lv_iconst (v := 0) hx hb d_Agenda_init_15 (by decide) ?_
  refine ga_put (ty := .int) hC hw cl_Agenda 0 rfl 1 (by decide) fl_Agenda_17 rfl (by decide +kernel) rfl rfl (Nat.le_of_ble_eq_true rfl) d_Agenda_init_16 (fun H locs hw => ?_)
  have hw : ga_w (xa_K k) [(h0, .inr (2, [.ref q, .int 0, .int 0])), (q, .inl (k.2.1 2, 232, .inr (.inr (.inr (.inr (fun _ => none))))))] (va_A [(h0, .inr (2, [.null, .int 0, .int 0]))] sz) s H locs := hw
  refine lv_aload_n hx hb d_Agenda_init_19 rfl (lv_at hl 0 rfl) ?_
  refine lv_iconst (v := 0) hx hb d_Agenda_init_20 (by decide) ?_
  refine ga_put (ty := .int) hC hw cl_Agenda 0 rfl 2 (by decide) fl_Agenda_21 rfl (by decide +kernel) rfl rfl (Nat.le_of_ble_eq_true rfl) d_Agenda_init_21 (fun H locs hw => ?_)
  have hw : ga_w (xa_K k) [(h0, .inr (2, [.ref q, .int 0, .int 0])), (q, .inl (k.2.1 2, 232, .inr (.inr (.inr (.inr (fun _ => none))))))] (va_A [(h0, .inr (2, [.null, .int 0, .int 0]))] sz) s H locs := hw
  exact ga_vret (u := q) hC hr hlocks hw trivial (Nat.le_of_ble_eq_true rfl) (Nat.le_of_ble_eq_true rfl) d_Agenda_init_24
set_option maxHeartbeats 4000000 in
set_option maxRecDepth 100000 in
theorem c_History_init (l : Launch) (k : xa_k) (h0 : Nat) (sz : Nat) : Met l y_History_init (Cond.code y_History_init b_History_init 1 none :: ga_T) ({ frames := 1, cells := 1, slots := 128, locals := 12 }) (va_Pc [.ref h0] (ga_pre (xa_K k) [(h0, .inr (3, [.null, .int 0, .int 0, .int 0]))] sz)) (va_Qv (fun (u : Nat) => True) (ga_post (xa_K k) [(h0, .inr (3, [.null, .int 0, .int 0, .int 0]))] sz (fun q => [(h0, .inr (3, [.ref q, .int 0, .int 0, .int 0])), (q, .inl (k.2.1 1, 128, .inl (fun _ => 0)))])) (va_A [(h0, .inr (3, [.null, .int 0, .int 0, .int 0]))] sz)) 1 128 (va_A [(h0, .inr (3, [.null, .int 0, .int 0, .int 0]))] sz) := by
  refine ga_Met (by decide) (Nat.le_of_ble_eq_true rfl) ?_
  intro p e s m below meth c hC hr hlocks hin hw ls hl
  have hx := hC.1
  have hb := hC.2.1
  have hl : lv_has ls 1 [(0, .ref h0)] := hl
  refine lv_aload_n hx hb d_History_init_0 rfl (lv_at hl 0 rfl) ?_
  refine W.objInit hx hb hC.2.2.2.1 (hC.2.2.2.2 _ ml_History_3) (hC.2.2.2.2 _ in_objectInit) (hC.2.2.2.2 _ co_objectInit) rfl (by rw [hC.2.2.1]; exact hl.1) rfl d_History_init_1 (Nat.le_of_ble_eq_true rfl) (Nat.le_of_ble_eq_true rfl) ?_
  refine W.eq (g2 := F0 m 4 ls []) rfl ?_
  refine lv_aload_n hx hb d_History_init_4 rfl (lv_at hl 0 rfl) ?_
  refine lv_sipush (v := 128) hx hb d_History_init_5 (by decide) ?_
  refine ga_newI (N' := 128) (t0 := 1) (cA := k.2.1 1) hC hw rfl (by decide) (by decide) (by decide) (Nat.le_of_ble_eq_true rfl) (Nat.le_of_ble_eq_true rfl) d_History_init_8 (fun q H hw => ?_)
  have hw : ga_w (xa_K k) [(h0, .inr (3, [.null, .int 0, .int 0, .int 0])), (q, .inl (k.2.1 1, 128, .inl (fun _ => 0)))] (va_A [(h0, .inr (3, [.null, .int 0, .int 0, .int 0]))] sz) s H [] := hw
  refine ga_putF (ty := .array .int) hC hin hw cl_History 0 rfl 0 (by decide) fl_History_9 rfl rfl (by decide +kernel) rfl rfl (Nat.le_of_ble_eq_true rfl) d_History_init_10 (fun H locs hw => ?_)
  have hw : ga_w (xa_K k) [(h0, .inr (3, [.ref q, .int 0, .int 0, .int 0])), (q, .inl (k.2.1 1, 128, .inl (fun _ => 0)))] (va_A [(h0, .inr (3, [.null, .int 0, .int 0, .int 0]))] sz) s H locs := hw
  refine lv_aload_n hx hb d_History_init_13 rfl (lv_at hl 0 rfl) ?_
  refine lv_iconst (v := 0) hx hb d_History_init_14 (by decide) ?_
  refine ga_put (ty := .int) hC hw cl_History 0 rfl 1 (by decide) fl_History_15 rfl (by decide +kernel) rfl rfl (Nat.le_of_ble_eq_true rfl) d_History_init_15 (fun H locs hw => ?_)
  have hw : ga_w (xa_K k) [(h0, .inr (3, [.ref q, .int 0, .int 0, .int 0])), (q, .inl (k.2.1 1, 128, .inl (fun _ => 0)))] (va_A [(h0, .inr (3, [.null, .int 0, .int 0, .int 0]))] sz) s H locs := hw
  refine lv_aload_n hx hb d_History_init_18 rfl (lv_at hl 0 rfl) ?_
  refine lv_iconst (v := 0) hx hb d_History_init_19 (by decide) ?_
  refine ga_put (ty := .int) hC hw cl_History 0 rfl 2 (by decide) fl_History_19 rfl (by decide +kernel) rfl rfl (Nat.le_of_ble_eq_true rfl) d_History_init_20 (fun H locs hw => ?_)
  have hw : ga_w (xa_K k) [(h0, .inr (3, [.ref q, .int 0, .int 0, .int 0])), (q, .inl (k.2.1 1, 128, .inl (fun _ => 0)))] (va_A [(h0, .inr (3, [.null, .int 0, .int 0, .int 0]))] sz) s H locs := hw
  refine lv_aload_n hx hb d_History_init_23 rfl (lv_at hl 0 rfl) ?_
  refine lv_iconst (v := 0) hx hb d_History_init_24 (by decide) ?_
  refine ga_put (ty := .int) hC hw cl_History 0 rfl 3 (by decide) fl_History_22 rfl (by decide +kernel) rfl rfl (Nat.le_of_ble_eq_true rfl) d_History_init_25 (fun H locs hw => ?_)
  have hw : ga_w (xa_K k) [(h0, .inr (3, [.ref q, .int 0, .int 0, .int 0])), (q, .inl (k.2.1 1, 128, .inl (fun _ => 0)))] (va_A [(h0, .inr (3, [.null, .int 0, .int 0, .int 0]))] sz) s H locs := hw
  exact ga_vret (u := q) hC hr hlocks hw trivial (Nat.le_of_ble_eq_true rfl) (Nat.le_of_ble_eq_true rfl) d_History_init_28
set_option maxHeartbeats 4000000 in
set_option maxRecDepth 100000 in
theorem c_Noise_init (l : Launch) (k : xa_k) (h0 : Nat) (sz : Nat) : Met l y_Noise_init (Cond.code y_Noise_init b_Noise_init 1 none :: ga_T) ({ frames := 1, cells := 0, slots := 0, locals := 12 }) (va_Pc [.ref h0] (ga_pre (xa_K k) [(h0, .inr (4, [.int 0, .int 0, .int 0, .long 0]))] sz)) (va_Qv (fun (u : Unit) => True) (ga_post (xa_K k) [(h0, .inr (4, [.int 0, .int 0, .int 0, .long 0]))] sz (fun _ => [(h0, .inr (4, [.int 0, .int 0, .int 0, .long 0]))])) (va_A [(h0, .inr (4, [.int 0, .int 0, .int 0, .long 0]))] sz)) 0 0 (va_A [(h0, .inr (4, [.int 0, .int 0, .int 0, .long 0]))] sz) := by
  refine ga_Met (by decide) (Nat.le_of_ble_eq_true rfl) ?_
  intro p e s m below meth c hC hr hlocks hin hw ls hl
  have hx := hC.1
  have hb := hC.2.1
  have hl : lv_has ls 1 [(0, .ref h0)] := hl
  refine lv_aload_n hx hb d_Noise_init_0 rfl (lv_at hl 0 rfl) ?_
  refine W.objInit hx hb hC.2.2.2.1 (hC.2.2.2.2 _ ml_Noise_1) (hC.2.2.2.2 _ in_objectInit) (hC.2.2.2.2 _ co_objectInit) rfl (by rw [hC.2.2.1]; exact hl.1) rfl d_Noise_init_1 (Nat.le_of_ble_eq_true rfl) (Nat.le_of_ble_eq_true rfl) ?_
  refine W.eq (g2 := F0 m 4 ls []) rfl ?_
  refine lv_aload_n hx hb d_Noise_init_4 rfl (lv_at hl 0 rfl) ?_
  refine lv_iconst (v := 0) hx hb d_Noise_init_5 (by decide) ?_
  refine ga_put (ty := .int) hC hw cl_Noise 0 rfl 0 (by decide) fl_Noise_7 rfl (by decide +kernel) rfl rfl (Nat.le_of_ble_eq_true rfl) d_Noise_init_6 (fun H locs hw => ?_)
  have hw : ga_w (xa_K k) [(h0, .inr (4, [.int 0, .int 0, .int 0, .long 0]))] (va_A [(h0, .inr (4, [.int 0, .int 0, .int 0, .long 0]))] sz) s H locs := hw
  refine lv_aload_n hx hb d_Noise_init_9 rfl (lv_at hl 0 rfl) ?_
  refine lv_iconst (v := 0) hx hb d_Noise_init_10 (by decide) ?_
  refine ga_put (ty := .int) hC hw cl_Noise 0 rfl 1 (by decide) fl_Noise_13 rfl (by decide +kernel) rfl rfl (Nat.le_of_ble_eq_true rfl) d_Noise_init_11 (fun H locs hw => ?_)
  have hw : ga_w (xa_K k) [(h0, .inr (4, [.int 0, .int 0, .int 0, .long 0]))] (va_A [(h0, .inr (4, [.int 0, .int 0, .int 0, .long 0]))] sz) s H locs := hw
  refine lv_aload_n hx hb d_Noise_init_14 rfl (lv_at hl 0 rfl) ?_
  refine lv_iconst (v := 0) hx hb d_Noise_init_15 (by decide) ?_
  refine ga_put (ty := .int) hC hw cl_Noise 0 rfl 2 (by decide) fl_Noise_16 rfl (by decide +kernel) rfl rfl (Nat.le_of_ble_eq_true rfl) d_Noise_init_16 (fun H locs hw => ?_)
  have hw : ga_w (xa_K k) [(h0, .inr (4, [.int 0, .int 0, .int 0, .long 0]))] (va_A [(h0, .inr (4, [.int 0, .int 0, .int 0, .long 0]))] sz) s H locs := hw
  refine lv_aload_n hx hb d_Noise_init_19 rfl (lv_at hl 0 rfl) ?_
  refine lv_lconst (v := 0) hx hb d_Noise_init_20 (by decide) ?_
  refine ga_put (ty := .long) hC hw cl_Noise 0 rfl 3 (by decide) fl_Noise_19 rfl (by decide +kernel) rfl rfl (Nat.le_of_ble_eq_true rfl) d_Noise_init_21 (fun H locs hw => ?_)
  have hw : ga_w (xa_K k) [(h0, .inr (4, [.int 0, .int 0, .int 0, .long 0]))] (va_A [(h0, .inr (4, [.int 0, .int 0, .int 0, .long 0]))] sz) s H locs := hw
  exact ga_vret (u := ()) hC hr hlocks hw trivial (Nat.le_of_ble_eq_true rfl) (Nat.le_of_ble_eq_true rfl) d_Noise_init_24
def xa_ka (a b c d e f g h i j : Nat) : Nat → Nat := fun k => match k with
  | 0 => a
  | 1 => b
  | 2 => c
  | 3 => d
  | 4 => e
  | 5 => f
  | 6 => g
  | 7 => h
  | 8 => i
  | _ => j
/-- the state of a new object -/
def xa_x0 (nb : Nat) (g : Nat → Int32) : XS := (fun _ => 0, 0, fun _ => 0, fun _ => none, fun _ => 0, g, nb, [], fun _ => .inr (0, []))
set_option maxHeartbeats 4000000 in
set_option maxRecDepth 100000 in
theorem c_NetWires_init (l : Launch) (k : xa_k) (h0 : Nat) (sz : Nat) : Met l y_NetWires_init (Cond.code y_NetWires_init b_NetWires_init 1 none :: ga_T) ({ frames := 2, cells := 8, slots := 2677, locals := 60 }) (va_Pc [.ref h0] (ga_pre (xa_K k) [(h0, .inr (0, [.null, .null, .null, .null, .null, .int 0, .int 0, .int 0, .int 0, .int 0, .int 0, .null]))] sz)) (va_Qv (fun (u : (Nat → Nat) × (Nat → Int32)) => u.1 0 = h0 ∧ u.1 9 = xa_a k 9 ∧ ∀ j, j < 256 → u.2 j = 3) (ga_post (xa_K k) [(h0, .inr (0, [.null, .null, .null, .null, .null, .int 0, .int 0, .int 0, .int 0, .int 0, .int 0, .null]))] sz (fun u => xa_W (k.1, k.2.1, u.1) (xa_x0 (xa_a k 9) u.2))) (va_A [(h0, .inr (0, [.null, .null, .null, .null, .null, .int 0, .int 0, .int 0, .int 0, .int 0, .int 0, .null]))] sz)) 8 2677 (va_A [(h0, .inr (0, [.null, .null, .null, .null, .null, .int 0, .int 0, .int 0, .int 0, .int 0, .int 0, .null]))] sz) := by
  refine ga_Met (by decide) (Nat.le_of_ble_eq_true rfl) ?_
  intro p e s m below meth c hC hr hlocks hin hw ls hl
  have hx := hC.1
  have hb := hC.2.1
  have hl : lv_has ls 1 [(0, .ref h0)] := hl
  refine lv_aload_n hx hb d_NetWires_init_0 rfl (lv_at hl 0 rfl) ?_
  refine W.objInit hx hb hC.2.2.2.1 (hC.2.2.2.2 _ ml_NetWires_3) (hC.2.2.2.2 _ in_objectInit) (hC.2.2.2.2 _ co_objectInit) rfl (by rw [hC.2.2.1]; exact hl.1) rfl d_NetWires_init_1 (Nat.le_of_ble_eq_true rfl) (Nat.le_of_ble_eq_true rfl) ?_
  refine W.eq (g2 := F0 m 4 ls []) rfl ?_
  refine lv_aload_n hx hb d_NetWires_init_4 rfl (lv_at hl 0 rfl) ?_
  refine ga_new (fs := [.null, .int 0]) hC hw cl_Tape t_Tape t_Tape_ok kl_NetWires_9 in_Tape ini_Tape (fun j hj => by rcases (show j = 0 ∨ j = 1 by omega) with rfl | rfl <;> rfl) (Nat.le_of_ble_eq_true rfl) (Nat.le_of_ble_eq_true rfl) d_NetWires_init_5 (fun q1 H hw => ?_)
  have hw : ga_w (xa_K k) ([(h0, .inr (0, [.null, .null, .null, .null, .null, .int 0, .int 0, .int 0, .int 0, .int 0, .int 0, .null]))] ++ [(q1, .inr (1, [.null, .int 0]))]) (va_A [(h0, .inr (0, [.null, .null, .null, .null, .null, .int 0, .int 0, .int 0, .int 0, .int 0, .int 0, .null]))] sz) s H [] := hw
  refine lv_dup hx hb d_NetWires_init_8 rfl ?_
  refine ga_IvR (As := []) (rest := [.ref q1, .ref h0]) hC hw (c_Tape_init l k q1 _) m_Tape_init ml_NetWires_11 rfl rfl ⟨Nat.le_of_ble_eq_true rfl, Nat.le_of_ble_eq_true rfl⟩ rfl hl.1 rfl (Nat.le_of_ble_eq_true rfl) d_NetWires_init_9 ⟨Nat.le_of_ble_eq_true rfl, Nat.le_of_ble_eq_true rfl⟩ (fun q2 H locs _ hw => ?_)
  have hw : ga_w (xa_K k) [(h0, .inr (0, [.null, .null, .null, .null, .null, .int 0, .int 0, .int 0, .int 0, .int 0, .int 0, .null])), (q1, .inr (1, [.ref q2, .int 0])), (q2, .inl (k.2.1 0, 2048, .inl (fun _ => 0)))] (va_A [(h0, .inr (0, [.null, .null, .null, .null, .null, .int 0, .int 0, .int 0, .int 0, .int 0, .int 0, .null]))] sz) s H locs := hw
  refine ga_putF (ty := .object "NetWires$Tape") hC hin hw cl_NetWires 0 rfl 0 (by decide) fl_NetWires_12 rfl rfl (by decide +kernel) rfl rfl (Nat.le_of_ble_eq_true rfl) d_NetWires_init_12 (fun H locs hw => ?_)
  have hw : ga_w (xa_K k) [(h0, .inr (0, [.ref q1, .null, .null, .null, .null, .int 0, .int 0, .int 0, .int 0, .int 0, .int 0, .null])), (q1, .inr (1, [.ref q2, .int 0])), (q2, .inl (k.2.1 0, 2048, .inl (fun _ => 0)))] (va_A [(h0, .inr (0, [.null, .null, .null, .null, .null, .int 0, .int 0, .int 0, .int 0, .int 0, .int 0, .null]))] sz) s H locs := hw
  refine lv_aload_n hx hb d_NetWires_init_15 rfl (lv_at hl 0 rfl) ?_
  refine ga_new (fs := [.null, .int 0, .int 0]) hC hw cl_Agenda t_Agenda t_Agenda_ok kl_NetWires_16 in_Agenda ini_Agenda (fun j hj => by rcases (show j = 0 ∨ j = 1 ∨ j = 2 by omega) with rfl | rfl | rfl <;> rfl) (Nat.le_of_ble_eq_true rfl) (Nat.le_of_ble_eq_true rfl) d_NetWires_init_16 (fun q3 H hw => ?_)
  have hw : ga_w (xa_K k) ([(h0, .inr (0, [.ref q1, .null, .null, .null, .null, .int 0, .int 0, .int 0, .int 0, .int 0, .int 0, .null])), (q1, .inr (1, [.ref q2, .int 0])), (q2, .inl (k.2.1 0, 2048, .inl (fun _ => 0)))] ++ [(q3, .inr (2, [.null, .int 0, .int 0]))]) (va_A [(h0, .inr (0, [.null, .null, .null, .null, .null, .int 0, .int 0, .int 0, .int 0, .int 0, .int 0, .null]))] sz) s H locs := hw
  refine lv_dup hx hb d_NetWires_init_19 rfl ?_
  refine ga_IvR (As := []) (rest := [.ref q3, .ref h0]) hC hw (c_Agenda_init l k q3 _) m_Agenda_init ml_NetWires_18 rfl rfl ⟨Nat.le_of_ble_eq_true rfl, Nat.le_of_ble_eq_true rfl⟩ rfl hl.1 rfl (Nat.le_of_ble_eq_true rfl) d_NetWires_init_20 ⟨Nat.le_of_ble_eq_true rfl, Nat.le_of_ble_eq_true rfl⟩ (fun q4 H locs _ hw => ?_)
  have hw : ga_w (xa_K k) [(h0, .inr (0, [.ref q1, .null, .null, .null, .null, .int 0, .int 0, .int 0, .int 0, .int 0, .int 0, .null])), (q1, .inr (1, [.ref q2, .int 0])), (q2, .inl (k.2.1 0, 2048, .inl (fun _ => 0))), (q3, .inr (2, [.ref q4, .int 0, .int 0])), (q4, .inl (k.2.1 2, 232, .inr (.inr (.inr (.inr (fun _ => none))))))] (va_A [(h0, .inr (0, [.null, .null, .null, .null, .null, .int 0, .int 0, .int 0, .int 0, .int 0, .int 0, .null]))] sz) s H locs := hw
  refine ga_putF (ty := .object "NetWires$Agenda") hC hin hw cl_NetWires 0 rfl 1 (by decide) fl_NetWires_19 rfl rfl (by decide +kernel) rfl rfl (Nat.le_of_ble_eq_true rfl) d_NetWires_init_23 (fun H locs hw => ?_)
  have hw : ga_w (xa_K k) [(h0, .inr (0, [.ref q1, .ref q3, .null, .null, .null, .int 0, .int 0, .int 0, .int 0, .int 0, .int 0, .null])), (q1, .inr (1, [.ref q2, .int 0])), (q2, .inl (k.2.1 0, 2048, .inl (fun _ => 0))), (q3, .inr (2, [.ref q4, .int 0, .int 0])), (q4, .inl (k.2.1 2, 232, .inr (.inr (.inr (.inr (fun _ => none))))))] (va_A [(h0, .inr (0, [.null, .null, .null, .null, .null, .int 0, .int 0, .int 0, .int 0, .int 0, .int 0, .null]))] sz) s H locs := hw
  refine lv_aload_n hx hb d_NetWires_init_26 rfl (lv_at hl 0 rfl) ?_
  refine ga_new (fs := [.null, .int 0, .int 0, .int 0]) hC hw cl_History t_History t_History_ok kl_NetWires_23 in_History ini_History (fun j hj => by rcases (show j = 0 ∨ j = 1 ∨ j = 2 ∨ j = 3 by omega) with rfl | rfl | rfl | rfl <;> rfl) (Nat.le_of_ble_eq_true rfl) (Nat.le_of_ble_eq_true rfl) d_NetWires_init_27 (fun q5 H hw => ?_)
  have hw : ga_w (xa_K k) ([(h0, .inr (0, [.ref q1, .ref q3, .null, .null, .null, .int 0, .int 0, .int 0, .int 0, .int 0, .int 0, .null])), (q1, .inr (1, [.ref q2, .int 0])), (q2, .inl (k.2.1 0, 2048, .inl (fun _ => 0))), (q3, .inr (2, [.ref q4, .int 0, .int 0])), (q4, .inl (k.2.1 2, 232, .inr (.inr (.inr (.inr (fun _ => none))))))] ++ [(q5, .inr (3, [.null, .int 0, .int 0, .int 0]))]) (va_A [(h0, .inr (0, [.null, .null, .null, .null, .null, .int 0, .int 0, .int 0, .int 0, .int 0, .int 0, .null]))] sz) s H locs := hw
  refine lv_dup hx hb d_NetWires_init_30 rfl ?_
  refine ga_IvR (As := []) (rest := [.ref q5, .ref h0]) hC hw (c_History_init l k q5 _) m_History_init ml_NetWires_25 rfl rfl ⟨Nat.le_of_ble_eq_true rfl, Nat.le_of_ble_eq_true rfl⟩ rfl hl.1 rfl (Nat.le_of_ble_eq_true rfl) d_NetWires_init_31 ⟨Nat.le_of_ble_eq_true rfl, Nat.le_of_ble_eq_true rfl⟩ (fun q6 H locs _ hw => ?_)
  have hw : ga_w (xa_K k) [(h0, .inr (0, [.ref q1, .ref q3, .null, .null, .null, .int 0, .int 0, .int 0, .int 0, .int 0, .int 0, .null])), (q1, .inr (1, [.ref q2, .int 0])), (q2, .inl (k.2.1 0, 2048, .inl (fun _ => 0))), (q3, .inr (2, [.ref q4, .int 0, .int 0])), (q4, .inl (k.2.1 2, 232, .inr (.inr (.inr (.inr (fun _ => none)))))), (q5, .inr (3, [.ref q6, .int 0, .int 0, .int 0])), (q6, .inl (k.2.1 1, 128, .inl (fun _ => 0)))] (va_A [(h0, .inr (0, [.null, .null, .null, .null, .null, .int 0, .int 0, .int 0, .int 0, .int 0, .int 0, .null]))] sz) s H locs := hw
  refine ga_putF (ty := .object "NetWires$History") hC hin hw cl_NetWires 0 rfl 2 (by decide) fl_NetWires_26 rfl rfl (by decide +kernel) rfl rfl (Nat.le_of_ble_eq_true rfl) d_NetWires_init_34 (fun H locs hw => ?_)
  have hw : ga_w (xa_K k) [(h0, .inr (0, [.ref q1, .ref q3, .ref q5, .null, .null, .int 0, .int 0, .int 0, .int 0, .int 0, .int 0, .null])), (q1, .inr (1, [.ref q2, .int 0])), (q2, .inl (k.2.1 0, 2048, .inl (fun _ => 0))), (q3, .inr (2, [.ref q4, .int 0, .int 0])), (q4, .inl (k.2.1 2, 232, .inr (.inr (.inr (.inr (fun _ => none)))))), (q5, .inr (3, [.ref q6, .int 0, .int 0, .int 0])), (q6, .inl (k.2.1 1, 128, .inl (fun _ => 0)))] (va_A [(h0, .inr (0, [.null, .null, .null, .null, .null, .int 0, .int 0, .int 0, .int 0, .int 0, .int 0, .null]))] sz) s H locs := hw
  refine lv_aload_n hx hb d_NetWires_init_37 rfl (lv_at hl 0 rfl) ?_
  refine ga_new (fs := [.int 0, .int 0, .int 0, .long 0]) hC hw cl_Noise t_Noise t_Noise_ok kl_NetWires_30 in_Noise ini_Noise (fun j hj => by rcases (show j = 0 ∨ j = 1 ∨ j = 2 ∨ j = 3 by omega) with rfl | rfl | rfl | rfl <;> rfl) (Nat.le_of_ble_eq_true rfl) (Nat.le_of_ble_eq_true rfl) d_NetWires_init_38 (fun q7 H hw => ?_)
  have hw : ga_w (xa_K k) ([(h0, .inr (0, [.ref q1, .ref q3, .ref q5, .null, .null, .int 0, .int 0, .int 0, .int 0, .int 0, .int 0, .null])), (q1, .inr (1, [.ref q2, .int 0])), (q2, .inl (k.2.1 0, 2048, .inl (fun _ => 0))), (q3, .inr (2, [.ref q4, .int 0, .int 0])), (q4, .inl (k.2.1 2, 232, .inr (.inr (.inr (.inr (fun _ => none)))))), (q5, .inr (3, [.ref q6, .int 0, .int 0, .int 0])), (q6, .inl (k.2.1 1, 128, .inl (fun _ => 0)))] ++ [(q7, .inr (4, [.int 0, .int 0, .int 0, .long 0]))]) (va_A [(h0, .inr (0, [.null, .null, .null, .null, .null, .int 0, .int 0, .int 0, .int 0, .int 0, .int 0, .null]))] sz) s H locs := hw
  refine lv_dup hx hb d_NetWires_init_41 rfl ?_
  refine ga_IvR (As := []) (rest := [.ref q7, .ref h0]) hC hw (c_Noise_init l k q7 _) m_Noise_init ml_NetWires_32 rfl rfl ⟨Nat.le_of_ble_eq_true rfl, Nat.le_of_ble_eq_true rfl⟩ rfl hl.1 rfl (Nat.le_of_ble_eq_true rfl) d_NetWires_init_42 ⟨Nat.le_of_ble_eq_true rfl, Nat.le_of_ble_eq_true rfl⟩ (fun u7 H locs _ hw => ?_)
  have hw : ga_w (xa_K k) [(h0, .inr (0, [.ref q1, .ref q3, .ref q5, .null, .null, .int 0, .int 0, .int 0, .int 0, .int 0, .int 0, .null])), (q1, .inr (1, [.ref q2, .int 0])), (q2, .inl (k.2.1 0, 2048, .inl (fun _ => 0))), (q3, .inr (2, [.ref q4, .int 0, .int 0])), (q4, .inl (k.2.1 2, 232, .inr (.inr (.inr (.inr (fun _ => none)))))), (q5, .inr (3, [.ref q6, .int 0, .int 0, .int 0])), (q6, .inl (k.2.1 1, 128, .inl (fun _ => 0))), (q7, .inr (4, [.int 0, .int 0, .int 0, .long 0]))] (va_A [(h0, .inr (0, [.null, .null, .null, .null, .null, .int 0, .int 0, .int 0, .int 0, .int 0, .int 0, .null]))] sz) s H locs := hw
  refine ga_putF (ty := .object "NetWires$Noise") hC hin hw cl_NetWires 0 rfl 3 (by decide) fl_NetWires_33 rfl rfl (by decide +kernel) rfl rfl (Nat.le_of_ble_eq_true rfl) d_NetWires_init_45 (fun H locs hw => ?_)
  have hw : ga_w (xa_K k) [(h0, .inr (0, [.ref q1, .ref q3, .ref q5, .ref q7, .null, .int 0, .int 0, .int 0, .int 0, .int 0, .int 0, .null])), (q1, .inr (1, [.ref q2, .int 0])), (q2, .inl (k.2.1 0, 2048, .inl (fun _ => 0))), (q3, .inr (2, [.ref q4, .int 0, .int 0])), (q4, .inl (k.2.1 2, 232, .inr (.inr (.inr (.inr (fun _ => none)))))), (q5, .inr (3, [.ref q6, .int 0, .int 0, .int 0])), (q6, .inl (k.2.1 1, 128, .inl (fun _ => 0))), (q7, .inr (4, [.int 0, .int 0, .int 0, .long 0]))] (va_A [(h0, .inr (0, [.null, .null, .null, .null, .null, .int 0, .int 0, .int 0, .int 0, .int 0, .int 0, .null]))] sz) s H locs := hw
  refine lv_aload_n hx hb d_NetWires_init_48 rfl (lv_at hl 0 rfl) ?_
  refine lv_sipush (v := 256) hx hb d_NetWires_init_49 (by decide) ?_
  refine ga_newI (N' := 256) (t0 := 1) (cA := k.2.1 1) hC hw rfl (by decide) (by decide) (by decide) (Nat.le_of_ble_eq_true rfl) (Nat.le_of_ble_eq_true rfl) d_NetWires_init_52 (fun q8 H hw => ?_)
  have hw : ga_w (xa_K k) [(h0, .inr (0, [.ref q1, .ref q3, .ref q5, .ref q7, .null, .int 0, .int 0, .int 0, .int 0, .int 0, .int 0, .null])), (q1, .inr (1, [.ref q2, .int 0])), (q2, .inl (k.2.1 0, 2048, .inl (fun _ => 0))), (q3, .inr (2, [.ref q4, .int 0, .int 0])), (q4, .inl (k.2.1 2, 232, .inr (.inr (.inr (.inr (fun _ => none)))))), (q5, .inr (3, [.ref q6, .int 0, .int 0, .int 0])), (q6, .inl (k.2.1 1, 128, .inl (fun _ => 0))), (q7, .inr (4, [.int 0, .int 0, .int 0, .long 0])), (q8, .inl (k.2.1 1, 256, .inl (fun _ => 0)))] (va_A [(h0, .inr (0, [.null, .null, .null, .null, .null, .int 0, .int 0, .int 0, .int 0, .int 0, .int 0, .null]))] sz) s H locs := hw
  refine ga_putF (ty := .array .int) hC hin hw cl_NetWires 0 rfl 4 (by decide) fl_NetWires_37 rfl rfl (by decide +kernel) rfl rfl (Nat.le_of_ble_eq_true rfl) d_NetWires_init_54 (fun H locs hw => ?_)
  have hw : ga_w (xa_K k) [(h0, .inr (0, [.ref q1, .ref q3, .ref q5, .ref q7, .ref q8, .int 0, .int 0, .int 0, .int 0, .int 0, .int 0, .null])), (q1, .inr (1, [.ref q2, .int 0])), (q2, .inl (k.2.1 0, 2048, .inl (fun _ => 0))), (q3, .inr (2, [.ref q4, .int 0, .int 0])), (q4, .inl (k.2.1 2, 232, .inr (.inr (.inr (.inr (fun _ => none)))))), (q5, .inr (3, [.ref q6, .int 0, .int 0, .int 0])), (q6, .inl (k.2.1 1, 128, .inl (fun _ => 0))), (q7, .inr (4, [.int 0, .int 0, .int 0, .long 0])), (q8, .inl (k.2.1 1, 256, .inl (fun _ => 0)))] (va_A [(h0, .inr (0, [.null, .null, .null, .null, .null, .int 0, .int 0, .int 0, .int 0, .int 0, .int 0, .null]))] sz) s H locs := hw
  refine lv_aload_n hx hb d_NetWires_init_57 rfl (lv_at hl 0 rfl) ?_
  refine ga_get hC hw cl_NetWires 0 rfl 4 (by decide) fl_NetWires_37 rfl d_NetWires_init_58 ?_
  refine lv_iconst (v := 3) hx hb d_NetWires_init_61 (by decide) ?_
  have hw : ga_w (xa_K k) ([(h0, .inr (0, [.ref q1, .ref q3, .ref q5, .ref q7, .ref q8, .int 0, .int 0, .int 0, .int 0, .int 0, .int 0, .null])), (q1, .inr (1, [.ref q2, .int 0])), (q2, .inl (k.2.1 0, 2048, .inl (fun _ => 0))), (q3, .inr (2, [.ref q4, .int 0, .int 0])), (q4, .inl (k.2.1 2, 232, .inr (.inr (.inr (.inr (fun _ => none)))))), (q5, .inr (3, [.ref q6, .int 0, .int 0, .int 0])), (q6, .inl (k.2.1 1, 128, .inl (fun _ => 0))), (q7, .inr (4, [.int 0, .int 0, .int 0, .long 0]))] ++ [(q8, .inl (k.2.1 1, 256, .inl (fun _ => 0)))]) (va_A [(h0, .inr (0, [.null, .null, .null, .null, .null, .int 0, .int 0, .int 0, .int 0, .int 0, .int 0, .null]))] sz) s H locs := hw
  refine ga_SvR (As := [.ref q8, .int 3]) (rest := []) hC hw (c_J_fill l k q8 3 _ _) m_J_fill ml_NetWires_41 rfl rfl ⟨Nat.le_of_ble_eq_true rfl, Nat.le_of_ble_eq_true rfl⟩ rfl hl.1 rfl (Nat.le_of_ble_eq_true rfl) d_NetWires_init_62 ⟨Nat.le_of_ble_eq_true rfl, Nat.le_of_ble_eq_true rfl⟩ (fun g H locs hg hw => ?_)
  have hw : ga_w (xa_K k) [(h0, .inr (0, [.ref q1, .ref q3, .ref q5, .ref q7, .ref q8, .int 0, .int 0, .int 0, .int 0, .int 0, .int 0, .null])), (q1, .inr (1, [.ref q2, .int 0])), (q2, .inl (k.2.1 0, 2048, .inl (fun _ => 0))), (q3, .inr (2, [.ref q4, .int 0, .int 0])), (q4, .inl (k.2.1 2, 232, .inr (.inr (.inr (.inr (fun _ => none)))))), (q5, .inr (3, [.ref q6, .int 0, .int 0, .int 0])), (q6, .inl (k.2.1 1, 128, .inl (fun _ => 0))), (q7, .inr (4, [.int 0, .int 0, .int 0, .long 0])), (q8, .inl (k.2.1 1, 256, .inl g))] (va_A [(h0, .inr (0, [.null, .null, .null, .null, .null, .int 0, .int 0, .int 0, .int 0, .int 0, .int 0, .null]))] sz) s H locs := hw
  refine lv_aload_n hx hb d_NetWires_init_65 rfl (lv_at hl 0 rfl) ?_
  refine lv_iconst (v := 0) hx hb d_NetWires_init_66 (by decide) ?_
  refine ga_put (ty := .int) hC hw cl_NetWires 0 rfl 5 (by decide) fl_NetWires_47 rfl (by decide +kernel) rfl rfl (Nat.le_of_ble_eq_true rfl) d_NetWires_init_67 (fun H locs hw => ?_)
  have hw : ga_w (xa_K k) [(h0, .inr (0, [.ref q1, .ref q3, .ref q5, .ref q7, .ref q8, .int 0, .int 0, .int 0, .int 0, .int 0, .int 0, .null])), (q1, .inr (1, [.ref q2, .int 0])), (q2, .inl (k.2.1 0, 2048, .inl (fun _ => 0))), (q3, .inr (2, [.ref q4, .int 0, .int 0])), (q4, .inl (k.2.1 2, 232, .inr (.inr (.inr (.inr (fun _ => none)))))), (q5, .inr (3, [.ref q6, .int 0, .int 0, .int 0])), (q6, .inl (k.2.1 1, 128, .inl (fun _ => 0))), (q7, .inr (4, [.int 0, .int 0, .int 0, .long 0])), (q8, .inl (k.2.1 1, 256, .inl g))] (va_A [(h0, .inr (0, [.null, .null, .null, .null, .null, .int 0, .int 0, .int 0, .int 0, .int 0, .int 0, .null]))] sz) s H locs := hw
  refine lv_aload_n hx hb d_NetWires_init_70 rfl (lv_at hl 0 rfl) ?_
  refine lv_iconst (v := 0) hx hb d_NetWires_init_71 (by decide) ?_
  refine ga_put (ty := .int) hC hw cl_NetWires 0 rfl 6 (by decide) fl_NetWires_51 rfl (by decide +kernel) rfl rfl (Nat.le_of_ble_eq_true rfl) d_NetWires_init_72 (fun H locs hw => ?_)
  have hw : ga_w (xa_K k) [(h0, .inr (0, [.ref q1, .ref q3, .ref q5, .ref q7, .ref q8, .int 0, .int 0, .int 0, .int 0, .int 0, .int 0, .null])), (q1, .inr (1, [.ref q2, .int 0])), (q2, .inl (k.2.1 0, 2048, .inl (fun _ => 0))), (q3, .inr (2, [.ref q4, .int 0, .int 0])), (q4, .inl (k.2.1 2, 232, .inr (.inr (.inr (.inr (fun _ => none)))))), (q5, .inr (3, [.ref q6, .int 0, .int 0, .int 0])), (q6, .inl (k.2.1 1, 128, .inl (fun _ => 0))), (q7, .inr (4, [.int 0, .int 0, .int 0, .long 0])), (q8, .inl (k.2.1 1, 256, .inl g))] (va_A [(h0, .inr (0, [.null, .null, .null, .null, .null, .int 0, .int 0, .int 0, .int 0, .int 0, .int 0, .null]))] sz) s H locs := hw
  refine lv_aload_n hx hb d_NetWires_init_75 rfl (lv_at hl 0 rfl) ?_
  refine lv_iconst (v := 0) hx hb d_NetWires_init_76 (by decide) ?_
  refine ga_put (ty := .int) hC hw cl_NetWires 0 rfl 7 (by decide) fl_NetWires_54 rfl (by decide +kernel) rfl rfl (Nat.le_of_ble_eq_true rfl) d_NetWires_init_77 (fun H locs hw => ?_)
  have hw : ga_w (xa_K k) [(h0, .inr (0, [.ref q1, .ref q3, .ref q5, .ref q7, .ref q8, .int 0, .int 0, .int 0, .int 0, .int 0, .int 0, .null])), (q1, .inr (1, [.ref q2, .int 0])), (q2, .inl (k.2.1 0, 2048, .inl (fun _ => 0))), (q3, .inr (2, [.ref q4, .int 0, .int 0])), (q4, .inl (k.2.1 2, 232, .inr (.inr (.inr (.inr (fun _ => none)))))), (q5, .inr (3, [.ref q6, .int 0, .int 0, .int 0])), (q6, .inl (k.2.1 1, 128, .inl (fun _ => 0))), (q7, .inr (4, [.int 0, .int 0, .int 0, .long 0])), (q8, .inl (k.2.1 1, 256, .inl g))] (va_A [(h0, .inr (0, [.null, .null, .null, .null, .null, .int 0, .int 0, .int 0, .int 0, .int 0, .int 0, .null]))] sz) s H locs := hw
  refine lv_aload_n hx hb d_NetWires_init_80 rfl (lv_at hl 0 rfl) ?_
  refine lv_iconst (v := 0) hx hb d_NetWires_init_81 (by decide) ?_
  refine ga_put (ty := .int) hC hw cl_NetWires 0 rfl 8 (by decide) fl_NetWires_57 rfl (by decide +kernel) rfl rfl (Nat.le_of_ble_eq_true rfl) d_NetWires_init_82 (fun H locs hw => ?_)
  have hw : ga_w (xa_K k) [(h0, .inr (0, [.ref q1, .ref q3, .ref q5, .ref q7, .ref q8, .int 0, .int 0, .int 0, .int 0, .int 0, .int 0, .null])), (q1, .inr (1, [.ref q2, .int 0])), (q2, .inl (k.2.1 0, 2048, .inl (fun _ => 0))), (q3, .inr (2, [.ref q4, .int 0, .int 0])), (q4, .inl (k.2.1 2, 232, .inr (.inr (.inr (.inr (fun _ => none)))))), (q5, .inr (3, [.ref q6, .int 0, .int 0, .int 0])), (q6, .inl (k.2.1 1, 128, .inl (fun _ => 0))), (q7, .inr (4, [.int 0, .int 0, .int 0, .long 0])), (q8, .inl (k.2.1 1, 256, .inl g))] (va_A [(h0, .inr (0, [.null, .null, .null, .null, .null, .int 0, .int 0, .int 0, .int 0, .int 0, .int 0, .null]))] sz) s H locs := hw
  refine lv_aload_n hx hb d_NetWires_init_85 rfl (lv_at hl 0 rfl) ?_
  refine lv_iconst (v := 0) hx hb d_NetWires_init_86 (by decide) ?_
  refine ga_put (ty := .int) hC hw cl_NetWires 0 rfl 9 (by decide) fl_NetWires_60 rfl (by decide +kernel) rfl rfl (Nat.le_of_ble_eq_true rfl) d_NetWires_init_87 (fun H locs hw => ?_)
  have hw : ga_w (xa_K k) [(h0, .inr (0, [.ref q1, .ref q3, .ref q5, .ref q7, .ref q8, .int 0, .int 0, .int 0, .int 0, .int 0, .int 0, .null])), (q1, .inr (1, [.ref q2, .int 0])), (q2, .inl (k.2.1 0, 2048, .inl (fun _ => 0))), (q3, .inr (2, [.ref q4, .int 0, .int 0])), (q4, .inl (k.2.1 2, 232, .inr (.inr (.inr (.inr (fun _ => none)))))), (q5, .inr (3, [.ref q6, .int 0, .int 0, .int 0])), (q6, .inl (k.2.1 1, 128, .inl (fun _ => 0))), (q7, .inr (4, [.int 0, .int 0, .int 0, .long 0])), (q8, .inl (k.2.1 1, 256, .inl g))] (va_A [(h0, .inr (0, [.null, .null, .null, .null, .null, .int 0, .int 0, .int 0, .int 0, .int 0, .int 0, .null]))] sz) s H locs := hw
  refine lv_aload_n hx hb d_NetWires_init_90 rfl (lv_at hl 0 rfl) ?_
  refine lv_iconst (v := 0) hx hb d_NetWires_init_91 (by decide) ?_
  refine ga_put (ty := .int) hC hw cl_NetWires 0 rfl 10 (by decide) fl_NetWires_63 rfl (by decide +kernel) rfl rfl (Nat.le_of_ble_eq_true rfl) d_NetWires_init_92 (fun H locs hw => ?_)
  have hw : ga_w (xa_K k) [(h0, .inr (0, [.ref q1, .ref q3, .ref q5, .ref q7, .ref q8, .int 0, .int 0, .int 0, .int 0, .int 0, .int 0, .null])), (q1, .inr (1, [.ref q2, .int 0])), (q2, .inl (k.2.1 0, 2048, .inl (fun _ => 0))), (q3, .inr (2, [.ref q4, .int 0, .int 0])), (q4, .inl (k.2.1 2, 232, .inr (.inr (.inr (.inr (fun _ => none)))))), (q5, .inr (3, [.ref q6, .int 0, .int 0, .int 0])), (q6, .inl (k.2.1 1, 128, .inl (fun _ => 0))), (q7, .inr (4, [.int 0, .int 0, .int 0, .long 0])), (q8, .inl (k.2.1 1, 256, .inl g))] (va_A [(h0, .inr (0, [.null, .null, .null, .null, .null, .int 0, .int 0, .int 0, .int 0, .int 0, .int 0, .null]))] sz) s H locs := hw
  refine lv_aload_n hx hb d_NetWires_init_95 rfl (lv_at hl 0 rfl) ?_
  refine va_gets hx hb (show ga_stat (xa_a k 9) _ s s.heap from hw.2.2.2.2.2.1).1 hw.2.2.1 hC.2.2.2.1 (hC.2.2.2.2 _ fl_NetWires_66) (fun _ h => h) d_NetWires_init_96 ?_
  refine ga_put (ty := .array .byte) hC hw cl_NetWires 0 rfl 11 (by decide) fl_NetWires_70 rfl (by decide +kernel) rfl rfl (Nat.le_of_ble_eq_true rfl) d_NetWires_init_99 (fun H locs hw => ?_)
  have hw : ga_w (xa_K k) [(h0, .inr (0, [.ref q1, .ref q3, .ref q5, .ref q7, .ref q8, .int 0, .int 0, .int 0, .int 0, .int 0, .int 0, .ref (xa_a k 9)])), (q1, .inr (1, [.ref q2, .int 0])), (q2, .inl (k.2.1 0, 2048, .inl (fun _ => 0))), (q3, .inr (2, [.ref q4, .int 0, .int 0])), (q4, .inl (k.2.1 2, 232, .inr (.inr (.inr (.inr (fun _ => none)))))), (q5, .inr (3, [.ref q6, .int 0, .int 0, .int 0])), (q6, .inl (k.2.1 1, 128, .inl (fun _ => 0))), (q7, .inr (4, [.int 0, .int 0, .int 0, .long 0])), (q8, .inl (k.2.1 1, 256, .inl g))] (va_A [(h0, .inr (0, [.null, .null, .null, .null, .null, .int 0, .int 0, .int 0, .int 0, .int 0, .int 0, .null]))] sz) s H locs := hw
  have hw : ga_w (xa_K k) (xa_W (k.1, k.2.1, xa_ka h0 q1 q2 q3 q4 q5 q6 q7 q8 (xa_a k 9)) (xa_x0 (xa_a k 9) g)) (va_A [(h0, .inr (0, [.null, .null, .null, .null, .null, .int 0, .int 0, .int 0, .int 0, .int 0, .int 0, .null]))] sz) s H locs := hw
  exact ga_vret (u := (xa_ka h0 q1 q2 q3 q4 q5 q6 q7 q8 (xa_a k 9), g)) hC hr hlocks hw ⟨rfl, rfl, hg⟩ (Nat.le_of_ble_eq_true rfl) (Nat.le_of_ble_eq_true rfl) d_NetWires_init_102
