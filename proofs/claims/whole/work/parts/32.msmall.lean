set_option maxHeartbeats 4000000 in
set_option maxRecDepth 100000 in
theorem c_M_thrown (l : Launch) (k : xa_k) (a : Nat → Nat) (y : MS)   (sz : Nat) : Met l y_M_thrown (Cond.code y_M_thrown b_M_thrown 1 (some .int) :: ga_T) ({ frames := 0, cells := 0, slots := 0, locals := 0 }) (va_Pc [.ref (a 0)] (ga_pre (xa_K k) (ma_W k a y) sz)) (va_Qi (fun (r : Int32) (u : MS) => r = y.1 0 ∧ y = u) (ga_post (xa_K k) (ma_W k a y) sz (ma_W k a)) (va_A (ma_W k a y) sz)) 0 0 (va_A (ma_W k a y) sz) := by
  refine ga_Met (by decide) (Nat.le_of_ble_eq_true rfl) ?_
  intro p e s m below meth c hC hr hlocks _ hw ls hl
  have hx := hC.1
  have hb := hC.2.1
  have hl : lv_has ls 1 [(0, .ref (a 0))] := hl
  refine lv_aload_n hx hb d_M_thrown_0 rfl (lv_at hl 0 rfl) ?_
  refine mg_thrown (v := y.1 0) hC hw fl_M_51 d_M_thrown_1 rfl ?_
  exact ga_iret (u := y) hC hr hlocks hw ⟨rfl, rfl⟩ (Nat.le_of_ble_eq_true rfl) (Nat.le_of_ble_eq_true rfl) d_M_thrown_4

set_option maxHeartbeats 4000000 in
set_option maxRecDepth 100000 in
theorem c_M_fail (l : Launch) (k : xa_k) (a : Nat → Nat) (y : MS) (c9 : Int32)  (sz : Nat) : Met l y_M_fail (Cond.code y_M_fail b_M_fail 2 (some .int) :: ga_T) ({ frames := 0, cells := 0, slots := 0, locals := 0 }) (va_Pc [.ref (a 0), .int c9] (ga_pre (xa_K k) (ma_W k a y) sz)) (va_Qi (fun (r : Int32) (u : MS) => r = 0 ∧ u = ma_sI y 0 c9) (ga_post (xa_K k) (ma_W k a y) sz (ma_W k a)) (va_A (ma_W k a y) sz)) 0 0 (va_A (ma_W k a y) sz) := by
  refine ga_Met (by decide) (Nat.le_of_ble_eq_true rfl) ?_
  intro p e s m below meth c hC hr hlocks _ hw ls hl
  have hx := hC.1
  have hb := hC.2.1
  have hl : lv_has ls 2 [(0, .ref (a 0)), (1, .int c9)] := hl
  refine lv_aload_n hx hb d_M_fail_0 rfl (lv_at hl 0 rfl) ?_
  refine lv_iload_n hx hb d_M_fail_1 rfl (lv_at hl 1 rfl) ?_
  refine mp_thrown hC hw fl_M_51 d_M_fail_2 (fun H locs hw => ?_)
  refine lv_iconst (v := 0) hx hb d_M_fail_5 (by decide) ?_
  exact ga_iret (u := ma_sI y 0 c9) hC hr hlocks hw ⟨rfl, rfl⟩ (Nat.le_of_ble_eq_true rfl) (Nat.le_of_ble_eq_true rfl) d_M_fail_6

set_option maxHeartbeats 4000000 in
set_option maxRecDepth 100000 in
theorem c_M_within (l : Launch) (k : xa_k) (a : Nat → Nat) (y : MS) (v lo hi : Int32)  (sz : Nat) : Met l y_M_within (Cond.code y_M_within b_M_within 3 (some .boolean) :: ga_T) ({ frames := 0, cells := 0, slots := 0, locals := 0 }) (va_Pc [.int v, .int lo, .int hi] (ga_pre (xa_K k) (ma_W k a y) sz)) (va_Qi (fun (r : Int32) (u : MS) => y = u ∧ ((r = 1 ∧ (¬ v < lo ∧ ¬ hi < v)) ∨ (r = 0 ∧ (v < lo ∨ hi < v)))) (ga_post (xa_K k) (ma_W k a y) sz (ma_W k a)) (va_A (ma_W k a y) sz)) 0 0 (va_A (ma_W k a y) sz) := by
  refine ga_Met (by decide) (Nat.le_of_ble_eq_true rfl) ?_
  intro p e s m below meth c hC hr hlocks _ hw ls hl
  have hx := hC.1
  have hb := hC.2.1
  have hl : lv_has ls 3 [(0, .int v), (1, .int lo), (2, .int hi)] := hl
  refine lv_iload_n hx hb d_M_within_0 rfl (lv_at hl 0 rfl) ?_
  refine lv_iload_n hx hb d_M_within_1 rfl (lv_at hl 1 rfl) ?_
  refine lv_icmp_lt (tgt := 14) hx hb d_M_within_2 (by decide) (fun c_2 => ?_) (fun c_2 => ?_)
  · refine lv_iconst (v := 0) hx hb d_M_within_14 (by decide) ?_
    exact ga_zret (u := y) hC hr hlocks hw (Or.inl rfl) ⟨rfl, Or.inr ⟨rfl, Or.inl c_2⟩⟩ (Nat.le_of_ble_eq_true rfl) (Nat.le_of_ble_eq_true rfl) d_M_within_15
  · refine lv_iload_n hx hb d_M_within_5 rfl (lv_at hl 0 rfl) ?_
    refine lv_iload_n hx hb d_M_within_6 rfl (lv_at hl 2 rfl) ?_
    refine lv_icmp_gt (tgt := 14) hx hb d_M_within_7 (by decide) (fun c_7 => ?_) (fun c_7 => ?_)
    · refine lv_iconst (v := 0) hx hb d_M_within_14 (by decide) ?_
      exact ga_zret (u := y) hC hr hlocks hw (Or.inl rfl) ⟨rfl, Or.inr ⟨rfl, Or.inr c_7⟩⟩ (Nat.le_of_ble_eq_true rfl) (Nat.le_of_ble_eq_true rfl) d_M_within_15
    · refine lv_iconst (v := 1) hx hb d_M_within_10 (by decide) ?_
      refine lv_goto (tgt := 15) hx hb d_M_within_11 (by decide) ?_
      exact ga_zret (u := y) hC hr hlocks hw (Or.inr rfl) ⟨rfl, Or.inl ⟨rfl, c_2, c_7⟩⟩ (Nat.le_of_ble_eq_true rfl) (Nat.le_of_ble_eq_true rfl) d_M_within_15

set_option maxHeartbeats 4000000 in
set_option maxRecDepth 100000 in
theorem c_M_isEnd (l : Launch) (k : xa_k) (a : Nat → Nat) (y : MS) (v : Int32)  (sz : Nat) : Met l y_M_isEnd (Cond.code y_M_isEnd b_M_isEnd 1 (some .boolean) :: ga_T) ({ frames := 0, cells := 0, slots := 0, locals := 0 }) (va_Pc [.int v] (ga_pre (xa_K k) (ma_W k a y) sz)) (va_Qi (fun (r : Int32) (u : MS) => y = u ∧ ((r = 1 ∧ (¬ v < 0 ∧ ¬ 15 < v)) ∨ (r = 0 ∧ (v < 0 ∨ 15 < v)))) (ga_post (xa_K k) (ma_W k a y) sz (ma_W k a)) (va_A (ma_W k a y) sz)) 0 0 (va_A (ma_W k a y) sz) := by
  refine ga_Met (by decide) (Nat.le_of_ble_eq_true rfl) ?_
  intro p e s m below meth c hC hr hlocks _ hw ls hl
  have hx := hC.1
  have hb := hC.2.1
  have hl : lv_has ls 1 [(0, .int v)] := hl
  refine lv_iload_n hx hb d_M_isEnd_0 rfl (lv_at hl 0 rfl) ?_
  refine lv_if_lt (tgt := 14) hx hb d_M_isEnd_1 (by decide) (fun c_1 => ?_) (fun c_1 => ?_)
  · refine lv_iconst (v := 0) hx hb d_M_isEnd_14 (by decide) ?_
    exact ga_zret (u := y) hC hr hlocks hw (Or.inl rfl) ⟨rfl, Or.inr ⟨rfl, Or.inl c_1⟩⟩ (Nat.le_of_ble_eq_true rfl) (Nat.le_of_ble_eq_true rfl) d_M_isEnd_15
  · refine lv_iload_n hx hb d_M_isEnd_4 rfl (lv_at hl 0 rfl) ?_
    refine lv_bipush (v := 16) hx hb d_M_isEnd_5 (by decide) ?_
    refine lv_icmp_ge (tgt := 14) hx hb d_M_isEnd_7 (by decide) (fun c_7 => ?_) (fun c_7 => ?_)
    · refine lv_iconst (v := 0) hx hb d_M_isEnd_14 (by decide) ?_
      exact ga_zret (u := y) hC hr hlocks hw (Or.inl rfl) ⟨rfl, Or.inr ⟨rfl, Or.inr (ma_16 c_7)⟩⟩ (Nat.le_of_ble_eq_true rfl) (Nat.le_of_ble_eq_true rfl) d_M_isEnd_15
    · refine lv_iconst (v := 1) hx hb d_M_isEnd_10 (by decide) ?_
      refine lv_goto (tgt := 15) hx hb d_M_isEnd_11 (by decide) ?_
      exact ga_zret (u := y) hC hr hlocks hw (Or.inr rfl) ⟨rfl, Or.inl ⟨rfl, c_1, ma_15 c_7⟩⟩ (Nat.le_of_ble_eq_true rfl) (Nat.le_of_ble_eq_true rfl) d_M_isEnd_15

set_option maxHeartbeats 4000000 in
set_option maxRecDepth 100000 in
theorem c_M_areParted (l : Launch) (k : xa_k) (a : Nat → Nat) (y : MS) (i9 j9 : Int32)  (sz : Nat) : Met l y_M_areParted (Cond.code y_M_areParted b_M_areParted 3 (some .boolean) :: ga_T) ({ frames := 0, cells := 0, slots := 0, locals := 0 }) (va_Pc [.ref (a 0), .int i9, .int j9] (ga_pre (xa_K k) (ma_W k a y) sz)) (va_Qi (fun (r : Int32) (u : MS) => y = u ∧ ((r = 1 ∧ ¬ xa_bit (y.1 5) i9 = xa_bit (y.1 5) j9) ∨ (r = 0 ∧ xa_bit (y.1 5) i9 = xa_bit (y.1 5) j9))) (ga_post (xa_K k) (ma_W k a y) sz (ma_W k a)) (va_A (ma_W k a y) sz)) 0 0 (va_A (ma_W k a y) sz) := by
  refine ga_Met (by decide) (Nat.le_of_ble_eq_true rfl) ?_
  intro p e s m below meth c hC hr hlocks _ hw ls hl
  have hx := hC.1
  have hb := hC.2.1
  have hl : lv_has ls 3 [(0, .ref (a 0)), (1, .int i9), (2, .int j9)] := hl
  refine lv_aload_n hx hb d_M_areParted_0 rfl (lv_at hl 0 rfl) ?_
  refine mg_parted (v := y.1 5) hC hw fl_M_104 d_M_areParted_1 rfl ?_
  refine lv_iload_n hx hb d_M_areParted_4 rfl (lv_at hl 1 rfl) ?_
  refine lv_ishr hx hb d_M_areParted_5 ?_
  refine lv_iconst (v := 1) hx hb d_M_areParted_6 (by decide) ?_
  refine lv_iand hx hb d_M_areParted_7 ?_
  refine lv_aload_n hx hb d_M_areParted_8 rfl (lv_at hl 0 rfl) ?_
  refine mg_parted (v := y.1 5) hC hw fl_M_104 d_M_areParted_9 rfl ?_
  refine lv_iload_n hx hb d_M_areParted_12 rfl (lv_at hl 2 rfl) ?_
  refine lv_ishr hx hb d_M_areParted_13 ?_
  refine lv_iconst (v := 1) hx hb d_M_areParted_14 (by decide) ?_
  refine lv_iand hx hb d_M_areParted_15 ?_
  refine lv_icmp_eq (tgt := 23) hx hb d_M_areParted_16 (by decide) (fun c_16 => ?_) (fun c_16 => ?_)
  · refine lv_iconst (v := 0) hx hb d_M_areParted_23 (by decide) ?_
    exact ga_zret (u := y) hC hr hlocks hw (Or.inl rfl) ⟨rfl, Or.inr ⟨rfl, c_16⟩⟩ (Nat.le_of_ble_eq_true rfl) (Nat.le_of_ble_eq_true rfl) d_M_areParted_24
  · refine lv_iconst (v := 1) hx hb d_M_areParted_19 (by decide) ?_
    refine lv_goto (tgt := 24) hx hb d_M_areParted_20 (by decide) ?_
    exact ga_zret (u := y) hC hr hlocks hw (Or.inr rfl) ⟨rfl, Or.inl ⟨rfl, c_16⟩⟩ (Nat.le_of_ble_eq_true rfl) (Nat.le_of_ble_eq_true rfl) d_M_areParted_24

set_option maxHeartbeats 4000000 in
set_option maxRecDepth 100000 in
theorem c_M_drawn (l : Launch) (k : xa_k) (a : Nat → Nat) (y : MS) (m9 : Int32) (h9 : 0 < m9) (sz : Nat) : Met l y_M_drawn (Cond.code y_M_drawn b_M_drawn 2 (some .int) :: ga_T) ({ frames := 0, cells := 0, slots := 0, locals := 0 }) (va_Pc [.ref (a 0), .int m9] (ga_pre (xa_K k) (ma_W k a y) sz)) (va_Qi (fun (r : Int32) (u : MS) => r = xa_draw (xa_lcg (ma_D y)) m9 ∧ u = ma_sD y (xa_lcg (ma_D y))) (ga_post (xa_K k) (ma_W k a y) sz (ma_W k a)) (va_A (ma_W k a y) sz)) 0 0 (va_A (ma_W k a y) sz) := by
  refine ga_Met (by decide) (Nat.le_of_ble_eq_true rfl) ?_
  intro p e s m below meth c hC hr hlocks _ hw ls hl
  have hx := hC.1
  have hb := hC.2.1
  have hl : lv_has ls 2 [(0, .ref (a 0)), (1, .int m9)] := hl
  refine lv_aload_n hx hb d_M_drawn_0 rfl (lv_at hl 0 rfl) ?_
  refine lv_aload_n hx hb d_M_drawn_1 rfl (lv_at hl 0 rfl) ?_
  refine mg_draw (v := ma_D y) hC hw fl_M_96 d_M_drawn_2 rfl ?_
  refine lv_ldc2 (v := 6364136223846793005) hx hb hC.2.2.2.1 (hC.2.2.2.2 _ kc_M_100) d_M_drawn_5 ?_
  refine lv_lmul hx hb d_M_drawn_8 ?_
  refine lv_ldc2 (v := 1442695040888963407) hx hb hC.2.2.2.1 (hC.2.2.2.2 _ kc_M_102) d_M_drawn_9 ?_
  refine lv_ladd hx hb d_M_drawn_12 ?_
  refine mp_draw hC hw fl_M_96 d_M_drawn_13 (fun H locs hw => ?_)
  refine lv_aload_n hx hb d_M_drawn_16 rfl (lv_at hl 0 rfl) ?_
  refine mg_draw (v := ((ma_D y) * 6364136223846793005) + 1442695040888963407) hC hw fl_M_96 d_M_drawn_17 rfl ?_
  refine lv_bipush (v := 33) hx hb d_M_drawn_20 (by decide) ?_
  refine lv_lushr hx hb d_M_drawn_22 rfl ?_
  refine lv_iload_n hx hb d_M_drawn_23 rfl (lv_at hl 1 rfl) ?_
  refine lv_i2l hx hb d_M_drawn_24 rfl ?_
  refine lv_lrem hx hb d_M_drawn_25 (xa_nz h9) ?_
  refine lv_l2i hx hb d_M_drawn_26 rfl ?_
  exact ga_iret (u := ma_sD y (((ma_D y) * 6364136223846793005) + 1442695040888963407)) hC hr hlocks hw ⟨rfl, rfl⟩ (Nat.le_of_ble_eq_true rfl) (Nat.le_of_ble_eq_true rfl) d_M_drawn_27

set_option maxHeartbeats 4000000 in
set_option maxRecDepth 100000 in
theorem c_M_event (l : Launch) (k : xa_k) (a : Nat → Nat) (y : MS) (t9 s9 e9 f9 : Int32) (M : Nat) (hM : y.1 2 = nI M) (hM2 : M < 1700) (sz : Nat) : Met l y_M_event (Cond.code y_M_event b_M_event 5 (some .int) :: ga_T) ({ frames := 0, cells := 0, slots := 0, locals := 0 }) (va_Pc [.ref (a 0), .int t9, .int s9, .int e9, .int f9] (ga_pre (xa_K k) (ma_W k a y) sz)) (va_Qi (fun (r : Int32) (u : MS) => r = nI M ∧ u = ma_ev y M t9 s9 e9 f9) (ga_post (xa_K k) (ma_W k a y) sz (ma_W k a)) (va_A (ma_W k a y) sz)) 0 0 (va_A (ma_W k a y) sz) := by
  refine ga_Met (by decide) (Nat.le_of_ble_eq_true rfl) ?_
  intro p e s m below meth c hC hr hlocks _ hw ls hl
  have hx := hC.1
  have hb := hC.2.1
  have hl : lv_has ls 5 [(0, .ref (a 0)), (1, .int t9), (2, .int s9), (3, .int e9), (4, .int f9)] := hl
  refine lv_aload_n hx hb d_M_event_0 rfl (lv_at hl 0 rfl) ?_
  refine mg_times hC hw fl_M_7 d_M_event_1 ?_
  refine lv_aload_n hx hb d_M_event_4 rfl (lv_at hl 0 rfl) ?_
  refine mg_made (v := y.1 2) hC hw fl_M_67 d_M_event_5 rfl ?_
  refine ga_asi (v := nI M) (hM) ?_
  refine lv_iload_n hx hb d_M_event_8 rfl (lv_at hl 1 rfl) ?_
  refine ms_times hC hw (vp_in_nI hM2 (by decide)) d_M_event_9 (fun H locs hw => ?_)
  refine lv_aload_n hx hb d_M_event_10 rfl (lv_at hl 0 rfl) ?_
  refine mg_sorts hC hw fl_M_13 d_M_event_11 ?_
  refine lv_aload_n hx hb d_M_event_14 rfl (lv_at hl 0 rfl) ?_
  refine mg_made (v := y.1 2) hC hw fl_M_67 d_M_event_15 rfl ?_
  refine ga_asi (v := nI M) (hM) ?_
  refine lv_iload_n hx hb d_M_event_18 rfl (lv_at hl 2 rfl) ?_
  refine ms_sorts hC hw (vp_in_nI hM2 (by decide)) d_M_event_19 (fun H locs hw => ?_)
  refine lv_aload_n hx hb d_M_event_20 rfl (lv_at hl 0 rfl) ?_
  refine mg_whose hC hw fl_M_16 d_M_event_21 ?_
  refine lv_aload_n hx hb d_M_event_24 rfl (lv_at hl 0 rfl) ?_
  refine mg_made (v := y.1 2) hC hw fl_M_67 d_M_event_25 rfl ?_
  refine ga_asi (v := nI M) (hM) ?_
  refine lv_iload_n hx hb d_M_event_28 rfl (lv_at hl 3 rfl) ?_
  refine ms_whose hC hw (vp_in_nI hM2 (by decide)) d_M_event_29 (fun H locs hw => ?_)
  refine lv_aload_n hx hb d_M_event_30 rfl (lv_at hl 0 rfl) ?_
  refine mg_froms hC hw fl_M_19 d_M_event_31 ?_
  refine lv_aload_n hx hb d_M_event_34 rfl (lv_at hl 0 rfl) ?_
  refine mg_made (v := y.1 2) hC hw fl_M_67 d_M_event_35 rfl ?_
  refine ga_asi (v := nI M) (hM) ?_
  refine lv_iload hx hb d_M_event_38 (lv_at hl 4 rfl) ?_
  refine ms_froms hC hw (vp_in_nI hM2 (by decide)) d_M_event_40 (fun H locs hw => ?_)
  refine lv_aload_n hx hb d_M_event_41 rfl (lv_at hl 0 rfl) ?_
  refine mg_there hC hw fl_M_28 d_M_event_42 ?_
  refine lv_aload_n hx hb d_M_event_45 rfl (lv_at hl 0 rfl) ?_
  refine mg_made (v := y.1 2) hC hw fl_M_67 d_M_event_46 rfl ?_
  refine ga_asi (v := nI M) (hM) ?_
  refine lv_iconst (v := 1) hx hb d_M_event_49 (by decide) ?_
  refine ms_there hC hw (vp_in_nI hM2 (by decide)) d_M_event_50 (fun H locs hw => ?_)
  refine lv_aload_n hx hb d_M_event_51 rfl (lv_at hl 0 rfl) ?_
  refine lv_dup hx hb d_M_event_52 rfl ?_
  refine mg_made (v := y.1 2) hC hw fl_M_67 d_M_event_53 rfl ?_
  refine ga_asi (v := nI M) (hM) ?_
  refine lv_iconst (v := 1) hx hb d_M_event_56 (by decide) ?_
  refine lv_iadd hx hb d_M_event_57 ?_
  refine ga_asi (v := nI (M + 1)) (nI_1 M) ?_
  refine mp_made hC hw fl_M_67 d_M_event_58 (fun H locs hw => ?_)
  refine lv_aload_n hx hb d_M_event_61 rfl (lv_at hl 0 rfl) ?_
  refine mg_made (v := nI (M + 1)) hC hw fl_M_67 d_M_event_62 rfl ?_
  refine lv_iconst (v := 1) hx hb d_M_event_65 (by decide) ?_
  refine lv_isub hx hb d_M_event_66 ?_
  refine ga_asi (v := nI M) (nI_pred M) ?_
  exact ga_iret (u := ma_sI (ma_sA (ma_sA (ma_sA (ma_sA (ma_sA y 0 (upd (ma_A y 0) (nI M).toNatClampNeg t9)) 1 (upd (ma_A y 1) (nI M).toNatClampNeg s9)) 2 (upd (ma_A y 2) (nI M).toNatClampNeg e9)) 3 (upd (ma_A y 3) (nI M).toNatClampNeg f9)) 6 (upd (ma_A y 6) (nI M).toNatClampNeg (vp_nar .boolean 1))) 2 (nI (M + 1))) hC hr hlocks hw ⟨rfl, by unfold ma_ev; rw [nI_clamp (by omega)] <;> rfl⟩ (Nat.le_of_ble_eq_true rfl) (Nat.le_of_ble_eq_true rfl) d_M_event_67
set_option maxHeartbeats 4000000 in
set_option maxRecDepth 100000 in
theorem lp_M_find {p : Program} {l : Launch} {e : Env} {s : State} {m : MethodId} {args : Array Value} {below : List Frame} {meth : Method} {c : Code} {k : xa_k} {a : Nat → Nat} {y : MS} {M sz : Nat} {s9 e9 : Int32} (hC : CallFix p m c b_M_find 5 s args ga_T "NetWiresModel") (hr : meth.sig.returnType = some .int) (hlocks : meth.locks = false) (hM : y.1 2 = nI M) (hM2 : M ≤ 1700) :
    ∀ (d i : Nat) (bs : Int32) (H : Heap) (locs : List Loc) (ls : Array Slot), d + i = M → ((bs = -1 ∧ ∀ f, f < i → ¬ ma_mt y f s9 e9) ∨ (∃ b, b < i ∧ bs = nI b ∧ ma_mt y b s9 e9 ∧ ∀ f, b < f → f < i → ¬ ma_mt y f s9 e9)) → ga_w (xa_K k) (ma_W k a y) (va_A (ma_W k a y) sz) s H locs → lv_has ls 5 [(4, .int (nI i)), (3, .int bs), (0, .ref (a 0)), (1, .int s9), (2, .int e9)] → W p l e ({ frames := 0, cells := 0, slots := 0, locals := 0 }) s m args below meth c H locs 0 0 (MQ below (va_Qi (fun (r : Int32) (u : MS) => y = u ∧ ((r = -1 ∧ ∀ f, f < M → ¬ ma_mt y f s9 e9) ∨ (∃ b, b < M ∧ r = nI b ∧ ma_mt y b s9 e9 ∧ ∀ f, b < f → f < M → ¬ ma_mt y f s9 e9))) (ga_post (xa_K k) (ma_W k a y) sz (ma_W k a)) (va_A (ma_W k a y) sz)) args s 0 0 (va_A (ma_W k a y) sz)) (F0 m 5 ls []) := by
  have hx := hC.1
  have hb := hC.2.1
  intro d
  induction d with
  | zero =>
    intro i bs H locs ls hd hi hw hl
    have e : i = M := by omega
    subst e
    refine lv_iload hx hb d_M_find_5 (lv_at hl 0 rfl) ?_
    refine lv_aload_n hx hb d_M_find_7 rfl (lv_at hl 2 rfl) ?_
    refine mg_made (v := y.1 2) hC hw fl_M_67 d_M_find_8 rfl ?_
    refine ga_asi (v := nI i) (hM) ?_
    refine lv_icmp_ge (tgt := 55) hx hb d_M_find_11 (by decide) (fun c_11 => ?_) (fun c_11 => ?_)
    · refine lv_iload_n hx hb d_M_find_55 rfl (lv_at hl 1 rfl) ?_
      exact ga_iret (u := y) hC hr hlocks hw ⟨rfl, hi⟩ (Nat.le_of_ble_eq_true rfl) (Nat.le_of_ble_eq_true rfl) d_M_find_56
    · exact absurd (Int32.le_refl _) c_11
  | succ d ih =>
    intro i bs H locs ls hd hi hw hl
    have hi2 : i < M := by omega
    refine lv_iload hx hb d_M_find_5 (lv_at hl 0 rfl) ?_
    refine lv_aload_n hx hb d_M_find_7 rfl (lv_at hl 2 rfl) ?_
    refine mg_made (v := y.1 2) hC hw fl_M_67 d_M_find_8 rfl ?_
    refine ga_asi (v := nI M) (hM) ?_
    refine lv_icmp_ge (tgt := 55) hx hb d_M_find_11 (by decide) (fun c_11 => ?_) (fun c_11 => ?_)
    · exact absurd c_11 (nI_ge hi2 (by omega))
    · refine lv_aload_n hx hb d_M_find_14 rfl (lv_at hl 2 rfl) ?_
      refine mg_there hC hw fl_M_28 d_M_find_15 ?_
      refine lv_iload hx hb d_M_find_18 (lv_at hl 0 rfl) ?_
      refine mr_there (v := (ma_A y 6) i) hC hw (vp_in_nI (by omega) (by decide)) d_M_find_20 (by rw [nI_clamp (by omega)] <;> rfl) ?_
      refine lv_if_eq (tgt := 49) hx hb d_M_find_21 (by decide) (fun c_21 => ?_) (fun c_21 => ?_)
      · refine lv_iinc (v := nI (i + 1)) (lv' := [(4, .int (nI (i + 1))), (3, .int bs), (0, .ref (a 0)), (1, .int s9), (2, .int e9)]) hx hb d_M_find_49 hl (k := 0) rfl (nI_1 i) (by decide) rfl (fun ls hl => ?_)
        refine lv_goto (tgt := 5) hx hb d_M_find_52 (by decide) ?_
        have hne : ¬ ma_mt y i s9 e9 := fun h => h.1 c_21
        refine ih (i + 1) bs H locs ls (by omega) (ma_next hi hne) hw (lv_sub hl [0, 1, 2, 3, 4] rfl)
      · refine lv_aload_n hx hb d_M_find_24 rfl (lv_at hl 2 rfl) ?_
        refine mg_sorts hC hw fl_M_13 d_M_find_25 ?_
        refine lv_iload hx hb d_M_find_28 (lv_at hl 0 rfl) ?_
        refine mr_sorts (v := (ma_A y 1) i) hC hw (vp_in_nI (by omega) (by decide)) d_M_find_30 (by rw [nI_clamp (by omega)] <;> rfl) ?_
        refine lv_iload_n hx hb d_M_find_31 rfl (lv_at hl 3 rfl) ?_
        refine lv_icmp_ne (tgt := 49) hx hb d_M_find_32 (by decide) (fun c_32 => ?_) (fun c_32 => ?_)
        · refine lv_iinc (v := nI (i + 1)) (lv' := [(4, .int (nI (i + 1))), (3, .int bs), (0, .ref (a 0)), (1, .int s9), (2, .int e9)]) hx hb d_M_find_49 hl (k := 0) rfl (nI_1 i) (by decide) rfl (fun ls hl => ?_)
          refine lv_goto (tgt := 5) hx hb d_M_find_52 (by decide) ?_
          have hne : ¬ ma_mt y i s9 e9 := fun h => c_32 h.2.1
          refine ih (i + 1) bs H locs ls (by omega) (ma_next hi hne) hw (lv_sub hl [0, 1, 2, 3, 4] rfl)
        · refine lv_aload_n hx hb d_M_find_35 rfl (lv_at hl 2 rfl) ?_
          refine mg_whose hC hw fl_M_16 d_M_find_36 ?_
          refine lv_iload hx hb d_M_find_39 (lv_at hl 0 rfl) ?_
          refine mr_whose (v := (ma_A y 2) i) hC hw (vp_in_nI (by omega) (by decide)) d_M_find_41 (by rw [nI_clamp (by omega)] <;> rfl) ?_
          refine lv_iload_n hx hb d_M_find_42 rfl (lv_at hl 4 rfl) ?_
          refine lv_icmp_ne (tgt := 49) hx hb d_M_find_43 (by decide) (fun c_43 => ?_) (fun c_43 => ?_)
          · refine lv_iinc (v := nI (i + 1)) (lv' := [(4, .int (nI (i + 1))), (3, .int bs), (0, .ref (a 0)), (1, .int s9), (2, .int e9)]) hx hb d_M_find_49 hl (k := 0) rfl (nI_1 i) (by decide) rfl (fun ls hl => ?_)
            refine lv_goto (tgt := 5) hx hb d_M_find_52 (by decide) ?_
            have hne : ¬ ma_mt y i s9 e9 := fun h => c_43 h.2.2
            refine ih (i + 1) bs H locs ls (by omega) (ma_next hi hne) hw (lv_sub hl [0, 1, 2, 3, 4] rfl)
          · refine lv_iload hx hb d_M_find_46 (lv_at hl 0 rfl) ?_
            refine lv_istore_n (lv' := [(3, .int (nI i)), (4, .int (nI i)), (0, .ref (a 0)), (1, .int s9), (2, .int e9)]) hx hb d_M_find_48 rfl hl (by decide) rfl (fun ls hl => ?_)
            refine lv_iinc (v := nI (i + 1)) (lv' := [(4, .int (nI (i + 1))), (3, .int (nI i)), (0, .ref (a 0)), (1, .int s9), (2, .int e9)]) hx hb d_M_find_49 hl (k := 1) rfl (nI_1 i) (by decide) rfl (fun ls hl => ?_)
            refine lv_goto (tgt := 5) hx hb d_M_find_52 (by decide) ?_
            exact ih (i + 1) (nI i) H locs ls (by omega) (Or.inr ⟨i, Nat.lt_succ_self i, rfl, ⟨c_21, c_32, c_43⟩, fun f h1 h2 => absurd h2 (by omega)⟩) hw (lv_sub hl [0, 1, 2, 3, 4] rfl)
set_option maxHeartbeats 4000000 in
set_option maxRecDepth 100000 in
theorem c_M_find (l : Launch) (k : xa_k) (a : Nat → Nat) (y : MS) (s9 e9 : Int32) (M : Nat) (hM : y.1 2 = nI M) (hM2 : M ≤ 1700) (sz : Nat) : Met l y_M_find (Cond.code y_M_find b_M_find 5 (some .int) :: ga_T) ({ frames := 0, cells := 0, slots := 0, locals := 0 }) (va_Pc [.ref (a 0), .int s9, .int e9] (ga_pre (xa_K k) (ma_W k a y) sz)) (va_Qi (fun (r : Int32) (u : MS) => y = u ∧ ((r = -1 ∧ ∀ f, f < M → ¬ ma_mt y f s9 e9) ∨ (∃ b, b < M ∧ r = nI b ∧ ma_mt y b s9 e9 ∧ ∀ f, b < f → f < M → ¬ ma_mt y f s9 e9))) (ga_post (xa_K k) (ma_W k a y) sz (ma_W k a)) (va_A (ma_W k a y) sz)) 0 0 (va_A (ma_W k a y) sz) := by
  refine ga_Met (by decide) (Nat.le_of_ble_eq_true rfl) ?_
  intro p e s m below meth c hC hr hlocks _ hw ls hl
  have hx := hC.1
  have hb := hC.2.1
  have hl : lv_has ls 5 [(0, .ref (a 0)), (1, .int s9), (2, .int e9)] := hl
  refine lv_iconst (v := (-1)) hx hb d_M_find_0 (by decide) ?_
  refine lv_istore_n (lv' := [(3, .int ((-1))), (0, .ref (a 0)), (1, .int s9), (2, .int e9)]) hx hb d_M_find_1 rfl hl (by decide) rfl (fun ls hl => ?_)
  refine lv_iconst (v := 0) hx hb d_M_find_2 (by decide) ?_
  refine lv_istore (lv' := [(4, .int 0), (3, .int ((-1))), (0, .ref (a 0)), (1, .int s9), (2, .int e9)]) hx hb d_M_find_3 hl (by decide) rfl (fun ls hl => ?_)
  exact lp_M_find hC hr hlocks hM hM2 M 0 (-1) s.heap [] ls (Nat.add_zero M) (Or.inl ⟨rfl, fun f h => absurd h (Nat.not_lt_zero f)⟩) hw hl
set_option maxHeartbeats 4000000 in
set_option maxRecDepth 100000 in
theorem lp_M_least {p : Program} {l : Launch} {e : Env} {s : State} {m : MethodId} {args : Array Value} {below : List Frame} {meth : Method} {c : Code} {k : xa_k} {a : Nat → Nat} {y : MS} {M sz : Nat} (hC : CallFix p m c b_M_least 3 s args ga_T "NetWiresModel") (hr : meth.sig.returnType = some .int) (hlocks : meth.locks = false) (hM : y.1 2 = nI M) (hM2 : M ≤ 1700) :
    ∀ (d i : Nat) (bs : Int32) (H : Heap) (locs : List Loc) (ls : Array Slot), d + i = M → ma_lst y i bs → ga_w (xa_K k) (ma_W k a y) (va_A (ma_W k a y) sz) s H locs → lv_has ls 3 [(2, .int (nI i)), (1, .int bs), (0, .ref (a 0))] → W p l e ({ frames := 0, cells := 0, slots := 0, locals := 0 }) s m args below meth c H locs 0 0 (MQ below (va_Qi (fun (r : Int32) (u : MS) => y = u ∧ ma_lst y M r) (ga_post (xa_K k) (ma_W k a y) sz (ma_W k a)) (va_A (ma_W k a y) sz)) args s 0 0 (va_A (ma_W k a y) sz)) (F0 m 4 ls []) := by
  have hx := hC.1
  have hb := hC.2.1
  intro d
  induction d with
  | zero =>
    intro i bs H locs ls hd hi hw hl
    have e : i = M := by omega
    subst e
    refine lv_iload_n hx hb d_M_least_4 rfl (lv_at hl 0 rfl) ?_
    refine lv_aload_n hx hb d_M_least_5 rfl (lv_at hl 2 rfl) ?_
    refine mg_made (v := y.1 2) hC hw fl_M_67 d_M_least_6 rfl ?_
    refine ga_asi (v := nI i) (hM) ?_
    refine lv_icmp_ge (tgt := 48) hx hb d_M_least_9 (by decide) (fun c_9 => ?_) (fun c_9 => ?_)
    · refine lv_iload_n hx hb d_M_least_48 rfl (lv_at hl 1 rfl) ?_
      exact ga_iret (u := y) hC hr hlocks hw ⟨rfl, hi⟩ (Nat.le_of_ble_eq_true rfl) (Nat.le_of_ble_eq_true rfl) d_M_least_49
    · exact absurd (Int32.le_refl _) c_9
  | succ d ih =>
    intro i bs H locs ls hd hi hw hl
    have hi2 : i < M := by omega
    refine lv_iload_n hx hb d_M_least_4 rfl (lv_at hl 0 rfl) ?_
    refine lv_aload_n hx hb d_M_least_5 rfl (lv_at hl 2 rfl) ?_
    refine mg_made (v := y.1 2) hC hw fl_M_67 d_M_least_6 rfl ?_
    refine ga_asi (v := nI M) (hM) ?_
    refine lv_icmp_ge (tgt := 48) hx hb d_M_least_9 (by decide) (fun c_9 => ?_) (fun c_9 => ?_)
    · exact absurd c_9 (nI_ge hi2 (by omega))
    · refine lv_aload_n hx hb d_M_least_12 rfl (lv_at hl 2 rfl) ?_
      refine mg_there hC hw fl_M_28 d_M_least_13 ?_
      refine lv_iload_n hx hb d_M_least_16 rfl (lv_at hl 0 rfl) ?_
      refine mr_there (v := (ma_A y 6) i) hC hw (vp_in_nI (by omega) (by decide)) d_M_least_17 (by rw [nI_clamp (by omega)] <;> rfl) ?_
      refine lv_if_eq (tgt := 42) hx hb d_M_least_18 (by decide) (fun c_18 => ?_) (fun c_18 => ?_)
      · refine lv_iinc (v := nI (i + 1)) (lv' := [(2, .int (nI (i + 1))), (1, .int bs), (0, .ref (a 0))]) hx hb d_M_least_42 hl (k := 0) rfl (nI_1 i) (by decide) rfl (fun ls hl => ?_)
        refine lv_goto (tgt := 4) hx hb d_M_least_45 (by decide) ?_
        exact ih (i + 1) bs H locs ls (by omega) (ma_lst_no hi c_18) hw (lv_sub hl [0, 1, 2] rfl)
      · refine lv_iload_n hx hb d_M_least_21 rfl (lv_at hl 1 rfl) ?_
        refine lv_if_lt (tgt := 40) hx hb d_M_least_22 (by decide) (fun c_22 => ?_) (fun c_22 => ?_)
        · refine lv_iload_n hx hb d_M_least_40 rfl (lv_at hl 0 rfl) ?_
          refine lv_istore_n (lv' := [(1, .int (nI i)), (2, .int (nI i)), (0, .ref (a 0))]) hx hb d_M_least_41 rfl hl (by decide) rfl (fun ls hl => ?_)
          refine lv_iinc (v := nI (i + 1)) (lv' := [(2, .int (nI (i + 1))), (1, .int (nI i)), (0, .ref (a 0))]) hx hb d_M_least_42 hl (k := 1) rfl (nI_1 i) (by decide) rfl (fun ls hl => ?_)
          refine lv_goto (tgt := 4) hx hb d_M_least_45 (by decide) ?_
          exact ih (i + 1) (nI i) H locs ls (by omega) (ma_lst_first hi c_18 c_22 (by omega)) hw (lv_sub hl [0, 1, 2] rfl)
        · obtain ⟨b9, hb9, eb⟩ := ma_lst_ge hi c_22
          refine lv_aload_n hx hb d_M_least_25 rfl (lv_at hl 2 rfl) ?_
          refine mg_times hC hw fl_M_7 d_M_least_26 ?_
          refine lv_iload_n hx hb d_M_least_29 rfl (lv_at hl 0 rfl) ?_
          refine mr_times (v := (ma_A y 0) i) hC hw (vp_in_nI (by omega) (by decide)) d_M_least_30 (by rw [nI_clamp (by omega)] <;> rfl) ?_
          refine lv_aload_n hx hb d_M_least_31 rfl (lv_at hl 2 rfl) ?_
          refine mg_times hC hw fl_M_7 d_M_least_32 ?_
          refine lv_iload_n hx hb d_M_least_35 rfl (lv_at hl 1 rfl) ?_
          refine mr_times (v := ma_A y 0 b9) hC hw (by rw [eb]; exact vp_in_nI (by omega) (by decide)) d_M_least_36 (by rw [eb, nI_clamp (by omega)]) ?_
          refine lv_icmp_ge (tgt := 42) hx hb d_M_least_37 (by decide) (fun c_37 => ?_) (fun c_37 => ?_)
          · refine lv_iinc (v := nI (i + 1)) (lv' := [(2, .int (nI (i + 1))), (1, .int bs), (0, .ref (a 0))]) hx hb d_M_least_42 hl (k := 0) rfl (nI_1 i) (by decide) rfl (fun ls hl => ?_)
            refine lv_goto (tgt := 4) hx hb d_M_least_45 (by decide) ?_
            exact ih (i + 1) bs H locs ls (by omega) (ma_lst_keep hi eb c_18 c_37 (by omega)) hw (lv_sub hl [0, 1, 2] rfl)
          · refine lv_iload_n hx hb d_M_least_40 rfl (lv_at hl 0 rfl) ?_
            refine lv_istore_n (lv' := [(1, .int (nI i)), (2, .int (nI i)), (0, .ref (a 0))]) hx hb d_M_least_41 rfl hl (by decide) rfl (fun ls hl => ?_)
            refine lv_iinc (v := nI (i + 1)) (lv' := [(2, .int (nI (i + 1))), (1, .int (nI i)), (0, .ref (a 0))]) hx hb d_M_least_42 hl (k := 1) rfl (nI_1 i) (by decide) rfl (fun ls hl => ?_)
            refine lv_goto (tgt := 4) hx hb d_M_least_45 (by decide) ?_
            exact ih (i + 1) (nI i) H locs ls (by omega) (ma_lst_new hi eb c_18 c_37 (by omega)) hw (lv_sub hl [0, 1, 2] rfl)
set_option maxHeartbeats 4000000 in
set_option maxRecDepth 100000 in
theorem c_M_least (l : Launch) (k : xa_k) (a : Nat → Nat) (y : MS) (M : Nat) (hM : y.1 2 = nI M) (hM2 : M ≤ 1700) (sz : Nat) : Met l y_M_least (Cond.code y_M_least b_M_least 3 (some .int) :: ga_T) ({ frames := 0, cells := 0, slots := 0, locals := 0 }) (va_Pc [.ref (a 0)] (ga_pre (xa_K k) (ma_W k a y) sz)) (va_Qi (fun (r : Int32) (u : MS) => y = u ∧ ma_lst y M r) (ga_post (xa_K k) (ma_W k a y) sz (ma_W k a)) (va_A (ma_W k a y) sz)) 0 0 (va_A (ma_W k a y) sz) := by
  refine ga_Met (by decide) (Nat.le_of_ble_eq_true rfl) ?_
  intro p e s m below meth c hC hr hlocks _ hw ls hl
  have hx := hC.1
  have hb := hC.2.1
  have hl : lv_has ls 3 [(0, .ref (a 0))] := hl
  refine lv_iconst (v := (-1)) hx hb d_M_least_0 (by decide) ?_
  refine lv_istore_n (lv' := [(1, .int ((-1))), (0, .ref (a 0))]) hx hb d_M_least_1 rfl hl (by decide) rfl (fun ls hl => ?_)
  refine lv_iconst (v := 0) hx hb d_M_least_2 (by decide) ?_
  refine lv_istore_n (lv' := [(2, .int 0), (1, .int ((-1))), (0, .ref (a 0))]) hx hb d_M_least_3 rfl hl (by decide) rfl (fun ls hl => ?_)
  exact lp_M_least hC hr hlocks hM hM2 M 0 (-1) s.heap [] ls (Nat.add_zero M) (Or.inl ⟨rfl, fun f h => absurd h (Nat.not_lt_zero f)⟩) hw hl
