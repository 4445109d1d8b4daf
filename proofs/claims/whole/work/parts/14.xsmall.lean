set_option maxHeartbeats 4000000 in
set_option maxRecDepth 100000 in
theorem c_NetWires_isWithin (l : Launch) (k : xa_k) (x : XS) (v lo hi : Int32)  (sz : Nat) : Met l y_NetWires_isWithin (Cond.code y_NetWires_isWithin b_NetWires_isWithin 3 (some .boolean) :: ga_T) ({ frames := 0, cells := 0, slots := 0, locals := 0 }) (va_Pc [.int v, .int lo, .int hi] (ga_pre (xa_K k) (xa_W k x) sz)) (va_Qi (fun (r : Int32) (u : XS) => x = u ∧ ((r = 1 ∧ (¬ v < lo ∧ ¬ hi < v)) ∨ (r = 0 ∧ (v < lo ∨ hi < v)))) (ga_post (xa_K k) (xa_W k x) sz (xa_W k)) (va_A (xa_W k x) sz)) 0 0 (va_A (xa_W k x) sz) := by
  refine ga_Met (by decide) (Nat.le_of_ble_eq_true rfl) ?_
  intro p e s m below meth c hC hr hlocks _ hw ls hl
  have hx := hC.1
  have hb := hC.2.1
  have hl : lv_has ls 3 [(0, .int v), (1, .int lo), (2, .int hi)] := hl
  refine lv_iload_n hx hb d_NetWires_isWithin_0 rfl (lv_at hl 0 rfl) ?_
  refine lv_iload_n hx hb d_NetWires_isWithin_1 rfl (lv_at hl 1 rfl) ?_
  refine lv_icmp_lt (tgt := 14) hx hb d_NetWires_isWithin_2 (by decide) (fun c_2 => ?_) (fun c_2 => ?_)
  · refine lv_iconst (v := 0) hx hb d_NetWires_isWithin_14 (by decide) ?_
    exact ga_zret (u := x) hC hr hlocks hw (Or.inl rfl) ⟨rfl, Or.inr ⟨rfl, Or.inl c_2⟩⟩ (Nat.le_of_ble_eq_true rfl) (Nat.le_of_ble_eq_true rfl) d_NetWires_isWithin_15
  · refine lv_iload_n hx hb d_NetWires_isWithin_5 rfl (lv_at hl 0 rfl) ?_
    refine lv_iload_n hx hb d_NetWires_isWithin_6 rfl (lv_at hl 2 rfl) ?_
    refine lv_icmp_gt (tgt := 14) hx hb d_NetWires_isWithin_7 (by decide) (fun c_7 => ?_) (fun c_7 => ?_)
    · refine lv_iconst (v := 0) hx hb d_NetWires_isWithin_14 (by decide) ?_
      exact ga_zret (u := x) hC hr hlocks hw (Or.inl rfl) ⟨rfl, Or.inr ⟨rfl, Or.inr c_7⟩⟩ (Nat.le_of_ble_eq_true rfl) (Nat.le_of_ble_eq_true rfl) d_NetWires_isWithin_15
    · refine lv_iconst (v := 1) hx hb d_NetWires_isWithin_10 (by decide) ?_
      refine lv_goto (tgt := 15) hx hb d_NetWires_isWithin_11 (by decide) ?_
      exact ga_zret (u := x) hC hr hlocks hw (Or.inr rfl) ⟨rfl, Or.inl ⟨rfl, c_2, c_7⟩⟩ (Nat.le_of_ble_eq_true rfl) (Nat.le_of_ble_eq_true rfl) d_NetWires_isWithin_15

set_option maxHeartbeats 4000000 in
set_option maxRecDepth 100000 in
theorem c_NetWires_isIn (l : Launch) (k : xa_k) (x : XS) (set ep : Int32)  (sz : Nat) : Met l y_NetWires_isIn (Cond.code y_NetWires_isIn b_NetWires_isIn 2 (some .boolean) :: ga_T) ({ frames := 0, cells := 0, slots := 0, locals := 0 }) (va_Pc [.int set, .int ep] (ga_pre (xa_K k) (xa_W k x) sz)) (va_Qi (fun (r : Int32) (u : XS) => x = u ∧ ((r = 1 ∧ xa_bit set ep = 1) ∨ (r = 0 ∧ ¬ xa_bit set ep = 1))) (ga_post (xa_K k) (xa_W k x) sz (xa_W k)) (va_A (xa_W k x) sz)) 0 0 (va_A (xa_W k x) sz) := by
  refine ga_Met (by decide) (Nat.le_of_ble_eq_true rfl) ?_
  intro p e s m below meth c hC hr hlocks _ hw ls hl
  have hx := hC.1
  have hb := hC.2.1
  have hl : lv_has ls 2 [(0, .int set), (1, .int ep)] := hl
  refine lv_iload_n hx hb d_NetWires_isIn_0 rfl (lv_at hl 0 rfl) ?_
  refine lv_iload_n hx hb d_NetWires_isIn_1 rfl (lv_at hl 1 rfl) ?_
  refine lv_ishr hx hb d_NetWires_isIn_2 ?_
  refine lv_iconst (v := 1) hx hb d_NetWires_isIn_3 (by decide) ?_
  refine lv_iand hx hb d_NetWires_isIn_4 ?_
  refine lv_iconst (v := 1) hx hb d_NetWires_isIn_5 (by decide) ?_
  refine lv_icmp_ne (tgt := 13) hx hb d_NetWires_isIn_6 (by decide) (fun c_6 => ?_) (fun c_6 => ?_)
  · refine lv_iconst (v := 0) hx hb d_NetWires_isIn_13 (by decide) ?_
    exact ga_zret (u := x) hC hr hlocks hw (Or.inl rfl) ⟨rfl, Or.inr ⟨rfl, c_6⟩⟩ (Nat.le_of_ble_eq_true rfl) (Nat.le_of_ble_eq_true rfl) d_NetWires_isIn_14
  · refine lv_iconst (v := 1) hx hb d_NetWires_isIn_9 (by decide) ?_
    refine lv_goto (tgt := 14) hx hb d_NetWires_isIn_10 (by decide) ?_
    exact ga_zret (u := x) hC hr hlocks hw (Or.inr rfl) ⟨rfl, Or.inl ⟨rfl, c_6⟩⟩ (Nat.le_of_ble_eq_true rfl) (Nat.le_of_ble_eq_true rfl) d_NetWires_isIn_14

set_option maxHeartbeats 4000000 in
set_option maxRecDepth 100000 in
theorem c_NetWires_linkOf (l : Launch) (k : xa_k) (x : XS) (fr to : Int32)  (sz : Nat) : Met l y_NetWires_linkOf (Cond.code y_NetWires_linkOf b_NetWires_linkOf 2 (some .int) :: ga_T) ({ frames := 0, cells := 0, slots := 0, locals := 0 }) (va_Pc [.int fr, .int to] (ga_pre (xa_K k) (xa_W k x) sz)) (va_Qi (fun (r : Int32) (u : XS) => r = fr * 16 + to ∧ x = u) (ga_post (xa_K k) (xa_W k x) sz (xa_W k)) (va_A (xa_W k x) sz)) 0 0 (va_A (xa_W k x) sz) := by
  refine ga_Met (by decide) (Nat.le_of_ble_eq_true rfl) ?_
  intro p e s m below meth c hC hr hlocks _ hw ls hl
  have hx := hC.1
  have hb := hC.2.1
  have hl : lv_has ls 2 [(0, .int fr), (1, .int to)] := hl
  refine lv_iload_n hx hb d_NetWires_linkOf_0 rfl (lv_at hl 0 rfl) ?_
  refine lv_bipush (v := 16) hx hb d_NetWires_linkOf_1 (by decide) ?_
  refine lv_imul hx hb d_NetWires_linkOf_3 ?_
  refine lv_iload_n hx hb d_NetWires_linkOf_4 rfl (lv_at hl 1 rfl) ?_
  refine lv_iadd hx hb d_NetWires_linkOf_5 ?_
  exact ga_iret (u := x) hC hr hlocks hw ⟨rfl, rfl⟩ (Nat.le_of_ble_eq_true rfl) (Nat.le_of_ble_eq_true rfl) d_NetWires_linkOf_6

set_option maxHeartbeats 4000000 in
set_option maxRecDepth 100000 in
theorem c_NetWires_takeNumber (l : Launch) (k : xa_k) (x : XS)   (sz : Nat) : Met l y_NetWires_takeNumber (Cond.code y_NetWires_takeNumber b_NetWires_takeNumber 2 (some .int) :: ga_T) ({ frames := 0, cells := 0, slots := 0, locals := 0 }) (va_Pc [.ref (xa_a k 0)] (ga_pre (xa_K k) (xa_W k x) sz)) (va_Qi (fun (r : Int32) (u : XS) => r = x.1 1 ∧ u = xa_sI x 1 (x.1 1 + 1)) (ga_post (xa_K k) (xa_W k x) sz (xa_W k)) (va_A (xa_W k x) sz)) 0 0 (va_A (xa_W k x) sz) := by
  refine ga_Met (by decide) (Nat.le_of_ble_eq_true rfl) ?_
  intro p e s m below meth c hC hr hlocks _ hw ls hl
  have hx := hC.1
  have hb := hC.2.1
  have hl : lv_has ls 2 [(0, .ref (xa_a k 0))] := hl
  refine lv_aload_n hx hb d_NetWires_takeNumber_0 rfl (lv_at hl 0 rfl) ?_
  refine xg_NetWires_nextNumber (v := x.1 1) hC hw fl_NetWires_51 d_NetWires_takeNumber_1 rfl ?_
  refine lv_istore_n (lv' := [(1, .int (x.1 1)), (0, .ref (xa_a k 0))]) hx hb d_NetWires_takeNumber_4 rfl hl (by decide) rfl (fun ls hl => ?_)
  refine lv_aload_n hx hb d_NetWires_takeNumber_5 rfl (lv_at hl 1 rfl) ?_
  refine lv_dup hx hb d_NetWires_takeNumber_6 rfl ?_
  refine xg_NetWires_nextNumber (v := x.1 1) hC hw fl_NetWires_51 d_NetWires_takeNumber_7 rfl ?_
  refine lv_iconst (v := 1) hx hb d_NetWires_takeNumber_10 (by decide) ?_
  refine lv_iadd hx hb d_NetWires_takeNumber_11 ?_
  refine xp_NetWires_nextNumber hC hw fl_NetWires_51 d_NetWires_takeNumber_12 (fun H locs hw => ?_)
  refine lv_iload_n hx hb d_NetWires_takeNumber_15 rfl (lv_at hl 0 rfl) ?_
  exact ga_iret (u := xa_sI x 1 ((x.1 1) + 1)) hC hr hlocks hw ⟨rfl, rfl⟩ (Nat.le_of_ble_eq_true rfl) (Nat.le_of_ble_eq_true rfl) d_NetWires_takeNumber_16

set_option maxHeartbeats 4000000 in
set_option maxRecDepth 100000 in
theorem c_NetWires_areParted (l : Launch) (k : xa_k) (x : XS) (i9 j9 : Int32)  (sz : Nat) : Met l y_NetWires_areParted (Cond.code y_NetWires_areParted b_NetWires_areParted 3 (some .boolean) :: ga_T) ({ frames := 1, cells := 0, slots := 0, locals := 21 }) (va_Pc [.ref (xa_a k 0), .int i9, .int j9] (ga_pre (xa_K k) (xa_W k x) sz)) (va_Qi (fun (r : Int32) (u : XS) => x = u ∧ ((r = 1 ∧ xa_par x i9 j9) ∨ (r = 0 ∧ ¬ xa_par x i9 j9))) (ga_post (xa_K k) (xa_W k x) sz (xa_W k)) (va_A (xa_W k x) sz)) 0 0 (va_A (xa_W k x) sz) := by
  refine ga_Met (by decide) (Nat.le_of_ble_eq_true rfl) ?_
  intro p e s m below meth c hC hr hlocks _ hw ls hl
  have hx := hC.1
  have hb := hC.2.1
  have hl : lv_has ls 3 [(0, .ref (xa_a k 0)), (1, .int i9), (2, .int j9)] := hl
  refine lv_aload_n hx hb d_NetWires_areParted_0 rfl (lv_at hl 0 rfl) ?_
  refine xg_NetWires_partedSet (v := x.1 2) hC hw fl_NetWires_54 d_NetWires_areParted_1 rfl ?_
  refine lv_iload_n hx hb d_NetWires_areParted_4 rfl (lv_at hl 1 rfl) ?_
  refine ga_Si (As := [.int (x.1 2), .int i9]) (rest := []) hC hw (c_NetWires_isIn l k x (x.1 2) i9 _) m_NetWires_isIn ml_NetWires_219 rfl rfl ⟨Nat.le_of_ble_eq_true rfl, Nat.le_of_ble_eq_true rfl⟩ rfl hl.1 rfl (Nat.le_of_ble_eq_true rfl) d_NetWires_areParted_5 ⟨Nat.le_of_ble_eq_true rfl, Nat.le_of_ble_eq_true rfl⟩ (fun r u H locs hp hw => ?_)
  obtain ⟨rfl, hp⟩ := hp
  rcases hp with ⟨rfl, h_5⟩ | ⟨rfl, h_5⟩
  · refine lv_aload_n hx hb d_NetWires_areParted_8 rfl (lv_at hl 0 rfl) ?_
    refine xg_NetWires_partedSet (v := x.1 2) hC hw fl_NetWires_54 d_NetWires_areParted_9 rfl ?_
    refine lv_iload_n hx hb d_NetWires_areParted_12 rfl (lv_at hl 2 rfl) ?_
    refine ga_Si (As := [.int (x.1 2), .int j9]) (rest := [.int 1]) hC hw (c_NetWires_isIn l k x (x.1 2) j9 _) m_NetWires_isIn ml_NetWires_219 rfl rfl ⟨Nat.le_of_ble_eq_true rfl, Nat.le_of_ble_eq_true rfl⟩ rfl hl.1 rfl (Nat.le_of_ble_eq_true rfl) d_NetWires_areParted_13 ⟨Nat.le_of_ble_eq_true rfl, Nat.le_of_ble_eq_true rfl⟩ (fun r u H locs hp hw => ?_)
    obtain ⟨rfl, hp⟩ := hp
    rcases hp with ⟨rfl, h_13⟩ | ⟨rfl, h_13⟩
    · refine lv_icmp_eq (tgt := 23) hx hb d_NetWires_areParted_16 (by decide) (fun c_16 => ?_) (fun c_16 => ?_)
      · refine lv_iconst (v := 0) hx hb d_NetWires_areParted_23 (by decide) ?_
        exact ga_zret (u := x) hC hr hlocks hw (Or.inl rfl) ⟨rfl, Or.inr ⟨rfl, fun h => h ⟨fun _ => h_13, fun _ => h_5⟩⟩⟩ (Nat.le_of_ble_eq_true rfl) (Nat.le_of_ble_eq_true rfl) d_NetWires_areParted_24
      · exact absurd c_16 (by decide)
    · refine lv_icmp_eq (tgt := 23) hx hb d_NetWires_areParted_16 (by decide) (fun c_16 => ?_) (fun c_16 => ?_)
      · exact absurd c_16 (by decide)
      · refine lv_iconst (v := 1) hx hb d_NetWires_areParted_19 (by decide) ?_
        refine lv_goto (tgt := 24) hx hb d_NetWires_areParted_20 (by decide) ?_
        exact ga_zret (u := x) hC hr hlocks hw (Or.inr rfl) ⟨rfl, Or.inl ⟨rfl, fun h => h_13 (h.mp h_5)⟩⟩ (Nat.le_of_ble_eq_true rfl) (Nat.le_of_ble_eq_true rfl) d_NetWires_areParted_24
  · refine lv_aload_n hx hb d_NetWires_areParted_8 rfl (lv_at hl 0 rfl) ?_
    refine xg_NetWires_partedSet (v := x.1 2) hC hw fl_NetWires_54 d_NetWires_areParted_9 rfl ?_
    refine lv_iload_n hx hb d_NetWires_areParted_12 rfl (lv_at hl 2 rfl) ?_
    refine ga_Si (As := [.int (x.1 2), .int j9]) (rest := [.int 0]) hC hw (c_NetWires_isIn l k x (x.1 2) j9 _) m_NetWires_isIn ml_NetWires_219 rfl rfl ⟨Nat.le_of_ble_eq_true rfl, Nat.le_of_ble_eq_true rfl⟩ rfl hl.1 rfl (Nat.le_of_ble_eq_true rfl) d_NetWires_areParted_13 ⟨Nat.le_of_ble_eq_true rfl, Nat.le_of_ble_eq_true rfl⟩ (fun r u H locs hp hw => ?_)
    obtain ⟨rfl, hp⟩ := hp
    rcases hp with ⟨rfl, h_13⟩ | ⟨rfl, h_13⟩
    · refine lv_icmp_eq (tgt := 23) hx hb d_NetWires_areParted_16 (by decide) (fun c_16 => ?_) (fun c_16 => ?_)
      · exact absurd c_16 (by decide)
      · refine lv_iconst (v := 1) hx hb d_NetWires_areParted_19 (by decide) ?_
        refine lv_goto (tgt := 24) hx hb d_NetWires_areParted_20 (by decide) ?_
        exact ga_zret (u := x) hC hr hlocks hw (Or.inr rfl) ⟨rfl, Or.inl ⟨rfl, fun h => h_5 (h.mpr h_13)⟩⟩ (Nat.le_of_ble_eq_true rfl) (Nat.le_of_ble_eq_true rfl) d_NetWires_areParted_24
    · refine lv_icmp_eq (tgt := 23) hx hb d_NetWires_areParted_16 (by decide) (fun c_16 => ?_) (fun c_16 => ?_)
      · refine lv_iconst (v := 0) hx hb d_NetWires_areParted_23 (by decide) ?_
        exact ga_zret (u := x) hC hr hlocks hw (Or.inl rfl) ⟨rfl, Or.inr ⟨rfl, fun h => h ⟨fun a => absurd a h_5, fun a => absurd a h_13⟩⟩⟩ (Nat.le_of_ble_eq_true rfl) (Nat.le_of_ble_eq_true rfl) d_NetWires_areParted_24
      · exact absurd c_16 (by decide)

set_option maxHeartbeats 4000000 in
set_option maxRecDepth 100000 in
theorem c_NetWires_canMeddle (l : Launch) (k : xa_k) (x : XS) (wh ti : Int32)  (sz : Nat) : Met l y_NetWires_canMeddle (Cond.code y_NetWires_canMeddle b_NetWires_canMeddle 2 (some .boolean) :: ga_T) ({ frames := 1, cells := 0, slots := 0, locals := 22 }) (va_Pc [.int wh, .int ti] (ga_pre (xa_K k) (xa_W k x) sz)) (va_Qi (fun (r : Int32) (u : XS) => x = u ∧ ((r = 1 ∧ ((wh = 2 ∧ ¬ ti < 0 ∧ ¬ 1000 < ti) ∨ ((wh = 0 ∨ wh = 1) ∧ ti = 0))) ∨ (r = 0 ∧ ¬ ((wh = 2 ∧ ¬ ti < 0 ∧ ¬ 1000 < ti) ∨ ((wh = 0 ∨ wh = 1) ∧ ti = 0))))) (ga_post (xa_K k) (xa_W k x) sz (xa_W k)) (va_A (xa_W k x) sz)) 0 0 (va_A (xa_W k x) sz) := by
  refine ga_Met (by decide) (Nat.le_of_ble_eq_true rfl) ?_
  intro p e s m below meth c hC hr hlocks _ hw ls hl
  have hx := hC.1
  have hb := hC.2.1
  have hl : lv_has ls 2 [(0, .int wh), (1, .int ti)] := hl
  refine lv_iload_n hx hb d_NetWires_canMeddle_0 rfl (lv_at hl 0 rfl) ?_
  refine lv_iconst (v := 2) hx hb d_NetWires_canMeddle_1 (by decide) ?_
  refine lv_icmp_ne (tgt := 14) hx hb d_NetWires_canMeddle_2 (by decide) (fun c_2 => ?_) (fun c_2 => ?_)
  · refine lv_iload_n hx hb d_NetWires_canMeddle_14 rfl (lv_at hl 0 rfl) ?_
    refine lv_if_eq (tgt := 23) hx hb d_NetWires_canMeddle_15 (by decide) (fun c_15 => ?_) (fun c_15 => ?_)
    · refine lv_iload_n hx hb d_NetWires_canMeddle_23 rfl (lv_at hl 1 rfl) ?_
      refine lv_if_ne (tgt := 31) hx hb d_NetWires_canMeddle_24 (by decide) (fun c_24 => ?_) (fun c_24 => ?_)
      · refine lv_iconst (v := 0) hx hb d_NetWires_canMeddle_31 (by decide) ?_
        exact ga_zret (u := x) hC hr hlocks hw (Or.inl rfl) ⟨rfl, Or.inr ⟨rfl, fun h => h.elim (fun h => c_2 h.1) (fun h => c_24 h.2)⟩⟩ (Nat.le_of_ble_eq_true rfl) (Nat.le_of_ble_eq_true rfl) d_NetWires_canMeddle_32
      · refine lv_iconst (v := 1) hx hb d_NetWires_canMeddle_27 (by decide) ?_
        refine lv_goto (tgt := 32) hx hb d_NetWires_canMeddle_28 (by decide) ?_
        exact ga_zret (u := x) hC hr hlocks hw (Or.inr rfl) ⟨rfl, Or.inl ⟨rfl, Or.inr ⟨Or.inl c_15, c_24⟩⟩⟩ (Nat.le_of_ble_eq_true rfl) (Nat.le_of_ble_eq_true rfl) d_NetWires_canMeddle_32
    · refine lv_iload_n hx hb d_NetWires_canMeddle_18 rfl (lv_at hl 0 rfl) ?_
      refine lv_iconst (v := 1) hx hb d_NetWires_canMeddle_19 (by decide) ?_
      refine lv_icmp_ne (tgt := 31) hx hb d_NetWires_canMeddle_20 (by decide) (fun c_20 => ?_) (fun c_20 => ?_)
      · refine lv_iconst (v := 0) hx hb d_NetWires_canMeddle_31 (by decide) ?_
        exact ga_zret (u := x) hC hr hlocks hw (Or.inl rfl) ⟨rfl, Or.inr ⟨rfl, fun h => h.elim (fun h => c_2 h.1) (fun h => h.1.elim c_15 c_20)⟩⟩ (Nat.le_of_ble_eq_true rfl) (Nat.le_of_ble_eq_true rfl) d_NetWires_canMeddle_32
      · refine lv_iload_n hx hb d_NetWires_canMeddle_23 rfl (lv_at hl 1 rfl) ?_
        refine lv_if_ne (tgt := 31) hx hb d_NetWires_canMeddle_24 (by decide) (fun c_24 => ?_) (fun c_24 => ?_)
        · refine lv_iconst (v := 0) hx hb d_NetWires_canMeddle_31 (by decide) ?_
          exact ga_zret (u := x) hC hr hlocks hw (Or.inl rfl) ⟨rfl, Or.inr ⟨rfl, fun h => h.elim (fun h => c_2 h.1) (fun h => c_24 h.2)⟩⟩ (Nat.le_of_ble_eq_true rfl) (Nat.le_of_ble_eq_true rfl) d_NetWires_canMeddle_32
        · refine lv_iconst (v := 1) hx hb d_NetWires_canMeddle_27 (by decide) ?_
          refine lv_goto (tgt := 32) hx hb d_NetWires_canMeddle_28 (by decide) ?_
          exact ga_zret (u := x) hC hr hlocks hw (Or.inr rfl) ⟨rfl, Or.inl ⟨rfl, Or.inr ⟨Or.inr c_20, c_24⟩⟩⟩ (Nat.le_of_ble_eq_true rfl) (Nat.le_of_ble_eq_true rfl) d_NetWires_canMeddle_32
  · refine lv_iload_n hx hb d_NetWires_canMeddle_5 rfl (lv_at hl 1 rfl) ?_
    refine lv_iconst (v := 0) hx hb d_NetWires_canMeddle_6 (by decide) ?_
    refine lv_sipush (v := 1000) hx hb d_NetWires_canMeddle_7 (by decide) ?_
    refine ga_Si (As := [.int ti, .int 0, .int 1000]) (rest := []) hC hw (c_NetWires_isWithin l k x ti 0 1000 _) m_NetWires_isWithin ml_NetWires_140 rfl rfl ⟨Nat.le_of_ble_eq_true rfl, Nat.le_of_ble_eq_true rfl⟩ rfl hl.1 rfl (Nat.le_of_ble_eq_true rfl) d_NetWires_canMeddle_10 ⟨Nat.le_of_ble_eq_true rfl, Nat.le_of_ble_eq_true rfl⟩ (fun r u H locs hp hw => ?_)
    obtain ⟨rfl, hp⟩ := hp
    rcases hp with ⟨rfl, ⟨h_10, g_10⟩⟩ | ⟨rfl, h_10⟩
    · exact ga_zret (u := x) hC hr hlocks hw (Or.inr rfl) ⟨rfl, Or.inl ⟨rfl, Or.inl ⟨c_2, h_10, g_10⟩⟩⟩ (Nat.le_of_ble_eq_true rfl) (Nat.le_of_ble_eq_true rfl) d_NetWires_canMeddle_13
    · exact ga_zret (u := x) hC hr hlocks hw (Or.inl rfl) ⟨rfl, Or.inr ⟨rfl, fun h => h.elim (fun h => h_10.elim h.2.1 h.2.2) (fun h => by rw [c_2] at h; exact absurd h.1 (by decide))⟩⟩ (Nat.le_of_ble_eq_true rfl) (Nat.le_of_ble_eq_true rfl) d_NetWires_canMeddle_13

set_option maxHeartbeats 4000000 in
set_option maxRecDepth 100000 in
theorem c_Tape_hasRoomFor (l : Launch) (k : xa_k) (x : XS) (n : Int32)  (sz : Nat) : Met l y_Tape_hasRoomFor (Cond.code y_Tape_hasRoomFor b_Tape_hasRoomFor 2 (some .boolean) :: ga_T) ({ frames := 0, cells := 0, slots := 0, locals := 0 }) (va_Pc [.ref (xa_a k 1), .int n] (ga_pre (xa_K k) (xa_W k x) sz)) (va_Qi (fun (r : Int32) (u : XS) => x = u ∧ ((r = 1 ∧ ¬ 2048 - x.1 6 < n) ∨ (r = 0 ∧ 2048 - x.1 6 < n))) (ga_post (xa_K k) (xa_W k x) sz (xa_W k)) (va_A (xa_W k x) sz)) 0 0 (va_A (xa_W k x) sz) := by
  refine ga_Met (by decide) (Nat.le_of_ble_eq_true rfl) ?_
  intro p e s m below meth c hC hr hlocks _ hw ls hl
  have hx := hC.1
  have hb := hC.2.1
  have hl : lv_has ls 2 [(0, .ref (xa_a k 1)), (1, .int n)] := hl
  refine lv_iload_n hx hb d_Tape_hasRoomFor_0 rfl (lv_at hl 1 rfl) ?_
  refine lv_sipush (v := 2048) hx hb d_Tape_hasRoomFor_1 (by decide) ?_
  refine lv_aload_n hx hb d_Tape_hasRoomFor_4 rfl (lv_at hl 0 rfl) ?_
  refine xg_Tape_length (v := x.1 6) hC hw fl_Tape_15 d_Tape_hasRoomFor_5 rfl ?_
  refine lv_isub hx hb d_Tape_hasRoomFor_8 ?_
  refine lv_icmp_gt (tgt := 16) hx hb d_Tape_hasRoomFor_9 (by decide) (fun c_9 => ?_) (fun c_9 => ?_)
  · refine lv_iconst (v := 0) hx hb d_Tape_hasRoomFor_16 (by decide) ?_
    exact ga_zret (u := x) hC hr hlocks hw (Or.inl rfl) ⟨rfl, Or.inr ⟨rfl, c_9⟩⟩ (Nat.le_of_ble_eq_true rfl) (Nat.le_of_ble_eq_true rfl) d_Tape_hasRoomFor_17
  · refine lv_iconst (v := 1) hx hb d_Tape_hasRoomFor_12 (by decide) ?_
    refine lv_goto (tgt := 17) hx hb d_Tape_hasRoomFor_13 (by decide) ?_
    exact ga_zret (u := x) hC hr hlocks hw (Or.inr rfl) ⟨rfl, Or.inl ⟨rfl, c_9⟩⟩ (Nat.le_of_ble_eq_true rfl) (Nat.le_of_ble_eq_true rfl) d_Tape_hasRoomFor_17

set_option maxHeartbeats 4000000 in
set_option maxRecDepth 100000 in
theorem c_Tape_append (l : Launch) (k : xa_k) (x : XS) (v : Int32) (t : Nat) (ht : x.1 6 = nI t) (ht2 : t < 2048) (sz : Nat) : Met l y_Tape_append (Cond.code y_Tape_append b_Tape_append 2 none :: ga_T) ({ frames := 1, cells := 0, slots := 0, locals := 21 }) (va_Pc [.ref (xa_a k 1), .int v] (ga_pre (xa_K k) (xa_W k x) sz)) (va_Qv (fun (u : XS) => u = xa_sI (xa_sT x (upd (xa_T x) t (vp_nar .byte v))) 6 (nI (t + 1))) (ga_post (xa_K k) (xa_W k x) sz (xa_W k)) (va_A (xa_W k x) sz)) 0 0 (va_A (xa_W k x) sz) := by
  refine ga_Met (by decide) (Nat.le_of_ble_eq_true rfl) ?_
  intro p e s m below meth c hC hr hlocks _ hw ls hl
  have hx := hC.1
  have hb := hC.2.1
  have hl : lv_has ls 2 [(0, .ref (xa_a k 1)), (1, .int v)] := hl
  refine lv_aload_n hx hb d_Tape_append_0 rfl (lv_at hl 0 rfl) ?_
  refine lv_iconst (v := 1) hx hb d_Tape_append_1 (by decide) ?_
  refine ga_Vi (As := [.int 1]) (rest := []) hC hw (c_Tape_hasRoomFor l k x 1 _) m_Tape_hasRoomFor ml_Tape_19 (ga_recv hw (q0 := 1) rfl rfl) rfl rfl ⟨Nat.le_of_ble_eq_true rfl, Nat.le_of_ble_eq_true rfl⟩ rfl hl.1 rfl (Nat.le_of_ble_eq_true rfl) d_Tape_append_2 ⟨Nat.le_of_ble_eq_true rfl, Nat.le_of_ble_eq_true rfl⟩ (fun r u H locs hp hw => ?_)
  obtain ⟨rfl, hp⟩ := hp
  rcases hp with ⟨rfl, h_2⟩ | ⟨rfl, h_2⟩
  · refine lv_if_eq (tgt := 28) hx hb d_Tape_append_5 (by decide) (fun c_5 => ?_) (fun c_5 => ?_)
    · exact absurd c_5 (by decide)
    · refine lv_aload_n hx hb d_Tape_append_8 rfl (lv_at hl 0 rfl) ?_
      refine xg_Tape_bytes hC hw fl_Tape_9 d_Tape_append_9 ?_
      refine lv_aload_n hx hb d_Tape_append_12 rfl (lv_at hl 0 rfl) ?_
      refine xg_Tape_length (v := x.1 6) hC hw fl_Tape_15 d_Tape_append_13 rfl ?_
      refine ga_asi (v := nI t) (ht) ?_
      refine lv_iload_n hx hb d_Tape_append_16 rfl (lv_at hl 1 rfl) ?_
      refine xr_tape hC hw (vp_in_nI ht2 (by decide)) d_Tape_append_17 (fun H locs hw => ?_)
      refine lv_aload_n hx hb d_Tape_append_18 rfl (lv_at hl 0 rfl) ?_
      refine lv_dup hx hb d_Tape_append_19 rfl ?_
      refine xg_Tape_length (v := x.1 6) hC hw fl_Tape_15 d_Tape_append_20 rfl ?_
      refine ga_asi (v := nI t) (ht) ?_
      refine lv_iconst (v := 1) hx hb d_Tape_append_23 (by decide) ?_
      refine lv_iadd hx hb d_Tape_append_24 ?_
      refine ga_asi (v := nI (t + 1)) (nI_1 t) ?_
      refine xp_Tape_length hC hw fl_Tape_15 d_Tape_append_25 (fun H locs hw => ?_)
      exact ga_vret (u := xa_sI (xa_sT x (upd (xa_T x) (nI t).toNatClampNeg (vp_nar .byte v))) 6 (nI (t + 1))) hC hr hlocks hw (by rw [nI_clamp (by omega)]) (Nat.le_of_ble_eq_true rfl) (Nat.le_of_ble_eq_true rfl) d_Tape_append_28
  · refine lv_if_eq (tgt := 28) hx hb d_Tape_append_5 (by decide) (fun c_5 => ?_) (fun c_5 => ?_)
    · exact absurd ((xa_room (n := 1) ht (Nat.le_of_lt ht2) (by decide)).mp h_2) (by omega)
    · exact absurd c_5 (by decide)

set_option maxHeartbeats 4000000 in
set_option maxRecDepth 100000 in
theorem c_Noise_isOn (l : Launch) (k : xa_k) (x : XS)   (sz : Nat) : Met l y_Noise_isOn (Cond.code y_Noise_isOn b_Noise_isOn 1 (some .boolean) :: ga_T) ({ frames := 0, cells := 0, slots := 0, locals := 0 }) (va_Pc [.ref (xa_a k 7)] (ga_pre (xa_K k) (xa_W k x) sz)) (va_Qi (fun (r : Int32) (u : XS) => x = u ∧ ((r = 1 ∧ ¬ (x.1 12 = 0 ∧ x.1 13 = 0 ∧ x.1 14 = 0)) ∨ (r = 0 ∧ (x.1 12 = 0 ∧ x.1 13 = 0 ∧ x.1 14 = 0)))) (ga_post (xa_K k) (xa_W k x) sz (xa_W k)) (va_A (xa_W k x) sz)) 0 0 (va_A (xa_W k x) sz) := by
  refine ga_Met (by decide) (Nat.le_of_ble_eq_true rfl) ?_
  intro p e s m below meth c hC hr hlocks _ hw ls hl
  have hx := hC.1
  have hb := hC.2.1
  have hl : lv_has ls 1 [(0, .ref (xa_a k 7))] := hl
  refine lv_aload_n hx hb d_Noise_isOn_0 rfl (lv_at hl 0 rfl) ?_
  refine xg_Noise_loss (v := x.1 12) hC hw fl_Noise_7 d_Noise_isOn_1 rfl ?_
  refine lv_if_ne (tgt := 21) hx hb d_Noise_isOn_4 (by decide) (fun c_4 => ?_) (fun c_4 => ?_)
  · refine lv_iconst (v := 1) hx hb d_Noise_isOn_21 (by decide) ?_
    refine lv_goto (tgt := 26) hx hb d_Noise_isOn_22 (by decide) ?_
    exact ga_zret (u := x) hC hr hlocks hw (Or.inr rfl) ⟨rfl, Or.inl ⟨rfl, by simp [c_4]⟩⟩ (Nat.le_of_ble_eq_true rfl) (Nat.le_of_ble_eq_true rfl) d_Noise_isOn_26
  · refine lv_aload_n hx hb d_Noise_isOn_7 rfl (lv_at hl 0 rfl) ?_
    refine xg_Noise_twice (v := x.1 13) hC hw fl_Noise_13 d_Noise_isOn_8 rfl ?_
    refine lv_if_ne (tgt := 21) hx hb d_Noise_isOn_11 (by decide) (fun c_11 => ?_) (fun c_11 => ?_)
    · refine lv_iconst (v := 1) hx hb d_Noise_isOn_21 (by decide) ?_
      refine lv_goto (tgt := 26) hx hb d_Noise_isOn_22 (by decide) ?_
      exact ga_zret (u := x) hC hr hlocks hw (Or.inr rfl) ⟨rfl, Or.inl ⟨rfl, by simp [c_4, c_11]⟩⟩ (Nat.le_of_ble_eq_true rfl) (Nat.le_of_ble_eq_true rfl) d_Noise_isOn_26
    · refine lv_aload_n hx hb d_Noise_isOn_14 rfl (lv_at hl 0 rfl) ?_
      refine xg_Noise_spread (v := x.1 14) hC hw fl_Noise_16 d_Noise_isOn_15 rfl ?_
      refine lv_if_eq (tgt := 25) hx hb d_Noise_isOn_18 (by decide) (fun c_18 => ?_) (fun c_18 => ?_)
      · refine lv_iconst (v := 0) hx hb d_Noise_isOn_25 (by decide) ?_
        exact ga_zret (u := x) hC hr hlocks hw (Or.inl rfl) ⟨rfl, Or.inr ⟨rfl, by simp [c_4, c_11, c_18]⟩⟩ (Nat.le_of_ble_eq_true rfl) (Nat.le_of_ble_eq_true rfl) d_Noise_isOn_26
      · refine lv_iconst (v := 1) hx hb d_Noise_isOn_21 (by decide) ?_
        refine lv_goto (tgt := 26) hx hb d_Noise_isOn_22 (by decide) ?_
        exact ga_zret (u := x) hC hr hlocks hw (Or.inr rfl) ⟨rfl, Or.inl ⟨rfl, by simp [c_4, c_11, c_18]⟩⟩ (Nat.le_of_ble_eq_true rfl) (Nat.le_of_ble_eq_true rfl) d_Noise_isOn_26

set_option maxHeartbeats 4000000 in
set_option maxRecDepth 100000 in
theorem c_Noise_set (l : Launch) (k : xa_k) (x : XS) (a b c9 : Int32) (d : Int64)  (sz : Nat) : Met l y_Noise_set (Cond.code y_Noise_set b_Noise_set 6 none :: ga_T) ({ frames := 0, cells := 0, slots := 0, locals := 0 }) (va_Pc [.ref (xa_a k 7), .int a, .int b, .int c9, .long d] (ga_pre (xa_K k) (xa_W k x) sz)) (va_Qv (fun (u : XS) => u = xa_sD (xa_sI (xa_sI (xa_sI x 12 a) 13 b) 14 c9) d) (ga_post (xa_K k) (xa_W k x) sz (xa_W k)) (va_A (xa_W k x) sz)) 0 0 (va_A (xa_W k x) sz) := by
  refine ga_Met (by decide) (Nat.le_of_ble_eq_true rfl) ?_
  intro p e s m below meth c hC hr hlocks _ hw ls hl
  have hx := hC.1
  have hb := hC.2.1
  have hl : lv_has ls 6 [(0, .ref (xa_a k 7)), (1, .int a), (2, .int b), (3, .int c9), (4, .long d)] := hl
  refine lv_aload_n hx hb d_Noise_set_0 rfl (lv_at hl 0 rfl) ?_
  refine lv_iload_n hx hb d_Noise_set_1 rfl (lv_at hl 1 rfl) ?_
  refine xp_Noise_loss hC hw fl_Noise_7 d_Noise_set_2 (fun H locs hw => ?_)
  refine lv_aload_n hx hb d_Noise_set_5 rfl (lv_at hl 0 rfl) ?_
  refine lv_iload_n hx hb d_Noise_set_6 rfl (lv_at hl 2 rfl) ?_
  refine xp_Noise_twice hC hw fl_Noise_13 d_Noise_set_7 (fun H locs hw => ?_)
  refine lv_aload_n hx hb d_Noise_set_10 rfl (lv_at hl 0 rfl) ?_
  refine lv_iload_n hx hb d_Noise_set_11 rfl (lv_at hl 3 rfl) ?_
  refine xp_Noise_spread hC hw fl_Noise_16 d_Noise_set_12 (fun H locs hw => ?_)
  refine lv_aload_n hx hb d_Noise_set_15 rfl (lv_at hl 0 rfl) ?_
  refine lv_lload hx hb d_Noise_set_16 (lv_at hl 4 rfl) ?_
  refine xp_Noise_draw hC hw fl_Noise_19 d_Noise_set_18 (fun H locs hw => ?_)
  exact ga_vret (u := xa_sD (xa_sI (xa_sI (xa_sI x 12 a) 13 b) 14 c9) d) hC hr hlocks hw rfl (Nat.le_of_ble_eq_true rfl) (Nat.le_of_ble_eq_true rfl) d_Noise_set_21

set_option maxHeartbeats 4000000 in
set_option maxRecDepth 100000 in
theorem c_Noise_drawBelow (l : Launch) (k : xa_k) (x : XS) (m9 : Int32)  (sz : Nat) : Met l y_Noise_drawBelow (Cond.code y_Noise_drawBelow b_Noise_drawBelow 2 (some .int) :: ga_T) ({ frames := 0, cells := 0, slots := 0, locals := 0 }) (va_Pc [.ref (xa_a k 7), .int m9] (ga_pre (xa_K k) (xa_W k x) sz)) (va_Qi (fun (r : Int32) (u : XS) => u = xa_sD x (xa_lcg (xa_D x)) ∧ ((r = 0 ∧ ¬ 0 < m9) ∨ (r = xa_draw (xa_lcg (xa_D x)) m9 ∧ 0 < m9))) (ga_post (xa_K k) (xa_W k x) sz (xa_W k)) (va_A (xa_W k x) sz)) 0 0 (va_A (xa_W k x) sz) := by
  refine ga_Met (by decide) (Nat.le_of_ble_eq_true rfl) ?_
  intro p e s m below meth c hC hr hlocks _ hw ls hl
  have hx := hC.1
  have hb := hC.2.1
  have hl : lv_has ls 2 [(0, .ref (xa_a k 7)), (1, .int m9)] := hl
  refine lv_aload_n hx hb d_Noise_drawBelow_0 rfl (lv_at hl 0 rfl) ?_
  refine lv_aload_n hx hb d_Noise_drawBelow_1 rfl (lv_at hl 0 rfl) ?_
  refine xg_Noise_draw (v := xa_D x) hC hw fl_Noise_19 d_Noise_drawBelow_2 rfl ?_
  refine lv_ldc2 (v := 6364136223846793005) hx hb hC.2.2.2.1 (hC.2.2.2.2 _ kc_Noise_23) d_Noise_drawBelow_5 ?_
  refine lv_lmul hx hb d_Noise_drawBelow_8 ?_
  refine lv_ldc2 (v := 1442695040888963407) hx hb hC.2.2.2.1 (hC.2.2.2.2 _ kc_Noise_25) d_Noise_drawBelow_9 ?_
  refine lv_ladd hx hb d_Noise_drawBelow_12 ?_
  refine xp_Noise_draw hC hw fl_Noise_19 d_Noise_drawBelow_13 (fun H locs hw => ?_)
  refine lv_iload_n hx hb d_Noise_drawBelow_16 rfl (lv_at hl 1 rfl) ?_
  refine lv_if_gt (tgt := 22) hx hb d_Noise_drawBelow_17 (by decide) (fun c_17 => ?_) (fun c_17 => ?_)
  · refine lv_aload_n hx hb d_Noise_drawBelow_22 rfl (lv_at hl 0 rfl) ?_
    refine xg_Noise_draw (v := ((xa_D x) * 6364136223846793005) + 1442695040888963407) hC hw fl_Noise_19 d_Noise_drawBelow_23 rfl ?_
    refine lv_bipush (v := 33) hx hb d_Noise_drawBelow_26 (by decide) ?_
    refine lv_lushr hx hb d_Noise_drawBelow_28 rfl ?_
    refine lv_iload_n hx hb d_Noise_drawBelow_29 rfl (lv_at hl 1 rfl) ?_
    refine lv_i2l hx hb d_Noise_drawBelow_30 rfl ?_
    refine lv_lrem hx hb d_Noise_drawBelow_31 (xa_nz c_17) ?_
    refine lv_l2i hx hb d_Noise_drawBelow_32 rfl ?_
    exact ga_iret (u := xa_sD x (((xa_D x) * 6364136223846793005) + 1442695040888963407)) hC hr hlocks hw ⟨rfl, Or.inr ⟨rfl, c_17⟩⟩ (Nat.le_of_ble_eq_true rfl) (Nat.le_of_ble_eq_true rfl) d_Noise_drawBelow_33
  · refine lv_iconst (v := 0) hx hb d_Noise_drawBelow_20 (by decide) ?_
    exact ga_iret (u := xa_sD x (((xa_D x) * 6364136223846793005) + 1442695040888963407)) hC hr hlocks hw ⟨rfl, Or.inl ⟨rfl, c_17⟩⟩ (Nat.le_of_ble_eq_true rfl) (Nat.le_of_ble_eq_true rfl) d_Noise_drawBelow_21

set_option maxHeartbeats 4000000 in
set_option maxRecDepth 100000 in
theorem c_History_remember (l : Launch) (k : xa_k) (x : XS) (ans : Int32) (a w kp : Nat) (v : Nat → Int32) (b : Nat) (hE : xa_isE (xa_P x) a v b) (hw9 : x.1 9 = nI w) (hw2 : w < 32) (hk9 : x.1 10 = nI kp) (hk2 : kp ≤ 32) (sz : Nat) : Met l y_History_remember (Cond.code y_History_remember b_History_remember 4 none :: ga_T) ({ frames := 0, cells := 0, slots := 0, locals := 0 }) (va_Pc [.ref (xa_a k 5), .int ans, .ref a] (ga_pre (xa_K k) (xa_W k x) sz)) (va_Qv (fun (u : XS) => u = xa_rmb x ans v w kp) (ga_post (xa_K k) (xa_W k x) sz (xa_W k)) (va_A (xa_W k x) sz)) 0 0 (va_A (xa_W k x) sz) := by
  refine ga_Met (by decide) (Nat.le_of_ble_eq_true rfl) ?_
  intro p e s m below meth c hC hr hlocks _ hw ls hl
  have hx := hC.1
  have hb := hC.2.1
  have hl : lv_has ls 4 [(0, .ref (xa_a k 5)), (1, .int ans), (2, .ref a)] := hl
  have hW : (w + 1) % 32 < 32 := Nat.mod_lt _ (by decide)
  have hin : ∀ d, d < 4 → vp_in (nI ((w + 1) % 32 * 4 + d)) 128 := fun d hd => vp_in_nI (by omega) (by decide)
  have hcl0 : (nI ((w + 1) % 32 * 4)).toNatClampNeg = (w + 1) % 32 * 4 := nI_clamp (by omega)
  have hcl : ∀ d, d < 4 → (nI ((w + 1) % 32 * 4 + d)).toNatClampNeg = (w + 1) % 32 * 4 + d := fun d hd => nI_clamp (by omega)
  refine lv_aload_n hx hb d_History_remember_0 rfl (lv_at hl 0 rfl) ?_
  refine lv_aload_n hx hb d_History_remember_1 rfl (lv_at hl 0 rfl) ?_
  refine xg_History_newest (v := x.1 9) hC hw fl_History_15 d_History_remember_2 rfl ?_
  refine ga_asi (v := nI w) (hw9) ?_
  refine lv_iconst (v := 1) hx hb d_History_remember_5 (by decide) ?_
  refine lv_iadd hx hb d_History_remember_6 ?_
  refine ga_asi (v := nI (w + 1)) (nI_1 w) ?_
  refine lv_bipush (v := 32) hx hb d_History_remember_7 (by decide) ?_
  refine lv_irem hx hb d_History_remember_9 (by decide) ?_
  refine ga_asi (v := nI ((w + 1) % 32)) (xa_rem32 (by omega)) ?_
  refine xp_History_newest hC hw fl_History_15 d_History_remember_10 (fun H locs hw => ?_)
  refine lv_aload_n hx hb d_History_remember_13 rfl (lv_at hl 0 rfl) ?_
  refine xg_History_newest (v := nI ((w + 1) % 32)) hC hw fl_History_15 d_History_remember_14 rfl ?_
  refine lv_iconst (v := 4) hx hb d_History_remember_17 (by decide) ?_
  refine lv_imul hx hb d_History_remember_18 ?_
  refine ga_asi (v := nI ((w + 1) % 32 * 4)) (pk_mul _ 4) ?_
  refine lv_istore_n (lv' := [(3, .int (nI ((w + 1) % 32 * 4))), (0, .ref (xa_a k 5)), (1, .int ans), (2, .ref a)]) hx hb d_History_remember_19 rfl hl (by decide) rfl (fun ls hl => ?_)
  refine lv_aload_n hx hb d_History_remember_20 rfl (lv_at hl 1 rfl) ?_
  refine xg_History_facts hC hw fl_History_9 d_History_remember_21 ?_
  refine lv_iload_n hx hb d_History_remember_24 rfl (lv_at hl 0 rfl) ?_
  refine lv_iload_n hx hb d_History_remember_25 rfl (lv_at hl 2 rfl) ?_
  refine xs_facts hC hw (hin 0 (by decide)) d_History_remember_26 (fun H locs hw => ?_)
  refine lv_aload_n hx hb d_History_remember_27 rfl (lv_at hl 1 rfl) ?_
  refine xg_History_facts hC hw fl_History_9 d_History_remember_28 ?_
  refine lv_iload_n hx hb d_History_remember_31 rfl (lv_at hl 0 rfl) ?_
  refine lv_iconst (v := 1) hx hb d_History_remember_32 (by decide) ?_
  refine lv_iadd hx hb d_History_remember_33 ?_
  refine ga_asi (v := nI ((w + 1) % 32 * 4 + 1)) (nI_add _ 1) ?_
  refine lv_aload_n hx hb d_History_remember_34 rfl (lv_at hl 3 rfl) ?_
  refine xe_time hC hw hE fl_History_25 d_History_remember_35 ?_
  refine xs_facts hC hw (hin 1 (by decide)) d_History_remember_38 (fun H locs hw => ?_)
  refine lv_aload_n hx hb d_History_remember_39 rfl (lv_at hl 1 rfl) ?_
  refine xg_History_facts hC hw fl_History_9 d_History_remember_40 ?_
  refine lv_iload_n hx hb d_History_remember_43 rfl (lv_at hl 0 rfl) ?_
  refine lv_iconst (v := 2) hx hb d_History_remember_44 (by decide) ?_
  refine lv_iadd hx hb d_History_remember_45 ?_
  refine ga_asi (v := nI ((w + 1) % 32 * 4 + 2)) (nI_add _ 2) ?_
  refine lv_aload_n hx hb d_History_remember_46 rfl (lv_at hl 3 rfl) ?_
  refine xe_number hC hw hE fl_History_30 d_History_remember_47 ?_
  refine xs_facts hC hw (hin 2 (by decide)) d_History_remember_50 (fun H locs hw => ?_)
  refine lv_aload_n hx hb d_History_remember_51 rfl (lv_at hl 1 rfl) ?_
  refine xg_History_facts hC hw fl_History_9 d_History_remember_52 ?_
  refine lv_iload_n hx hb d_History_remember_55 rfl (lv_at hl 0 rfl) ?_
  refine lv_iconst (v := 3) hx hb d_History_remember_56 (by decide) ?_
  refine lv_iadd hx hb d_History_remember_57 ?_
  refine ga_asi (v := nI ((w + 1) % 32 * 4 + 3)) (nI_add _ 3) ?_
  refine lv_aload_n hx hb d_History_remember_58 rfl (lv_at hl 3 rfl) ?_
  refine xe_from hC hw hE fl_History_33 d_History_remember_59 ?_
  refine xs_facts hC hw (hin 3 (by decide)) d_History_remember_62 (fun H locs hw => ?_)
  refine lv_aload_n hx hb d_History_remember_63 rfl (lv_at hl 1 rfl) ?_
  refine xg_History_kept (v := x.1 10) hC hw fl_History_19 d_History_remember_64 rfl ?_
  refine ga_asi (v := nI kp) (hk9) ?_
  refine lv_bipush (v := 32) hx hb d_History_remember_67 (by decide) ?_
  refine lv_icmp_ge (tgt := 82) hx hb d_History_remember_69 (by decide) (fun c_69 => ?_) (fun c_69 => ?_)
  · refine lv_aload_n hx hb d_History_remember_82 rfl (lv_at hl 1 rfl) ?_
    refine lv_dup hx hb d_History_remember_83 rfl ?_
    refine xg_History_total (v := x.1 11) hC hw fl_History_22 d_History_remember_84 rfl ?_
    refine lv_iconst (v := 1) hx hb d_History_remember_87 (by decide) ?_
    refine lv_iadd hx hb d_History_remember_88 ?_
    refine xp_History_total hC hw fl_History_22 d_History_remember_89 (fun H locs hw => ?_)
    exact ga_vret (u := xa_sI (xa_sF (xa_sF (xa_sF (xa_sF (xa_sI x 9 (nI ((w + 1) % 32))) (upd (xa_F x) (nI ((w + 1) % 32 * 4)).toNatClampNeg ans)) (upd (upd (xa_F x) (nI ((w + 1) % 32 * 4)).toNatClampNeg ans) (nI ((w + 1) % 32 * 4 + 1)).toNatClampNeg (v 3))) (upd (upd (upd (xa_F x) (nI ((w + 1) % 32 * 4)).toNatClampNeg ans) (nI ((w + 1) % 32 * 4 + 1)).toNatClampNeg (v 3)) (nI ((w + 1) % 32 * 4 + 2)).toNatClampNeg (v 4))) (upd (upd (upd (upd (xa_F x) (nI ((w + 1) % 32 * 4)).toNatClampNeg ans) (nI ((w + 1) % 32 * 4 + 1)).toNatClampNeg (v 3)) (nI ((w + 1) % 32 * 4 + 2)).toNatClampNeg (v 4)) (nI ((w + 1) % 32 * 4 + 3)).toNatClampNeg (v 2))) 11 ((x.1 11) + 1)) hC hr hlocks hw (by unfold xa_rmb xa_mem; rw [if_neg (fun h => absurd (nI_lt h (by decide)) (Int32.not_lt.mpr c_69)), xa_sI_id (y := xa_sF (xa_sI x 9 (nI ((w + 1) % 32))) _) (i := 10) (v := nI kp) hk9, hcl0, hcl 1 (by decide), hcl 2 (by decide), hcl 3 (by decide)] <;> rfl) (Nat.le_of_ble_eq_true rfl) (Nat.le_of_ble_eq_true rfl) d_History_remember_92
  · refine lv_aload_n hx hb d_History_remember_72 rfl (lv_at hl 1 rfl) ?_
    refine lv_dup hx hb d_History_remember_73 rfl ?_
    refine xg_History_kept (v := x.1 10) hC hw fl_History_19 d_History_remember_74 rfl ?_
    refine ga_asi (v := nI kp) (hk9) ?_
    refine lv_iconst (v := 1) hx hb d_History_remember_77 (by decide) ?_
    refine lv_iadd hx hb d_History_remember_78 ?_
    refine ga_asi (v := nI (kp + 1)) (nI_1 kp) ?_
    refine xp_History_kept hC hw fl_History_19 d_History_remember_79 (fun H locs hw => ?_)
    refine lv_aload_n hx hb d_History_remember_82 rfl (lv_at hl 1 rfl) ?_
    refine lv_dup hx hb d_History_remember_83 rfl ?_
    refine xg_History_total (v := x.1 11) hC hw fl_History_22 d_History_remember_84 rfl ?_
    refine lv_iconst (v := 1) hx hb d_History_remember_87 (by decide) ?_
    refine lv_iadd hx hb d_History_remember_88 ?_
    refine xp_History_total hC hw fl_History_22 d_History_remember_89 (fun H locs hw => ?_)
    exact ga_vret (u := xa_sI (xa_sI (xa_sF (xa_sF (xa_sF (xa_sF (xa_sI x 9 (nI ((w + 1) % 32))) (upd (xa_F x) (nI ((w + 1) % 32 * 4)).toNatClampNeg ans)) (upd (upd (xa_F x) (nI ((w + 1) % 32 * 4)).toNatClampNeg ans) (nI ((w + 1) % 32 * 4 + 1)).toNatClampNeg (v 3))) (upd (upd (upd (xa_F x) (nI ((w + 1) % 32 * 4)).toNatClampNeg ans) (nI ((w + 1) % 32 * 4 + 1)).toNatClampNeg (v 3)) (nI ((w + 1) % 32 * 4 + 2)).toNatClampNeg (v 4))) (upd (upd (upd (upd (xa_F x) (nI ((w + 1) % 32 * 4)).toNatClampNeg ans) (nI ((w + 1) % 32 * 4 + 1)).toNatClampNeg (v 3)) (nI ((w + 1) % 32 * 4 + 2)).toNatClampNeg (v 4)) (nI ((w + 1) % 32 * 4 + 3)).toNatClampNeg (v 2))) 10 (nI (kp + 1))) 11 ((x.1 11) + 1)) hC hr hlocks hw (by unfold xa_rmb xa_mem; rw [if_pos ((nI_ltI (by omega) (by decide)).mp (Int32.not_le.mp c_69)), hcl0, hcl 1 (by decide), hcl 2 (by decide), hcl 3 (by decide)] <;> rfl) (Nat.le_of_ble_eq_true rfl) (Nat.le_of_ble_eq_true rfl) d_History_remember_92

set_option maxHeartbeats 4000000 in
set_option maxRecDepth 100000 in
theorem c_NetWires_receive (l : Launch) (k : xa_k) (x : XS) (a : Nat) (v : Nat → Int32) (b : Nat) (hE : xa_isE (xa_P x) a v b) (sz : Nat) : Met l y_NetWires_receive (Cond.code y_NetWires_receive b_NetWires_receive 2 (some .int) :: ga_T) ({ frames := 2, cells := 0, slots := 0, locals := 43 }) (va_Pc [.ref (xa_a k 0), .ref a] (ga_pre (xa_K k) (xa_W k x) sz)) (va_Qi (fun (r : Int32) (u : XS) => (r = 16 ∧ u = xa_sI x 5 (x.1 5 + 1) ∧ xa_lose x v) ∨ (r = 0 ∧ u = xa_sB x b ∧ ¬ xa_lose x v)) (ga_post (xa_K k) (xa_W k x) sz (xa_W k)) (va_A (xa_W k x) sz)) 0 0 (va_A (xa_W k x) sz) := by
  refine ga_Met (by decide) (Nat.le_of_ble_eq_true rfl) ?_
  intro p e s m below meth c hC hr hlocks _ hw ls hl
  have hx := hC.1
  have hb := hC.2.1
  have hl : lv_has ls 2 [(0, .ref (xa_a k 0)), (1, .ref a)] := hl
  refine lv_aload_n hx hb d_NetWires_receive_0 rfl (lv_at hl 0 rfl) ?_
  refine lv_aload_n hx hb d_NetWires_receive_1 rfl (lv_at hl 1 rfl) ?_
  refine xe_from hC hw hE fl_NetWires_175 d_NetWires_receive_2 ?_
  refine lv_aload_n hx hb d_NetWires_receive_5 rfl (lv_at hl 1 rfl) ?_
  refine xe_endpoint hC hw hE fl_NetWires_178 d_NetWires_receive_6 ?_
  refine ga_Vi (As := [.int (v 2), .int (v 1)]) (rest := []) hC hw (c_NetWires_areParted l k x (v 2) (v 1) _) m_NetWires_areParted ml_NetWires_104 (ga_recv hw (q0 := 0) rfl rfl) rfl rfl ⟨Nat.le_of_ble_eq_true rfl, Nat.le_of_ble_eq_true rfl⟩ rfl hl.1 rfl (Nat.le_of_ble_eq_true rfl) d_NetWires_receive_9 ⟨Nat.le_of_ble_eq_true rfl, Nat.le_of_ble_eq_true rfl⟩ (fun r u H locs hp hw => ?_)
  obtain ⟨rfl, hp⟩ := hp
  rcases hp with ⟨rfl, h_9⟩ | ⟨rfl, h_9⟩
  · refine lv_if_ne (tgt := 29) hx hb d_NetWires_receive_12 (by decide) (fun c_12 => ?_) (fun c_12 => ?_)
    · refine lv_aload_n hx hb d_NetWires_receive_29 rfl (lv_at hl 0 rfl) ?_
      refine lv_dup hx hb d_NetWires_receive_30 rfl ?_
      refine xg_NetWires_lost (v := x.1 5) hC hw fl_NetWires_63 d_NetWires_receive_31 rfl ?_
      refine lv_iconst (v := 1) hx hb d_NetWires_receive_34 (by decide) ?_
      refine lv_iadd hx hb d_NetWires_receive_35 ?_
      refine xp_NetWires_lost hC hw fl_NetWires_63 d_NetWires_receive_36 (fun H locs hw => ?_)
      refine lv_bipush (v := 16) hx hb d_NetWires_receive_39 (by decide) ?_
      exact ga_iret (u := xa_sI x 5 ((x.1 5) + 1)) hC hr hlocks hw (Or.inl ⟨rfl, rfl, Or.inl h_9⟩) (Nat.le_of_ble_eq_true rfl) (Nat.le_of_ble_eq_true rfl) d_NetWires_receive_41
    · exact absurd c_12 (by decide)
  · refine lv_if_ne (tgt := 29) hx hb d_NetWires_receive_12 (by decide) (fun c_12 => ?_) (fun c_12 => ?_)
    · exact absurd c_12 (by decide)
    · refine lv_aload_n hx hb d_NetWires_receive_15 rfl (lv_at hl 0 rfl) ?_
      refine xg_NetWires_downSet (v := x.1 3) hC hw fl_NetWires_57 d_NetWires_receive_16 rfl ?_
      refine lv_aload_n hx hb d_NetWires_receive_19 rfl (lv_at hl 1 rfl) ?_
      refine xe_endpoint hC hw hE fl_NetWires_178 d_NetWires_receive_20 ?_
      refine ga_Si (As := [.int (x.1 3), .int (v 1)]) (rest := []) hC hw (c_NetWires_isIn l k x (x.1 3) (v 1) _) m_NetWires_isIn ml_NetWires_219 rfl rfl ⟨Nat.le_of_ble_eq_true rfl, Nat.le_of_ble_eq_true rfl⟩ rfl hl.1 rfl (Nat.le_of_ble_eq_true rfl) d_NetWires_receive_23 ⟨Nat.le_of_ble_eq_true rfl, Nat.le_of_ble_eq_true rfl⟩ (fun r u H locs hp hw => ?_)
      obtain ⟨rfl, hp⟩ := hp
      rcases hp with ⟨rfl, h_23⟩ | ⟨rfl, h_23⟩
      · refine lv_if_eq (tgt := 42) hx hb d_NetWires_receive_26 (by decide) (fun c_26 => ?_) (fun c_26 => ?_)
        · exact absurd c_26 (by decide)
        · refine lv_aload_n hx hb d_NetWires_receive_29 rfl (lv_at hl 0 rfl) ?_
          refine lv_dup hx hb d_NetWires_receive_30 rfl ?_
          refine xg_NetWires_lost (v := x.1 5) hC hw fl_NetWires_63 d_NetWires_receive_31 rfl ?_
          refine lv_iconst (v := 1) hx hb d_NetWires_receive_34 (by decide) ?_
          refine lv_iadd hx hb d_NetWires_receive_35 ?_
          refine xp_NetWires_lost hC hw fl_NetWires_63 d_NetWires_receive_36 (fun H locs hw => ?_)
          refine lv_bipush (v := 16) hx hb d_NetWires_receive_39 (by decide) ?_
          exact ga_iret (u := xa_sI x 5 ((x.1 5) + 1)) hC hr hlocks hw (Or.inl ⟨rfl, rfl, Or.inr h_23⟩) (Nat.le_of_ble_eq_true rfl) (Nat.le_of_ble_eq_true rfl) d_NetWires_receive_41
      · refine lv_if_eq (tgt := 42) hx hb d_NetWires_receive_26 (by decide) (fun c_26 => ?_) (fun c_26 => ?_)
        · refine lv_aload_n hx hb d_NetWires_receive_42 rfl (lv_at hl 0 rfl) ?_
          refine lv_aload_n hx hb d_NetWires_receive_43 rfl (lv_at hl 1 rfl) ?_
          refine xe_bytes hC hw hE fl_NetWires_181 d_NetWires_receive_44 ?_
          refine xp_NetWires_arrivedBytes hC hw fl_NetWires_70 d_NetWires_receive_47 (fun H locs hw => ?_)
          refine lv_iconst (v := 0) hx hb d_NetWires_receive_50 (by decide) ?_
          exact ga_iret (u := xa_sB x b) hC hr hlocks hw (Or.inr ⟨rfl, rfl, fun h => h.elim h_9 h_23⟩) (Nat.le_of_ble_eq_true rfl) (Nat.le_of_ble_eq_true rfl) d_NetWires_receive_51
        · exact absurd c_26 (by decide)

set_option maxHeartbeats 4000000 in
set_option maxRecDepth 100000 in
theorem c_NetWires_letHappen (l : Launch) (k : xa_k) (x : XS) (a w kp : Nat) (v : Nat → Int32) (b : Nat) (hE : xa_isE (xa_P x) a v b) (hw9 : x.1 9 = nI w) (hw2 : w < 32) (hk9 : x.1 10 = nI kp) (hk2 : kp ≤ 32) (sz : Nat) : Met l y_NetWires_letHappen (Cond.code y_NetWires_letHappen b_NetWires_letHappen 4 (some .int) :: ga_T) ({ frames := 3, cells := 0, slots := 0, locals := 64 }) (va_Pc [.ref (xa_a k 0), .ref a] (ga_pre (xa_K k) (xa_W k x) sz)) (va_Qi (fun (r : Int32) (u : XS) => ∃ y, xa_hap x v b y r ∧ u = xa_rmb y r v w kp) (ga_post (xa_K k) (xa_W k x) sz (xa_W k)) (va_A (xa_W k x) sz)) 0 0 (va_A (xa_W k x) sz) := by
  refine ga_Met (by decide) (Nat.le_of_ble_eq_true rfl) ?_
  intro p e s m below meth c hC hr hlocks _ hw ls hl
  have hx := hC.1
  have hb := hC.2.1
  have hl : lv_has ls 4 [(0, .ref (xa_a k 0)), (1, .ref a)] := hl
  refine lv_aload_n hx hb d_NetWires_letHappen_0 rfl (lv_at hl 0 rfl) ?_
  refine lv_aload_n hx hb d_NetWires_letHappen_1 rfl (lv_at hl 1 rfl) ?_
  refine xe_time hC hw hE fl_NetWires_148 d_NetWires_letHappen_2 ?_
  refine xp_NetWires_now hC hw fl_NetWires_47 d_NetWires_letHappen_5 (fun H locs hw => ?_)
  refine lv_aload_n hx hb d_NetWires_letHappen_8 rfl (lv_at hl 1 rfl) ?_
  refine xe_kind hC hw hE fl_NetWires_245 d_NetWires_letHappen_9 ?_
  refine lv_istore_n (lv' := [(2, .int (v 0)), (0, .ref (xa_a k 0)), (1, .ref a)]) hx hb d_NetWires_letHappen_12 rfl hl (by decide) rfl (fun ls hl => ?_)
  refine lv_iload_n hx hb d_NetWires_letHappen_13 rfl (lv_at hl 0 rfl) ?_
  refine lv_if_ne (tgt := 23) hx hb d_NetWires_letHappen_14 (by decide) (fun c_14 => ?_) (fun c_14 => ?_)
  · refine lv_aload_n hx hb d_NetWires_letHappen_23 rfl (lv_at hl 2 rfl) ?_
    refine xe_endpoint hC hw hE fl_NetWires_178 d_NetWires_letHappen_24 ?_
    refine lv_iload_n hx hb d_NetWires_letHappen_27 rfl (lv_at hl 0 rfl) ?_
    refine lv_iadd hx hb d_NetWires_letHappen_28 ?_
    refine lv_istore_n (lv' := [(3, .int ((v 1) + (v 0))), (2, .int (v 0)), (0, .ref (xa_a k 0)), (1, .ref a)]) hx hb d_NetWires_letHappen_29 rfl hl (by decide) rfl (fun ls hl => ?_)
    refine lv_aload_n hx hb d_NetWires_letHappen_30 rfl (lv_at hl 2 rfl) ?_
    refine xg_NetWires_history hC hw fl_NetWires_26 d_NetWires_letHappen_31 ?_
    refine lv_iload_n hx hb d_NetWires_letHappen_34 rfl (lv_at hl 0 rfl) ?_
    refine lv_aload_n hx hb d_NetWires_letHappen_35 rfl (lv_at hl 3 rfl) ?_
    refine ga_Vv (As := [.int ((v 1) + (v 0)), .ref a]) (rest := []) hC hw (c_History_remember l k (xa_sI x 0 (v 3)) ((v 1) + (v 0)) a w kp v b hE hw9 hw2 hk9 hk2 _) m_History_remember ml_NetWires_251 (ga_recv hw (q0 := 5) rfl rfl) rfl rfl ⟨Nat.le_of_ble_eq_true rfl, Nat.le_of_ble_eq_true rfl⟩ rfl hl.1 rfl (Nat.le_of_ble_eq_true rfl) d_NetWires_letHappen_36 ⟨Nat.le_of_ble_eq_true rfl, Nat.le_of_ble_eq_true rfl⟩ (fun u H locs hp hw => ?_)
    subst hp
    refine lv_iload_n hx hb d_NetWires_letHappen_39 rfl (lv_at hl 0 rfl) ?_
    exact ga_iret (u := xa_rmb (xa_sI x 0 (v 3)) ((v 1) + (v 0)) v w kp) hC hr hlocks hw ⟨_, Or.inl ⟨c_14, rfl, rfl⟩, rfl⟩ (Nat.le_of_ble_eq_true rfl) (Nat.le_of_ble_eq_true rfl) d_NetWires_letHappen_40
  · refine lv_aload_n hx hb d_NetWires_letHappen_17 rfl (lv_at hl 1 rfl) ?_
    refine lv_aload_n hx hb d_NetWires_letHappen_18 rfl (lv_at hl 2 rfl) ?_
    refine ga_Vi (As := [.ref a]) (rest := []) hC hw (c_NetWires_receive l k (xa_sI x 0 (v 3)) a v b hE _) m_NetWires_receive ml_NetWires_248 (ga_recv hw (q0 := 0) rfl rfl) rfl rfl ⟨Nat.le_of_ble_eq_true rfl, Nat.le_of_ble_eq_true rfl⟩ rfl hl.1 rfl (Nat.le_of_ble_eq_true rfl) d_NetWires_letHappen_19 ⟨Nat.le_of_ble_eq_true rfl, Nat.le_of_ble_eq_true rfl⟩ (fun r u H locs hp hw => ?_)
    rcases hp with ⟨rfl, rfl, h_19⟩ | ⟨rfl, rfl, h_19⟩
    · refine lv_istore_n (lv' := [(2, .int 16), (0, .ref (xa_a k 0)), (1, .ref a)]) hx hb d_NetWires_letHappen_22 rfl hl (by decide) rfl (fun ls hl => ?_)
      refine lv_aload_n hx hb d_NetWires_letHappen_23 rfl (lv_at hl 2 rfl) ?_
      refine xe_endpoint hC hw hE fl_NetWires_178 d_NetWires_letHappen_24 ?_
      refine lv_iload_n hx hb d_NetWires_letHappen_27 rfl (lv_at hl 0 rfl) ?_
      refine lv_iadd hx hb d_NetWires_letHappen_28 ?_
      refine lv_istore_n (lv' := [(3, .int ((v 1) + 16)), (2, .int 16), (0, .ref (xa_a k 0)), (1, .ref a)]) hx hb d_NetWires_letHappen_29 rfl hl (by decide) rfl (fun ls hl => ?_)
      refine lv_aload_n hx hb d_NetWires_letHappen_30 rfl (lv_at hl 2 rfl) ?_
      refine xg_NetWires_history hC hw fl_NetWires_26 d_NetWires_letHappen_31 ?_
      refine lv_iload_n hx hb d_NetWires_letHappen_34 rfl (lv_at hl 0 rfl) ?_
      refine lv_aload_n hx hb d_NetWires_letHappen_35 rfl (lv_at hl 3 rfl) ?_
      refine ga_Vv (As := [.int ((v 1) + 16), .ref a]) (rest := []) hC hw (c_History_remember l k (xa_sI (xa_sI x 0 (v 3)) 5 ((x.1 5) + 1)) ((v 1) + 16) a w kp v b hE hw9 hw2 hk9 hk2 _) m_History_remember ml_NetWires_251 (ga_recv hw (q0 := 5) rfl rfl) rfl rfl ⟨Nat.le_of_ble_eq_true rfl, Nat.le_of_ble_eq_true rfl⟩ rfl hl.1 rfl (Nat.le_of_ble_eq_true rfl) d_NetWires_letHappen_36 ⟨Nat.le_of_ble_eq_true rfl, Nat.le_of_ble_eq_true rfl⟩ (fun u H locs hp hw => ?_)
      subst hp
      refine lv_iload_n hx hb d_NetWires_letHappen_39 rfl (lv_at hl 0 rfl) ?_
      exact ga_iret (u := xa_rmb (xa_sI (xa_sI x 0 (v 3)) 5 ((x.1 5) + 1)) ((v 1) + 16) v w kp) hC hr hlocks hw ⟨_, Or.inr (Or.inl ⟨c_14, h_19, rfl, rfl⟩), rfl⟩ (Nat.le_of_ble_eq_true rfl) (Nat.le_of_ble_eq_true rfl) d_NetWires_letHappen_40
    · refine lv_istore_n (lv' := [(2, .int 0), (0, .ref (xa_a k 0)), (1, .ref a)]) hx hb d_NetWires_letHappen_22 rfl hl (by decide) rfl (fun ls hl => ?_)
      refine lv_aload_n hx hb d_NetWires_letHappen_23 rfl (lv_at hl 2 rfl) ?_
      refine xe_endpoint hC hw hE fl_NetWires_178 d_NetWires_letHappen_24 ?_
      refine lv_iload_n hx hb d_NetWires_letHappen_27 rfl (lv_at hl 0 rfl) ?_
      refine lv_iadd hx hb d_NetWires_letHappen_28 ?_
      refine lv_istore_n (lv' := [(3, .int ((v 1) + 0)), (2, .int 0), (0, .ref (xa_a k 0)), (1, .ref a)]) hx hb d_NetWires_letHappen_29 rfl hl (by decide) rfl (fun ls hl => ?_)
      refine lv_aload_n hx hb d_NetWires_letHappen_30 rfl (lv_at hl 2 rfl) ?_
      refine xg_NetWires_history hC hw fl_NetWires_26 d_NetWires_letHappen_31 ?_
      refine lv_iload_n hx hb d_NetWires_letHappen_34 rfl (lv_at hl 0 rfl) ?_
      refine lv_aload_n hx hb d_NetWires_letHappen_35 rfl (lv_at hl 3 rfl) ?_
      refine ga_Vv (As := [.int ((v 1) + 0), .ref a]) (rest := []) hC hw (c_History_remember l k (xa_sB (xa_sI x 0 (v 3)) b) ((v 1) + 0) a w kp v b hE hw9 hw2 hk9 hk2 _) m_History_remember ml_NetWires_251 (ga_recv hw (q0 := 5) rfl rfl) rfl rfl ⟨Nat.le_of_ble_eq_true rfl, Nat.le_of_ble_eq_true rfl⟩ rfl hl.1 rfl (Nat.le_of_ble_eq_true rfl) d_NetWires_letHappen_36 ⟨Nat.le_of_ble_eq_true rfl, Nat.le_of_ble_eq_true rfl⟩ (fun u H locs hp hw => ?_)
      subst hp
      refine lv_iload_n hx hb d_NetWires_letHappen_39 rfl (lv_at hl 0 rfl) ?_
      exact ga_iret (u := xa_rmb (xa_sB (xa_sI x 0 (v 3)) b) ((v 1) + 0) v w kp) hC hr hlocks hw ⟨_, Or.inr (Or.inr ⟨c_14, h_19, rfl, rfl⟩), rfl⟩ (Nat.le_of_ble_eq_true rfl) (Nat.le_of_ble_eq_true rfl) d_NetWires_letHappen_40
set_option maxHeartbeats 4000000 in
set_option maxRecDepth 100000 in
theorem c_NetWires_demandEndpoint (l : Launch) (k : xa_k) (hst : l.stackTraces = false) (x : XS) (n9 : Int32)  (sz : Nat) : vx_Met l y_NetWires_demandEndpoint (Cond.code y_NetWires_demandEndpoint b_NetWires_demandEndpoint 1 none :: ga_T) ({ frames := 6, cells := 1, slots := 6, locals := 82 }) (va_Pc [.int n9] (ga_pre (xa_K k) (xa_W k x) sz)) (va_Qv (fun (u : XS) => x = u ∧ (¬ n9 < 0 ∧ ¬ 15 < n9)) (ga_post (xa_K k) (xa_W k x) sz (xa_W k)) (va_A (xa_W k x) sz)) (ga_XC (xa_K k) (xa_W k x) sz (xa_W k) (fun E u => E = ga_IOB ∧ x = u ∧ (n9 < 0 ∨ 15 < n9))) 1 6 (va_A (xa_W k x) sz) := by
  refine ga_MetX (by decide) (Nat.le_of_ble_eq_true rfl) ?_
  intro p e s m below meth c hC hr hlocks hT hw ls hl
  have hx := hC.1
  have hb := hC.2.1
  have hl : lv_has ls 1 [(0, .int n9)] := hl
  refine lv_iload_n hx hb d_NetWires_demandEndpoint_0 rfl (lv_at hl 0 rfl) ?_
  refine lv_iconst (v := 0) hx hb d_NetWires_demandEndpoint_1 (by decide) ?_
  refine lv_bipush (v := 15) hx hb d_NetWires_demandEndpoint_2 (by decide) ?_
  refine ga_Si (As := [.int n9, .int 0, .int 15]) (rest := []) hC hw (c_NetWires_isWithin l k x n9 0 15 _) m_NetWires_isWithin ml_NetWires_140 rfl rfl ⟨Nat.le_of_ble_eq_true rfl, Nat.le_of_ble_eq_true rfl⟩ rfl hl.1 rfl (Nat.le_of_ble_eq_true rfl) d_NetWires_demandEndpoint_4 ⟨Nat.le_of_ble_eq_true rfl, Nat.le_of_ble_eq_true rfl⟩ (fun r u H locs hp hw => ?_)
  obtain ⟨rfl, hp⟩ := hp
  rcases hp with ⟨rfl, ⟨h_4, g_4⟩⟩ | ⟨rfl, h_4⟩
  · refine lv_if_ne (tgt := 20) hx hb d_NetWires_demandEndpoint_7 (by decide) (fun c_7 => ?_) (fun c_7 => ?_)
    · exact vx_ret (ga_vret (u := x) hC hr hlocks hw ⟨rfl, h_4, g_4⟩ (Nat.le_of_ble_eq_true rfl) (Nat.le_of_ble_eq_true rfl) d_NetWires_demandEndpoint_20)
    · exact absurd c_7 (by decide)
  · refine lv_if_ne (tgt := 20) hx hb d_NetWires_demandEndpoint_7 (by decide) (fun c_7 => ?_) (fun c_7 => ?_)
    · exact absurd c_7 (by decide)
    · exact ga_thIOB (u := x) hst hC hT hlocks hw hl.1 (is := 212) (tx := "no such endpoint") (by decide +kernel) ⟨rfl, rfl, h_4⟩ d_NetWires_demandEndpoint_10 d_NetWires_demandEndpoint_13 d_NetWires_demandEndpoint_14 d_NetWires_demandEndpoint_16 d_NetWires_demandEndpoint_19 (Nat.le_of_ble_eq_true rfl) (Nat.le_of_ble_eq_true rfl) (Nat.le_of_ble_eq_true rfl) (Nat.le_of_ble_eq_true rfl) (Nat.le_of_ble_eq_true rfl) (Nat.le_of_ble_eq_true rfl)

set_option maxHeartbeats 4000000 in
set_option maxRecDepth 100000 in
theorem c_NetWires_demandTicks (l : Launch) (k : xa_k) (hst : l.stackTraces = false) (x : XS) (n9 most : Int32)  (sz : Nat) : vx_Met l y_NetWires_demandTicks (Cond.code y_NetWires_demandTicks b_NetWires_demandTicks 2 none :: ga_T) ({ frames := 6, cells := 1, slots := 6, locals := 82 }) (va_Pc [.int n9, .int most] (ga_pre (xa_K k) (xa_W k x) sz)) (va_Qv (fun (u : XS) => x = u ∧ (¬ n9 < 0 ∧ ¬ most < n9)) (ga_post (xa_K k) (xa_W k x) sz (xa_W k)) (va_A (xa_W k x) sz)) (ga_XC (xa_K k) (xa_W k x) sz (xa_W k) (fun E u => E = ga_IAE ∧ x = u ∧ (n9 < 0 ∨ most < n9))) 1 6 (va_A (xa_W k x) sz) := by
  refine ga_MetX (by decide) (Nat.le_of_ble_eq_true rfl) ?_
  intro p e s m below meth c hC hr hlocks hT hw ls hl
  have hx := hC.1
  have hb := hC.2.1
  have hl : lv_has ls 2 [(0, .int n9), (1, .int most)] := hl
  refine lv_iload_n hx hb d_NetWires_demandTicks_0 rfl (lv_at hl 0 rfl) ?_
  refine lv_iconst (v := 0) hx hb d_NetWires_demandTicks_1 (by decide) ?_
  refine lv_iload_n hx hb d_NetWires_demandTicks_2 rfl (lv_at hl 1 rfl) ?_
  refine ga_Si (As := [.int n9, .int 0, .int most]) (rest := []) hC hw (c_NetWires_isWithin l k x n9 0 most _) m_NetWires_isWithin ml_NetWires_140 rfl rfl ⟨Nat.le_of_ble_eq_true rfl, Nat.le_of_ble_eq_true rfl⟩ rfl hl.1 rfl (Nat.le_of_ble_eq_true rfl) d_NetWires_demandTicks_3 ⟨Nat.le_of_ble_eq_true rfl, Nat.le_of_ble_eq_true rfl⟩ (fun r u H locs hp hw => ?_)
  obtain ⟨rfl, hp⟩ := hp
  rcases hp with ⟨rfl, ⟨h_3, g_3⟩⟩ | ⟨rfl, h_3⟩
  · refine lv_if_ne (tgt := 19) hx hb d_NetWires_demandTicks_6 (by decide) (fun c_6 => ?_) (fun c_6 => ?_)
    · exact vx_ret (ga_vret (u := x) hC hr hlocks hw ⟨rfl, h_3, g_3⟩ (Nat.le_of_ble_eq_true rfl) (Nat.le_of_ble_eq_true rfl) d_NetWires_demandTicks_19)
    · exact absurd c_6 (by decide)
  · refine lv_if_ne (tgt := 19) hx hb d_NetWires_demandTicks_6 (by decide) (fun c_6 => ?_) (fun c_6 => ?_)
    · exact absurd c_6 (by decide)
    · exact ga_thIAE (u := x) hst hC hT hlocks hw hl.1 (is := 214) (tx := "no such ticks") (by decide +kernel) ⟨rfl, rfl, h_3⟩ d_NetWires_demandTicks_9 d_NetWires_demandTicks_12 d_NetWires_demandTicks_13 d_NetWires_demandTicks_15 d_NetWires_demandTicks_18 (Nat.le_of_ble_eq_true rfl) (Nat.le_of_ble_eq_true rfl) (Nat.le_of_ble_eq_true rfl) (Nat.le_of_ble_eq_true rfl) (Nat.le_of_ble_eq_true rfl) (Nat.le_of_ble_eq_true rfl)

set_option maxHeartbeats 4000000 in
set_option maxRecDepth 100000 in
theorem c_NetWires_demandSet (l : Launch) (k : xa_k) (hst : l.stackTraces = false) (x : XS) (n9 : Int32)  (sz : Nat) : vx_Met l y_NetWires_demandSet (Cond.code y_NetWires_demandSet b_NetWires_demandSet 1 none :: ga_T) ({ frames := 6, cells := 1, slots := 6, locals := 82 }) (va_Pc [.int n9] (ga_pre (xa_K k) (xa_W k x) sz)) (va_Qv (fun (u : XS) => x = u ∧ (¬ n9 < 0 ∧ ¬ 65535 < n9)) (ga_post (xa_K k) (xa_W k x) sz (xa_W k)) (va_A (xa_W k x) sz)) (ga_XC (xa_K k) (xa_W k x) sz (xa_W k) (fun E u => E = ga_IAE ∧ x = u ∧ (n9 < 0 ∨ 65535 < n9))) 1 6 (va_A (xa_W k x) sz) := by
  refine ga_MetX (by decide) (Nat.le_of_ble_eq_true rfl) ?_
  intro p e s m below meth c hC hr hlocks hT hw ls hl
  have hx := hC.1
  have hb := hC.2.1
  have hl : lv_has ls 1 [(0, .int n9)] := hl
  refine lv_iload_n hx hb d_NetWires_demandSet_0 rfl (lv_at hl 0 rfl) ?_
  refine lv_iconst (v := 0) hx hb d_NetWires_demandSet_1 (by decide) ?_
  refine lv_ldc (v := 65535) hx hb hC.2.2.2.1 (hC.2.2.2.2 _ kc_NetWires_216) d_NetWires_demandSet_2 ?_
  refine ga_Si (As := [.int n9, .int 0, .int 65535]) (rest := []) hC hw (c_NetWires_isWithin l k x n9 0 65535 _) m_NetWires_isWithin ml_NetWires_140 rfl rfl ⟨Nat.le_of_ble_eq_true rfl, Nat.le_of_ble_eq_true rfl⟩ rfl hl.1 rfl (Nat.le_of_ble_eq_true rfl) d_NetWires_demandSet_4 ⟨Nat.le_of_ble_eq_true rfl, Nat.le_of_ble_eq_true rfl⟩ (fun r u H locs hp hw => ?_)
  obtain ⟨rfl, hp⟩ := hp
  rcases hp with ⟨rfl, ⟨h_4, g_4⟩⟩ | ⟨rfl, h_4⟩
  · refine lv_if_ne (tgt := 20) hx hb d_NetWires_demandSet_7 (by decide) (fun c_7 => ?_) (fun c_7 => ?_)
    · exact vx_ret (ga_vret (u := x) hC hr hlocks hw ⟨rfl, h_4, g_4⟩ (Nat.le_of_ble_eq_true rfl) (Nat.le_of_ble_eq_true rfl) d_NetWires_demandSet_20)
    · exact absurd c_7 (by decide)
  · refine lv_if_ne (tgt := 20) hx hb d_NetWires_demandSet_7 (by decide) (fun c_7 => ?_) (fun c_7 => ?_)
    · exact absurd c_7 (by decide)
    · exact ga_thIAE (u := x) hst hC hT hlocks hw hl.1 (is := 217) (tx := "no such set of endpoints") (by decide +kernel) ⟨rfl, rfl, h_4⟩ d_NetWires_demandSet_10 d_NetWires_demandSet_13 d_NetWires_demandSet_14 d_NetWires_demandSet_16 d_NetWires_demandSet_19 (Nat.le_of_ble_eq_true rfl) (Nat.le_of_ble_eq_true rfl) (Nat.le_of_ble_eq_true rfl) (Nat.le_of_ble_eq_true rfl) (Nat.le_of_ble_eq_true rfl) (Nat.le_of_ble_eq_true rfl)
