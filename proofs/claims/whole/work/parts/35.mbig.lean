set_option maxHeartbeats 4000000 in
set_option maxRecDepth 100000 in
theorem c_M_delay (l : Launch) (k : xa_k) (a : Nat → Nat) (y : MS) (fr to ti : Int32)  (sz : Nat) : Met l y_M_delay (Cond.code y_M_delay b_M_delay 5 (some .int) :: ga_T) ({ frames := 1, cells := 0, slots := 0, locals := 22 }) (va_Pc [.ref (a 0), .int fr, .int to, .int ti] (ga_pre (xa_K k) (ma_W k a y) sz)) (va_Qi (fun (r : Int32) (u : MS) => (((fr < 0 ∨ 15 < fr) ∨ (to < 0 ∨ 15 < to)) ∧ r = 0 ∧ u = ma_sI y 0 1) ∨ (((¬ fr < 0 ∧ ¬ 15 < fr) ∧ (¬ to < 0 ∧ ¬ 15 < to)) ∧ (ti < 0 ∨ 1000 < ti) ∧ r = 0 ∧ u = ma_sI y 0 2) ∨ (∃ i9 j9, i9 < 16 ∧ fr = nI i9 ∧ j9 < 16 ∧ to = nI j9 ∧ (¬ ti < 0 ∧ ¬ 1000 < ti) ∧ r = ma_A y 9 (16 * i9 + j9) ∧ u = ma_sA (ma_sI y 0 0) 9 (upd (ma_A y 9) (16 * i9 + j9) ti))) (ga_post (xa_K k) (ma_W k a y) sz (ma_W k a)) (va_A (ma_W k a y) sz)) 0 0 (va_A (ma_W k a y) sz) := by
  refine ga_Met (by decide) (Nat.le_of_ble_eq_true rfl) ?_
  intro p e s m below meth c hC hr hlocks _ hw ls hl
  have hx := hC.1
  have hb := hC.2.1
  have hl : lv_has ls 5 [(0, .ref (a 0)), (1, .int fr), (2, .int to), (3, .int ti)] := hl
  refine lv_aload_n hx hb d_M_delay_0 rfl (lv_at hl 0 rfl) ?_
  refine lv_iconst (v := 0) hx hb d_M_delay_1 (by decide) ?_
  refine mp_thrown hC hw fl_M_51 d_M_delay_2 (fun H locs hw => ?_)
  refine lv_iload_n hx hb d_M_delay_5 rfl (lv_at hl 1 rfl) ?_
  refine ga_Si (As := [.int fr]) (rest := []) hC hw (c_M_isEnd l k a (ma_sI y 0 0) fr _) m_M_isEnd ml_M_74 rfl rfl ⟨Nat.le_of_ble_eq_true rfl, Nat.le_of_ble_eq_true rfl⟩ rfl hl.1 rfl (Nat.le_of_ble_eq_true rfl) d_M_delay_6 ⟨Nat.le_of_ble_eq_true rfl, Nat.le_of_ble_eq_true rfl⟩ (fun r u H locs hp hw => ?_)
  obtain ⟨rfl, hp⟩ := hp
  rcases hp with ⟨rfl, ⟨h_6, g_6⟩⟩ | ⟨rfl, h_6⟩
  · refine lv_if_eq (tgt := 19) hx hb d_M_delay_9 (by decide) (fun c_9 => ?_) (fun c_9 => ?_)
    · exact absurd c_9 (by decide)
    · refine lv_iload_n hx hb d_M_delay_12 rfl (lv_at hl 2 rfl) ?_
      refine ga_Si (As := [.int to]) (rest := []) hC hw (c_M_isEnd l k a (ma_sI y 0 0) to _) m_M_isEnd ml_M_74 rfl rfl ⟨Nat.le_of_ble_eq_true rfl, Nat.le_of_ble_eq_true rfl⟩ rfl hl.1 rfl (Nat.le_of_ble_eq_true rfl) d_M_delay_13 ⟨Nat.le_of_ble_eq_true rfl, Nat.le_of_ble_eq_true rfl⟩ (fun r u H locs hp hw => ?_)
      obtain ⟨rfl, hp⟩ := hp
      rcases hp with ⟨rfl, ⟨h_13, g_13⟩⟩ | ⟨rfl, h_13⟩
      · refine lv_if_ne (tgt := 25) hx hb d_M_delay_16 (by decide) (fun c_16 => ?_) (fun c_16 => ?_)
        · refine lv_iload_n hx hb d_M_delay_25 rfl (lv_at hl 3 rfl) ?_
          refine lv_iconst (v := 0) hx hb d_M_delay_26 (by decide) ?_
          refine lv_sipush (v := 1000) hx hb d_M_delay_27 (by decide) ?_
          refine ga_Si (As := [.int ti, .int 0, .int 1000]) (rest := []) hC hw (c_M_within l k a (ma_sI y 0 0) ti 0 1000 _) m_M_within ml_M_54 rfl rfl ⟨Nat.le_of_ble_eq_true rfl, Nat.le_of_ble_eq_true rfl⟩ rfl hl.1 rfl (Nat.le_of_ble_eq_true rfl) d_M_delay_30 ⟨Nat.le_of_ble_eq_true rfl, Nat.le_of_ble_eq_true rfl⟩ (fun r u H locs hp hw => ?_)
          obtain ⟨rfl, hp⟩ := hp
          rcases hp with ⟨rfl, ⟨h_30, g_30⟩⟩ | ⟨rfl, h_30⟩
          · refine lv_if_ne (tgt := 42) hx hb d_M_delay_33 (by decide) (fun c_33 => ?_) (fun c_33 => ?_)
            · obtain ⟨i9, hi9, ei9⟩ := xa_16 h_6 g_6
              obtain ⟨j9, hj9, ej9⟩ := xa_16 h_13 g_13
              refine lv_aload_n hx hb d_M_delay_42 rfl (lv_at hl 0 rfl) ?_
              refine mg_delays hC hw fl_M_38 d_M_delay_43 ?_
              refine lv_bipush (v := 16) hx hb d_M_delay_46 (by decide) ?_
              refine lv_iload_n hx hb d_M_delay_48 rfl (lv_at hl 1 rfl) ?_
              refine lv_imul hx hb d_M_delay_49 ?_
              refine lv_iload_n hx hb d_M_delay_50 rfl (lv_at hl 2 rfl) ?_
              refine lv_iadd hx hb d_M_delay_51 ?_
              refine ga_asi (v := nI (16 * i9 + j9)) (by rw [ei9, ej9]; exact (congrArg (· + nI j9) (pk_mul 16 i9)).trans (nI_add _ _)) ?_
              refine mr_delays (v := (ma_A y 9) (16 * i9 + j9)) hC hw (vp_in_nI (by omega) (by decide)) d_M_delay_52 (by rw [nI_clamp (by omega)] <;> rfl) ?_
              refine lv_istore (lv' := [(4, .int ((ma_A y 9) (16 * i9 + j9))), (0, .ref (a 0)), (1, .int fr), (2, .int to), (3, .int ti)]) hx hb d_M_delay_53 hl (by decide) rfl (fun ls hl => ?_)
              refine lv_aload_n hx hb d_M_delay_55 rfl (lv_at hl 1 rfl) ?_
              refine mg_delays hC hw fl_M_38 d_M_delay_56 ?_
              refine lv_bipush (v := 16) hx hb d_M_delay_59 (by decide) ?_
              refine lv_iload_n hx hb d_M_delay_61 rfl (lv_at hl 2 rfl) ?_
              refine lv_imul hx hb d_M_delay_62 ?_
              refine lv_iload_n hx hb d_M_delay_63 rfl (lv_at hl 3 rfl) ?_
              refine lv_iadd hx hb d_M_delay_64 ?_
              refine ga_asi (v := nI (16 * i9 + j9)) (by rw [ei9, ej9]; exact (congrArg (· + nI j9) (pk_mul 16 i9)).trans (nI_add _ _)) ?_
              refine lv_iload_n hx hb d_M_delay_65 rfl (lv_at hl 4 rfl) ?_
              refine ms_delays hC hw (vp_in_nI (by omega) (by decide)) d_M_delay_66 (fun H locs hw => ?_)
              refine lv_iload hx hb d_M_delay_67 (lv_at hl 0 rfl) ?_
              exact ga_iret (u := ma_sA (ma_sI y 0 0) 9 (upd (ma_A y 9) (nI (16 * i9 + j9)).toNatClampNeg ti)) hC hr hlocks hw (Or.inr (Or.inr ⟨i9, j9, hi9, ei9, hj9, ej9, ⟨h_30, g_30⟩, rfl, by rw [nI_clamp (n := 16 * i9 + j9) (by omega)] <;> rfl⟩)) (Nat.le_of_ble_eq_true rfl) (Nat.le_of_ble_eq_true rfl) d_M_delay_69
            · exact absurd c_33 (by decide)
          · refine lv_if_ne (tgt := 42) hx hb d_M_delay_33 (by decide) (fun c_33 => ?_) (fun c_33 => ?_)
            · exact absurd c_33 (by decide)
            · refine lv_aload_n hx hb d_M_delay_36 rfl (lv_at hl 0 rfl) ?_
              refine lv_iconst (v := 2) hx hb d_M_delay_37 (by decide) ?_
              refine ga_Vi (As := [.int 2]) (rest := []) hC hw (c_M_fail l k a (ma_sI y 0 0) 2 _) m_M_fail ml_M_58 (ga_recv hw (q0 := 0) rfl rfl) rfl rfl ⟨Nat.le_of_ble_eq_true rfl, Nat.le_of_ble_eq_true rfl⟩ rfl hl.1 rfl (Nat.le_of_ble_eq_true rfl) d_M_delay_38 ⟨Nat.le_of_ble_eq_true rfl, Nat.le_of_ble_eq_true rfl⟩ (fun r u H locs hp hw => ?_)
              obtain ⟨rfl, rfl⟩ := hp
              exact ga_iret (u := ma_sI (ma_sI y 0 0) 0 2) hC hr hlocks hw (Or.inr (Or.inl ⟨⟨⟨h_6, g_6⟩, ⟨h_13, g_13⟩⟩, h_30, rfl, ma_2s⟩)) (Nat.le_of_ble_eq_true rfl) (Nat.le_of_ble_eq_true rfl) d_M_delay_41
        · exact absurd c_16 (by decide)
      · refine lv_if_ne (tgt := 25) hx hb d_M_delay_16 (by decide) (fun c_16 => ?_) (fun c_16 => ?_)
        · exact absurd c_16 (by decide)
        · refine lv_aload_n hx hb d_M_delay_19 rfl (lv_at hl 0 rfl) ?_
          refine lv_iconst (v := 1) hx hb d_M_delay_20 (by decide) ?_
          refine ga_Vi (As := [.int 1]) (rest := []) hC hw (c_M_fail l k a (ma_sI y 0 0) 1 _) m_M_fail ml_M_58 (ga_recv hw (q0 := 0) rfl rfl) rfl rfl ⟨Nat.le_of_ble_eq_true rfl, Nat.le_of_ble_eq_true rfl⟩ rfl hl.1 rfl (Nat.le_of_ble_eq_true rfl) d_M_delay_21 ⟨Nat.le_of_ble_eq_true rfl, Nat.le_of_ble_eq_true rfl⟩ (fun r u H locs hp hw => ?_)
          obtain ⟨rfl, rfl⟩ := hp
          exact ga_iret (u := ma_sI (ma_sI y 0 0) 0 1) hC hr hlocks hw (Or.inl ⟨Or.inr h_13, rfl, ma_2s⟩) (Nat.le_of_ble_eq_true rfl) (Nat.le_of_ble_eq_true rfl) d_M_delay_24
  · refine lv_if_eq (tgt := 19) hx hb d_M_delay_9 (by decide) (fun c_9 => ?_) (fun c_9 => ?_)
    · refine lv_aload_n hx hb d_M_delay_19 rfl (lv_at hl 0 rfl) ?_
      refine lv_iconst (v := 1) hx hb d_M_delay_20 (by decide) ?_
      refine ga_Vi (As := [.int 1]) (rest := []) hC hw (c_M_fail l k a (ma_sI y 0 0) 1 _) m_M_fail ml_M_58 (ga_recv hw (q0 := 0) rfl rfl) rfl rfl ⟨Nat.le_of_ble_eq_true rfl, Nat.le_of_ble_eq_true rfl⟩ rfl hl.1 rfl (Nat.le_of_ble_eq_true rfl) d_M_delay_21 ⟨Nat.le_of_ble_eq_true rfl, Nat.le_of_ble_eq_true rfl⟩ (fun r u H locs hp hw => ?_)
      obtain ⟨rfl, rfl⟩ := hp
      exact ga_iret (u := ma_sI (ma_sI y 0 0) 0 1) hC hr hlocks hw (Or.inl ⟨Or.inl h_6, rfl, ma_2s⟩) (Nat.le_of_ble_eq_true rfl) (Nat.le_of_ble_eq_true rfl) d_M_delay_24
    · exact absurd c_9 (by decide)

set_option maxHeartbeats 4000000 in
set_option maxRecDepth 100000 in
theorem c_M_part (l : Launch) (k : xa_k) (a : Nat → Nat) (y : MS) (v9 : Int32)  (sz : Nat) : Met l y_M_part (Cond.code y_M_part b_M_part 3 (some .int) :: ga_T) ({ frames := 1, cells := 0, slots := 0, locals := 22 }) (va_Pc [.ref (a 0), .int v9] (ga_pre (xa_K k) (ma_W k a y) sz)) (va_Qi (fun (r : Int32) (u : MS) => ((v9 < 0 ∨ 65535 < v9) ∧ r = 0 ∧ u = ma_sI y 0 1) ∨ ((¬ v9 < 0 ∧ ¬ 65535 < v9) ∧ r = y.1 5 ∧ u = ma_sI (ma_sI y 0 0) 5 v9)) (ga_post (xa_K k) (ma_W k a y) sz (ma_W k a)) (va_A (ma_W k a y) sz)) 0 0 (va_A (ma_W k a y) sz) := by
  refine ga_Met (by decide) (Nat.le_of_ble_eq_true rfl) ?_
  intro p e s m below meth c hC hr hlocks _ hw ls hl
  have hx := hC.1
  have hb := hC.2.1
  have hl : lv_has ls 3 [(0, .ref (a 0)), (1, .int v9)] := hl
  refine lv_aload_n hx hb d_M_part_0 rfl (lv_at hl 0 rfl) ?_
  refine lv_iconst (v := 0) hx hb d_M_part_1 (by decide) ?_
  refine mp_thrown hC hw fl_M_51 d_M_part_2 (fun H locs hw => ?_)
  refine lv_iload_n hx hb d_M_part_5 rfl (lv_at hl 1 rfl) ?_
  refine lv_iconst (v := 0) hx hb d_M_part_6 (by decide) ?_
  refine lv_ldc (v := 65535) hx hb hC.2.2.2.1 (hC.2.2.2.2 _ kc_M_155) d_M_part_7 ?_
  refine ga_Si (As := [.int v9, .int 0, .int 65535]) (rest := []) hC hw (c_M_within l k a (ma_sI y 0 0) v9 0 65535 _) m_M_within ml_M_54 rfl rfl ⟨Nat.le_of_ble_eq_true rfl, Nat.le_of_ble_eq_true rfl⟩ rfl hl.1 rfl (Nat.le_of_ble_eq_true rfl) d_M_part_9 ⟨Nat.le_of_ble_eq_true rfl, Nat.le_of_ble_eq_true rfl⟩ (fun r u H locs hp hw => ?_)
  obtain ⟨rfl, hp⟩ := hp
  rcases hp with ⟨rfl, ⟨h_9, g_9⟩⟩ | ⟨rfl, h_9⟩
  · refine lv_if_ne (tgt := 21) hx hb d_M_part_12 (by decide) (fun c_12 => ?_) (fun c_12 => ?_)
    · refine lv_aload_n hx hb d_M_part_21 rfl (lv_at hl 0 rfl) ?_
      refine mg_parted (v := y.1 5) hC hw fl_M_104 d_M_part_22 rfl ?_
      refine lv_istore_n (lv' := [(2, .int (y.1 5)), (0, .ref (a 0)), (1, .int v9)]) hx hb d_M_part_25 rfl hl (by decide) rfl (fun ls hl => ?_)
      refine lv_aload_n hx hb d_M_part_26 rfl (lv_at hl 1 rfl) ?_
      refine lv_iload_n hx hb d_M_part_27 rfl (lv_at hl 2 rfl) ?_
      refine mp_parted hC hw fl_M_104 d_M_part_28 (fun H locs hw => ?_)
      refine lv_iload_n hx hb d_M_part_31 rfl (lv_at hl 0 rfl) ?_
      exact ga_iret (u := ma_sI (ma_sI y 0 0) 5 v9) hC hr hlocks hw (Or.inr ⟨⟨h_9, g_9⟩, rfl, rfl⟩) (Nat.le_of_ble_eq_true rfl) (Nat.le_of_ble_eq_true rfl) d_M_part_32
    · exact absurd c_12 (by decide)
  · refine lv_if_ne (tgt := 21) hx hb d_M_part_12 (by decide) (fun c_12 => ?_) (fun c_12 => ?_)
    · exact absurd c_12 (by decide)
    · refine lv_aload_n hx hb d_M_part_15 rfl (lv_at hl 0 rfl) ?_
      refine lv_iconst (v := 1) hx hb d_M_part_16 (by decide) ?_
      refine ga_Vi (As := [.int 1]) (rest := []) hC hw (c_M_fail l k a (ma_sI y 0 0) 1 _) m_M_fail ml_M_58 (ga_recv hw (q0 := 0) rfl rfl) rfl rfl ⟨Nat.le_of_ble_eq_true rfl, Nat.le_of_ble_eq_true rfl⟩ rfl hl.1 rfl (Nat.le_of_ble_eq_true rfl) d_M_part_17 ⟨Nat.le_of_ble_eq_true rfl, Nat.le_of_ble_eq_true rfl⟩ (fun r u H locs hp hw => ?_)
      obtain ⟨rfl, rfl⟩ := hp
      exact ga_iret (u := ma_sI (ma_sI y 0 0) 0 1) hC hr hlocks hw (Or.inl ⟨h_9, rfl, ma_2s⟩) (Nat.le_of_ble_eq_true rfl) (Nat.le_of_ble_eq_true rfl) d_M_part_20

set_option maxHeartbeats 4000000 in
set_option maxRecDepth 100000 in
theorem c_M_down (l : Launch) (k : xa_k) (a : Nat → Nat) (y : MS) (v9 : Int32)  (sz : Nat) : Met l y_M_down (Cond.code y_M_down b_M_down 3 (some .int) :: ga_T) ({ frames := 1, cells := 0, slots := 0, locals := 22 }) (va_Pc [.ref (a 0), .int v9] (ga_pre (xa_K k) (ma_W k a y) sz)) (va_Qi (fun (r : Int32) (u : MS) => ((v9 < 0 ∨ 65535 < v9) ∧ r = 0 ∧ u = ma_sI y 0 1) ∨ ((¬ v9 < 0 ∧ ¬ 65535 < v9) ∧ r = y.1 6 ∧ u = ma_sI (ma_sI y 0 0) 6 v9)) (ga_post (xa_K k) (ma_W k a y) sz (ma_W k a)) (va_A (ma_W k a y) sz)) 0 0 (va_A (ma_W k a y) sz) := by
  refine ga_Met (by decide) (Nat.le_of_ble_eq_true rfl) ?_
  intro p e s m below meth c hC hr hlocks _ hw ls hl
  have hx := hC.1
  have hb := hC.2.1
  have hl : lv_has ls 3 [(0, .ref (a 0)), (1, .int v9)] := hl
  refine lv_aload_n hx hb d_M_down_0 rfl (lv_at hl 0 rfl) ?_
  refine lv_iconst (v := 0) hx hb d_M_down_1 (by decide) ?_
  refine mp_thrown hC hw fl_M_51 d_M_down_2 (fun H locs hw => ?_)
  refine lv_iload_n hx hb d_M_down_5 rfl (lv_at hl 1 rfl) ?_
  refine lv_iconst (v := 0) hx hb d_M_down_6 (by decide) ?_
  refine lv_ldc (v := 65535) hx hb hC.2.2.2.1 (hC.2.2.2.2 _ kc_M_155) d_M_down_7 ?_
  refine ga_Si (As := [.int v9, .int 0, .int 65535]) (rest := []) hC hw (c_M_within l k a (ma_sI y 0 0) v9 0 65535 _) m_M_within ml_M_54 rfl rfl ⟨Nat.le_of_ble_eq_true rfl, Nat.le_of_ble_eq_true rfl⟩ rfl hl.1 rfl (Nat.le_of_ble_eq_true rfl) d_M_down_9 ⟨Nat.le_of_ble_eq_true rfl, Nat.le_of_ble_eq_true rfl⟩ (fun r u H locs hp hw => ?_)
  obtain ⟨rfl, hp⟩ := hp
  rcases hp with ⟨rfl, ⟨h_9, g_9⟩⟩ | ⟨rfl, h_9⟩
  · refine lv_if_ne (tgt := 21) hx hb d_M_down_12 (by decide) (fun c_12 => ?_) (fun c_12 => ?_)
    · refine lv_aload_n hx hb d_M_down_21 rfl (lv_at hl 0 rfl) ?_
      refine mg_down (v := y.1 6) hC hw fl_M_142 d_M_down_22 rfl ?_
      refine lv_istore_n (lv' := [(2, .int (y.1 6)), (0, .ref (a 0)), (1, .int v9)]) hx hb d_M_down_25 rfl hl (by decide) rfl (fun ls hl => ?_)
      refine lv_aload_n hx hb d_M_down_26 rfl (lv_at hl 1 rfl) ?_
      refine lv_iload_n hx hb d_M_down_27 rfl (lv_at hl 2 rfl) ?_
      refine mp_down hC hw fl_M_142 d_M_down_28 (fun H locs hw => ?_)
      refine lv_iload_n hx hb d_M_down_31 rfl (lv_at hl 0 rfl) ?_
      exact ga_iret (u := ma_sI (ma_sI y 0 0) 6 v9) hC hr hlocks hw (Or.inr ⟨⟨h_9, g_9⟩, rfl, rfl⟩) (Nat.le_of_ble_eq_true rfl) (Nat.le_of_ble_eq_true rfl) d_M_down_32
    · exact absurd c_12 (by decide)
  · refine lv_if_ne (tgt := 21) hx hb d_M_down_12 (by decide) (fun c_12 => ?_) (fun c_12 => ?_)
    · exact absurd c_12 (by decide)
    · refine lv_aload_n hx hb d_M_down_15 rfl (lv_at hl 0 rfl) ?_
      refine lv_iconst (v := 1) hx hb d_M_down_16 (by decide) ?_
      refine ga_Vi (As := [.int 1]) (rest := []) hC hw (c_M_fail l k a (ma_sI y 0 0) 1 _) m_M_fail ml_M_58 (ga_recv hw (q0 := 0) rfl rfl) rfl rfl ⟨Nat.le_of_ble_eq_true rfl, Nat.le_of_ble_eq_true rfl⟩ rfl hl.1 rfl (Nat.le_of_ble_eq_true rfl) d_M_down_17 ⟨Nat.le_of_ble_eq_true rfl, Nat.le_of_ble_eq_true rfl⟩ (fun r u H locs hp hw => ?_)
      obtain ⟨rfl, rfl⟩ := hp
      exact ga_iret (u := ma_sI (ma_sI y 0 0) 0 1) hC hr hlocks hw (Or.inl ⟨h_9, rfl, ma_2s⟩) (Nat.le_of_ble_eq_true rfl) (Nat.le_of_ble_eq_true rfl) d_M_down_20

set_option maxHeartbeats 4000000 in
set_option maxRecDepth 100000 in
theorem c_M_noise (l : Launch) (k : xa_k) (a : Nat → Nat) (y : MS) (a9 b9 c9 : Int32) (d9 : Int64)  (sz : Nat) : Met l y_M_noise (Cond.code y_M_noise b_M_noise 6 none :: ga_T) ({ frames := 1, cells := 0, slots := 0, locals := 22 }) (va_Pc [.ref (a 0), .int a9, .int b9, .int c9, .long d9] (ga_pre (xa_K k) (ma_W k a y) sz)) (va_Qv (fun (u : MS) => (((a9 < 0 ∨ 1000 < a9) ∨ (b9 < 0 ∨ 1000 < b9) ∨ (c9 < 0 ∨ 1000 < c9)) ∧ u = ma_sI y 0 1) ∨ (((¬ a9 < 0 ∧ ¬ 1000 < a9) ∧ (¬ b9 < 0 ∧ ¬ 1000 < b9) ∧ (¬ c9 < 0 ∧ ¬ 1000 < c9)) ∧ u = ma_sD (ma_sI (ma_sI (ma_sI (ma_sI y 0 0) 7 a9) 8 b9) 9 c9) d9)) (ga_post (xa_K k) (ma_W k a y) sz (ma_W k a)) (va_A (ma_W k a y) sz)) 0 0 (va_A (ma_W k a y) sz) := by
  refine ga_Met (by decide) (Nat.le_of_ble_eq_true rfl) ?_
  intro p e s m below meth c hC hr hlocks _ hw ls hl
  have hx := hC.1
  have hb := hC.2.1
  have hl : lv_has ls 6 [(0, .ref (a 0)), (1, .int a9), (2, .int b9), (3, .int c9), (4, .long d9)] := hl
  refine lv_aload_n hx hb d_M_noise_0 rfl (lv_at hl 0 rfl) ?_
  refine lv_iconst (v := 0) hx hb d_M_noise_1 (by decide) ?_
  refine mp_thrown hC hw fl_M_51 d_M_noise_2 (fun H locs hw => ?_)
  refine lv_iload_n hx hb d_M_noise_5 rfl (lv_at hl 1 rfl) ?_
  refine lv_iconst (v := 0) hx hb d_M_noise_6 (by decide) ?_
  refine lv_sipush (v := 1000) hx hb d_M_noise_7 (by decide) ?_
  refine ga_Si (As := [.int a9, .int 0, .int 1000]) (rest := []) hC hw (c_M_within l k a (ma_sI y 0 0) a9 0 1000 _) m_M_within ml_M_54 rfl rfl ⟨Nat.le_of_ble_eq_true rfl, Nat.le_of_ble_eq_true rfl⟩ rfl hl.1 rfl (Nat.le_of_ble_eq_true rfl) d_M_noise_10 ⟨Nat.le_of_ble_eq_true rfl, Nat.le_of_ble_eq_true rfl⟩ (fun r u H locs hp hw => ?_)
  obtain ⟨rfl, hp⟩ := hp
  rcases hp with ⟨rfl, ⟨h_10, g_10⟩⟩ | ⟨rfl, h_10⟩
  · refine lv_if_eq (tgt := 38) hx hb d_M_noise_13 (by decide) (fun c_13 => ?_) (fun c_13 => ?_)
    · exact absurd c_13 (by decide)
    · refine lv_iload_n hx hb d_M_noise_16 rfl (lv_at hl 2 rfl) ?_
      refine lv_iconst (v := 0) hx hb d_M_noise_17 (by decide) ?_
      refine lv_sipush (v := 1000) hx hb d_M_noise_18 (by decide) ?_
      refine ga_Si (As := [.int b9, .int 0, .int 1000]) (rest := []) hC hw (c_M_within l k a (ma_sI y 0 0) b9 0 1000 _) m_M_within ml_M_54 rfl rfl ⟨Nat.le_of_ble_eq_true rfl, Nat.le_of_ble_eq_true rfl⟩ rfl hl.1 rfl (Nat.le_of_ble_eq_true rfl) d_M_noise_21 ⟨Nat.le_of_ble_eq_true rfl, Nat.le_of_ble_eq_true rfl⟩ (fun r u H locs hp hw => ?_)
      obtain ⟨rfl, hp⟩ := hp
      rcases hp with ⟨rfl, ⟨h_21, g_21⟩⟩ | ⟨rfl, h_21⟩
      · refine lv_if_eq (tgt := 38) hx hb d_M_noise_24 (by decide) (fun c_24 => ?_) (fun c_24 => ?_)
        · exact absurd c_24 (by decide)
        · refine lv_iload_n hx hb d_M_noise_27 rfl (lv_at hl 3 rfl) ?_
          refine lv_iconst (v := 0) hx hb d_M_noise_28 (by decide) ?_
          refine lv_sipush (v := 1000) hx hb d_M_noise_29 (by decide) ?_
          refine ga_Si (As := [.int c9, .int 0, .int 1000]) (rest := []) hC hw (c_M_within l k a (ma_sI y 0 0) c9 0 1000 _) m_M_within ml_M_54 rfl rfl ⟨Nat.le_of_ble_eq_true rfl, Nat.le_of_ble_eq_true rfl⟩ rfl hl.1 rfl (Nat.le_of_ble_eq_true rfl) d_M_noise_32 ⟨Nat.le_of_ble_eq_true rfl, Nat.le_of_ble_eq_true rfl⟩ (fun r u H locs hp hw => ?_)
          obtain ⟨rfl, hp⟩ := hp
          rcases hp with ⟨rfl, ⟨h_32, g_32⟩⟩ | ⟨rfl, h_32⟩
          · refine lv_if_ne (tgt := 46) hx hb d_M_noise_35 (by decide) (fun c_35 => ?_) (fun c_35 => ?_)
            · refine lv_aload_n hx hb d_M_noise_46 rfl (lv_at hl 0 rfl) ?_
              refine lv_iload_n hx hb d_M_noise_47 rfl (lv_at hl 1 rfl) ?_
              refine mp_loss hC hw fl_M_119 d_M_noise_48 (fun H locs hw => ?_)
              refine lv_aload_n hx hb d_M_noise_51 rfl (lv_at hl 0 rfl) ?_
              refine lv_iload_n hx hb d_M_noise_52 rfl (lv_at hl 2 rfl) ?_
              refine mp_twice hC hw fl_M_122 d_M_noise_53 (fun H locs hw => ?_)
              refine lv_aload_n hx hb d_M_noise_56 rfl (lv_at hl 0 rfl) ?_
              refine lv_iload_n hx hb d_M_noise_57 rfl (lv_at hl 3 rfl) ?_
              refine mp_spread hC hw fl_M_125 d_M_noise_58 (fun H locs hw => ?_)
              refine lv_aload_n hx hb d_M_noise_61 rfl (lv_at hl 0 rfl) ?_
              refine lv_lload hx hb d_M_noise_62 (lv_at hl 4 rfl) ?_
              refine mp_draw hC hw fl_M_96 d_M_noise_64 (fun H locs hw => ?_)
              exact ga_vret (u := ma_sD (ma_sI (ma_sI (ma_sI (ma_sI y 0 0) 7 a9) 8 b9) 9 c9) d9) hC hr hlocks hw (Or.inr ⟨⟨⟨h_10, g_10⟩, ⟨h_21, g_21⟩, ⟨h_32, g_32⟩⟩, rfl⟩) (Nat.le_of_ble_eq_true rfl) (Nat.le_of_ble_eq_true rfl) d_M_noise_67
            · exact absurd c_35 (by decide)
          · refine lv_if_ne (tgt := 46) hx hb d_M_noise_35 (by decide) (fun c_35 => ?_) (fun c_35 => ?_)
            · exact absurd c_35 (by decide)
            · refine lv_aload_n hx hb d_M_noise_38 rfl (lv_at hl 0 rfl) ?_
              refine lv_iconst (v := 1) hx hb d_M_noise_39 (by decide) ?_
              refine mp_thrown hC hw fl_M_51 d_M_noise_40 (fun H locs hw => ?_)
              refine lv_goto (tgt := 67) hx hb d_M_noise_43 (by decide) ?_
              exact ga_vret (u := ma_sI (ma_sI y 0 0) 0 1) hC hr hlocks hw (Or.inl ⟨Or.inr (Or.inr h_32), ma_2s⟩) (Nat.le_of_ble_eq_true rfl) (Nat.le_of_ble_eq_true rfl) d_M_noise_67
      · refine lv_if_eq (tgt := 38) hx hb d_M_noise_24 (by decide) (fun c_24 => ?_) (fun c_24 => ?_)
        · refine lv_aload_n hx hb d_M_noise_38 rfl (lv_at hl 0 rfl) ?_
          refine lv_iconst (v := 1) hx hb d_M_noise_39 (by decide) ?_
          refine mp_thrown hC hw fl_M_51 d_M_noise_40 (fun H locs hw => ?_)
          refine lv_goto (tgt := 67) hx hb d_M_noise_43 (by decide) ?_
          exact ga_vret (u := ma_sI (ma_sI y 0 0) 0 1) hC hr hlocks hw (Or.inl ⟨Or.inr (Or.inl h_21), ma_2s⟩) (Nat.le_of_ble_eq_true rfl) (Nat.le_of_ble_eq_true rfl) d_M_noise_67
        · exact absurd c_24 (by decide)
  · refine lv_if_eq (tgt := 38) hx hb d_M_noise_13 (by decide) (fun c_13 => ?_) (fun c_13 => ?_)
    · refine lv_aload_n hx hb d_M_noise_38 rfl (lv_at hl 0 rfl) ?_
      refine lv_iconst (v := 1) hx hb d_M_noise_39 (by decide) ?_
      refine mp_thrown hC hw fl_M_51 d_M_noise_40 (fun H locs hw => ?_)
      refine lv_goto (tgt := 67) hx hb d_M_noise_43 (by decide) ?_
      exact ga_vret (u := ma_sI (ma_sI y 0 0) 0 1) hC hr hlocks hw (Or.inl ⟨Or.inl h_10, ma_2s⟩) (Nat.le_of_ble_eq_true rfl) (Nat.le_of_ble_eq_true rfl) d_M_noise_67
    · exact absurd c_13 (by decide)

set_option maxHeartbeats 4000000 in
set_option maxRecDepth 100000 in
theorem c_M_happen (l : Launch) (k : xa_k) (a : Nat → Nat) (y : MS) (ev D : Nat) (hev : ev < 1700) (hD : y.1 13 = nI D) (hD2 : D < 2 ^ 31) (sz : Nat) : Met l y_M_happen (Cond.code y_M_happen b_M_happen 4 (some .int) :: ga_T) ({ frames := 1, cells := 0, slots := 0, locals := 22 }) (va_Pc [.ref (a 0), .int (nI ev)] (ga_pre (xa_K k) (ma_W k a y) sz)) (va_Qi (fun (r : Int32) (u : MS) => ma_hap y ev D r u) (ga_post (xa_K k) (ma_W k a y) sz (ma_W k a)) (va_A (ma_W k a y) sz)) 0 0 (va_A (ma_W k a y) sz) := by
  refine ga_Met (by decide) (Nat.le_of_ble_eq_true rfl) ?_
  intro p e s m below meth c hC hr hlocks _ hw ls hl
  have hx := hC.1
  have hb := hC.2.1
  have hl : lv_has ls 4 [(0, .ref (a 0)), (1, .int (nI ev))] := hl
  refine lv_aload_n hx hb d_M_happen_0 rfl (lv_at hl 0 rfl) ?_
  refine mg_there hC hw fl_M_28 d_M_happen_1 ?_
  refine lv_iload_n hx hb d_M_happen_4 rfl (lv_at hl 1 rfl) ?_
  refine lv_iconst (v := 0) hx hb d_M_happen_5 (by decide) ?_
  refine ms_there hC hw (vp_in_nI (by omega) (by decide)) d_M_happen_6 (fun H locs hw => ?_)
  refine lv_aload_n hx hb d_M_happen_7 rfl (lv_at hl 0 rfl) ?_
  refine lv_aload_n hx hb d_M_happen_8 rfl (lv_at hl 0 rfl) ?_
  refine mg_times hC hw fl_M_7 d_M_happen_9 ?_
  refine lv_iload_n hx hb d_M_happen_12 rfl (lv_at hl 1 rfl) ?_
  refine mr_times (v := (ma_A y 0) ev) hC hw (vp_in_nI (by omega) (by decide)) d_M_happen_13 (by rw [nI_clamp (by omega)] <;> rfl) ?_
  refine mp_now hC hw fl_M_83 d_M_happen_14 (fun H locs hw => ?_)
  refine lv_aload_n hx hb d_M_happen_17 rfl (lv_at hl 0 rfl) ?_
  refine mg_whose hC hw fl_M_16 d_M_happen_18 ?_
  refine lv_iload_n hx hb d_M_happen_21 rfl (lv_at hl 1 rfl) ?_
  refine mr_whose (v := (ma_A y 2) ev) hC hw (vp_in_nI (by omega) (by decide)) d_M_happen_22 (by rw [nI_clamp (by omega)] <;> rfl) ?_
  refine lv_aload_n hx hb d_M_happen_23 rfl (lv_at hl 0 rfl) ?_
  refine mg_sorts hC hw fl_M_13 d_M_happen_24 ?_
  refine lv_iload_n hx hb d_M_happen_27 rfl (lv_at hl 1 rfl) ?_
  refine mr_sorts (v := (ma_A y 1) ev) hC hw (vp_in_nI (by omega) (by decide)) d_M_happen_28 (by rw [nI_clamp (by omega)] <;> rfl) ?_
  refine lv_iconst (v := 1) hx hb d_M_happen_29 (by decide) ?_
  refine lv_icmp_ne (tgt := 38) hx hb d_M_happen_30 (by decide) (fun c_30 => ?_) (fun c_30 => ?_)
  · refine lv_aload_n hx hb d_M_happen_38 rfl (lv_at hl 0 rfl) ?_
    refine mg_sorts hC hw fl_M_13 d_M_happen_39 ?_
    refine lv_iload_n hx hb d_M_happen_42 rfl (lv_at hl 1 rfl) ?_
    refine mr_sorts (v := (ma_A y 1) ev) hC hw (vp_in_nI (by omega) (by decide)) d_M_happen_43 (by rw [nI_clamp (by omega)] <;> rfl) ?_
    refine lv_iconst (v := 2) hx hb d_M_happen_44 (by decide) ?_
    refine lv_icmp_ne (tgt := 53) hx hb d_M_happen_45 (by decide) (fun c_45 => ?_) (fun c_45 => ?_)
    · refine lv_iconst (v := 0) hx hb d_M_happen_53 (by decide) ?_
      refine lv_iadd hx hb d_M_happen_54 ?_
      refine lv_istore_n (lv' := [(2, .int (((ma_A y 2) ev) + 0)), (0, .ref (a 0)), (1, .int (nI ev))]) hx hb d_M_happen_55 rfl hl (by decide) rfl (fun ls hl => ?_)
      refine lv_aload_n hx hb d_M_happen_56 rfl (lv_at hl 1 rfl) ?_
      refine mg_sorts hC hw fl_M_13 d_M_happen_57 ?_
      refine lv_iload_n hx hb d_M_happen_60 rfl (lv_at hl 2 rfl) ?_
      refine mr_sorts (v := (ma_A y 1) ev) hC hw (vp_in_nI (by omega) (by decide)) d_M_happen_61 (by rw [nI_clamp (by omega)] <;> rfl) ?_
      refine lv_if_ne (tgt := 164) hx hb d_M_happen_62 (by decide) (fun c_62 => ?_) (fun c_62 => ?_)
      · refine lv_aload_n hx hb d_M_happen_164 rfl (lv_at hl 1 rfl) ?_
        refine mg_codes hC hw fl_M_41 d_M_happen_165 ?_
        refine lv_aload_n hx hb d_M_happen_168 rfl (lv_at hl 1 rfl) ?_
        refine mg_done (v := y.1 13) hC hw fl_M_145 d_M_happen_169 rfl ?_
        refine ga_asi (v := nI D) (hD) ?_
        refine lv_bipush (v := 32) hx hb d_M_happen_172 (by decide) ?_
        refine lv_irem hx hb d_M_happen_174 (by decide) ?_
        refine ga_asi (v := nI (D % 32)) (ma_rem32 hD2) ?_
        refine lv_iload_n hx hb d_M_happen_175 rfl (lv_at hl 0 rfl) ?_
        refine ms_codes hC hw (vp_in_nI (by omega) (by decide)) d_M_happen_176 (fun H locs hw => ?_)
        refine lv_aload_n hx hb d_M_happen_177 rfl (lv_at hl 1 rfl) ?_
        refine mg_order hC hw fl_M_44 d_M_happen_178 ?_
        refine lv_aload_n hx hb d_M_happen_181 rfl (lv_at hl 1 rfl) ?_
        refine mg_done (v := y.1 13) hC hw fl_M_145 d_M_happen_182 rfl ?_
        refine ga_asi (v := nI D) (hD) ?_
        refine lv_bipush (v := 32) hx hb d_M_happen_185 (by decide) ?_
        refine lv_irem hx hb d_M_happen_187 (by decide) ?_
        refine ga_asi (v := nI (D % 32)) (ma_rem32 hD2) ?_
        refine lv_iload_n hx hb d_M_happen_188 rfl (lv_at hl 2 rfl) ?_
        refine ms_order hC hw (vp_in_nI (by omega) (by decide)) d_M_happen_189 (fun H locs hw => ?_)
        refine lv_aload_n hx hb d_M_happen_190 rfl (lv_at hl 1 rfl) ?_
        refine lv_dup hx hb d_M_happen_191 rfl ?_
        refine mg_done (v := y.1 13) hC hw fl_M_145 d_M_happen_192 rfl ?_
        refine ga_asi (v := nI D) (hD) ?_
        refine lv_iconst (v := 1) hx hb d_M_happen_195 (by decide) ?_
        refine lv_iadd hx hb d_M_happen_196 ?_
        refine ga_asi (v := nI (D + 1)) (nI_1 D) ?_
        refine mp_done hC hw fl_M_145 d_M_happen_197 (fun H locs hw => ?_)
        refine lv_iload_n hx hb d_M_happen_200 rfl (lv_at hl 0 rfl) ?_
        exact ga_iret (u := ma_sI (ma_sA (ma_sA (ma_sI (ma_sA y 6 (upd (ma_A y 6) (nI ev).toNatClampNeg (vp_nar .boolean 0))) 1 ((ma_A y 0) ev)) 10 (upd (ma_A y 10) (nI (D % 32)).toNatClampNeg (((ma_A y 2) ev) + 0))) 11 (upd (ma_A y 11) (nI (D % 32)).toNatClampNeg (nI ev))) 13 (nI (D + 1))) hC hr hlocks hw (Or.inl ⟨c_62, by unfold ma_kd; rw [if_neg c_30, if_neg c_45], by unfold ma_rec ma_off; rw [nI_clamp (n := ev) (by omega), nI_clamp (n := D % 32) (by omega)] <;> rfl⟩) (Nat.le_of_ble_eq_true rfl) (Nat.le_of_ble_eq_true rfl) d_M_happen_201
      · refine lv_aload_n hx hb d_M_happen_65 rfl (lv_at hl 1 rfl) ?_
        refine lv_dup hx hb d_M_happen_66 rfl ?_
        refine mg_onTheWay (v := y.1 10) hC hw fl_M_107 d_M_happen_67 rfl ?_
        refine lv_iconst (v := 1) hx hb d_M_happen_70 (by decide) ?_
        refine lv_isub hx hb d_M_happen_71 ?_
        refine mp_onTheWay hC hw fl_M_107 d_M_happen_72 (fun H locs hw => ?_)
        refine lv_aload_n hx hb d_M_happen_75 rfl (lv_at hl 1 rfl) ?_
        refine lv_aload_n hx hb d_M_happen_76 rfl (lv_at hl 1 rfl) ?_
        refine mg_froms hC hw fl_M_19 d_M_happen_77 ?_
        refine lv_iload_n hx hb d_M_happen_80 rfl (lv_at hl 2 rfl) ?_
        refine mr_froms (v := (ma_A y 3) ev) hC hw (vp_in_nI (by omega) (by decide)) d_M_happen_81 (by rw [nI_clamp (by omega)] <;> rfl) ?_
        refine lv_aload_n hx hb d_M_happen_82 rfl (lv_at hl 1 rfl) ?_
        refine mg_whose hC hw fl_M_16 d_M_happen_83 ?_
        refine lv_iload_n hx hb d_M_happen_86 rfl (lv_at hl 2 rfl) ?_
        refine mr_whose (v := (ma_A y 2) ev) hC hw (vp_in_nI (by omega) (by decide)) d_M_happen_87 (by rw [nI_clamp (by omega)] <;> rfl) ?_
        refine ga_Vi (As := [.int ((ma_A y 3) ev), .int ((ma_A y 2) ev)]) (rest := []) hC hw (c_M_areParted l k a (ma_sI (ma_sI (ma_sA y 6 (upd (ma_A y 6) (nI ev).toNatClampNeg (vp_nar .boolean 0))) 1 ((ma_A y 0) ev)) 10 ((y.1 10) - 1)) ((ma_A y 3) ev) ((ma_A y 2) ev) _) m_M_areParted ml_M_128 (ga_recv hw (q0 := 0) rfl rfl) rfl rfl ⟨Nat.le_of_ble_eq_true rfl, Nat.le_of_ble_eq_true rfl⟩ rfl hl.1 rfl (Nat.le_of_ble_eq_true rfl) d_M_happen_88 ⟨Nat.le_of_ble_eq_true rfl, Nat.le_of_ble_eq_true rfl⟩ (fun r u H locs hp hw => ?_)
        obtain ⟨rfl, hp⟩ := hp
        rcases hp with ⟨rfl, h_88⟩ | ⟨rfl, h_88⟩
        · refine lv_if_ne (tgt := 111) hx hb d_M_happen_91 (by decide) (fun c_91 => ?_) (fun c_91 => ?_)
          · refine lv_iconst (v := 1) hx hb d_M_happen_111 (by decide) ?_
            refine lv_goto (tgt := 116) hx hb d_M_happen_112 (by decide) ?_
            refine lv_istore_n (lv' := [(3, .int 1), (2, .int (((ma_A y 2) ev) + 0)), (0, .ref (a 0)), (1, .int (nI ev))]) hx hb d_M_happen_116 rfl hl (by decide) rfl (fun ls hl => ?_)
            refine lv_aload_n hx hb d_M_happen_117 rfl (lv_at hl 2 rfl) ?_
            refine lv_dup hx hb d_M_happen_118 rfl ?_
            refine mg_lost (v := y.1 12) hC hw fl_M_110 d_M_happen_119 rfl ?_
            refine lv_iload_n hx hb d_M_happen_122 rfl (lv_at hl 0 rfl) ?_
            refine lv_if_eq (tgt := 130) hx hb d_M_happen_123 (by decide) (fun c_123 => ?_) (fun c_123 => ?_)
            · exact absurd c_123 (by decide)
            · refine lv_iconst (v := 1) hx hb d_M_happen_126 (by decide) ?_
              refine lv_goto (tgt := 131) hx hb d_M_happen_127 (by decide) ?_
              refine lv_iadd hx hb d_M_happen_131 ?_
              refine mp_lost hC hw fl_M_110 d_M_happen_132 (fun H locs hw => ?_)
              refine lv_iload_n hx hb d_M_happen_135 rfl (lv_at hl 1 rfl) ?_
              refine lv_iload_n hx hb d_M_happen_136 rfl (lv_at hl 0 rfl) ?_
              refine lv_if_eq (tgt := 145) hx hb d_M_happen_137 (by decide) (fun c_137 => ?_) (fun c_137 => ?_)
              · exact absurd c_137 (by decide)
              · refine lv_bipush (v := 16) hx hb d_M_happen_140 (by decide) ?_
                refine lv_goto (tgt := 146) hx hb d_M_happen_142 (by decide) ?_
                refine lv_iadd hx hb d_M_happen_146 ?_
                refine lv_istore_n (lv' := [(2, .int ((((ma_A y 2) ev) + 0) + 16)), (3, .int 1), (0, .ref (a 0)), (1, .int (nI ev))]) hx hb d_M_happen_147 rfl hl (by decide) rfl (fun ls hl => ?_)
                refine lv_aload_n hx hb d_M_happen_148 rfl (lv_at hl 2 rfl) ?_
                refine lv_iload_n hx hb d_M_happen_149 rfl (lv_at hl 1 rfl) ?_
                refine lv_if_eq (tgt := 160) hx hb d_M_happen_150 (by decide) (fun c_150 => ?_) (fun c_150 => ?_)
                · exact absurd c_150 (by decide)
                · refine lv_aload_n hx hb d_M_happen_153 rfl (lv_at hl 2 rfl) ?_
                  refine mg_arrived (v := y.1 14) hC hw fl_M_47 d_M_happen_154 rfl ?_
                  refine lv_goto (tgt := 161) hx hb d_M_happen_157 (by decide) ?_
                  refine mp_arrived hC hw fl_M_47 d_M_happen_161 (fun H locs hw => ?_)
                  refine lv_aload_n hx hb d_M_happen_164 rfl (lv_at hl 2 rfl) ?_
                  refine mg_codes hC hw fl_M_41 d_M_happen_165 ?_
                  refine lv_aload_n hx hb d_M_happen_168 rfl (lv_at hl 2 rfl) ?_
                  refine mg_done (v := y.1 13) hC hw fl_M_145 d_M_happen_169 rfl ?_
                  refine ga_asi (v := nI D) (hD) ?_
                  refine lv_bipush (v := 32) hx hb d_M_happen_172 (by decide) ?_
                  refine lv_irem hx hb d_M_happen_174 (by decide) ?_
                  refine ga_asi (v := nI (D % 32)) (ma_rem32 hD2) ?_
                  refine lv_iload_n hx hb d_M_happen_175 rfl (lv_at hl 0 rfl) ?_
                  refine ms_codes hC hw (vp_in_nI (by omega) (by decide)) d_M_happen_176 (fun H locs hw => ?_)
                  refine lv_aload_n hx hb d_M_happen_177 rfl (lv_at hl 2 rfl) ?_
                  refine mg_order hC hw fl_M_44 d_M_happen_178 ?_
                  refine lv_aload_n hx hb d_M_happen_181 rfl (lv_at hl 2 rfl) ?_
                  refine mg_done (v := y.1 13) hC hw fl_M_145 d_M_happen_182 rfl ?_
                  refine ga_asi (v := nI D) (hD) ?_
                  refine lv_bipush (v := 32) hx hb d_M_happen_185 (by decide) ?_
                  refine lv_irem hx hb d_M_happen_187 (by decide) ?_
                  refine ga_asi (v := nI (D % 32)) (ma_rem32 hD2) ?_
                  refine lv_iload_n hx hb d_M_happen_188 rfl (lv_at hl 3 rfl) ?_
                  refine ms_order hC hw (vp_in_nI (by omega) (by decide)) d_M_happen_189 (fun H locs hw => ?_)
                  refine lv_aload_n hx hb d_M_happen_190 rfl (lv_at hl 2 rfl) ?_
                  refine lv_dup hx hb d_M_happen_191 rfl ?_
                  refine mg_done (v := y.1 13) hC hw fl_M_145 d_M_happen_192 rfl ?_
                  refine ga_asi (v := nI D) (hD) ?_
                  refine lv_iconst (v := 1) hx hb d_M_happen_195 (by decide) ?_
                  refine lv_iadd hx hb d_M_happen_196 ?_
                  refine ga_asi (v := nI (D + 1)) (nI_1 D) ?_
                  refine mp_done hC hw fl_M_145 d_M_happen_197 (fun H locs hw => ?_)
                  refine lv_iload_n hx hb d_M_happen_200 rfl (lv_at hl 0 rfl) ?_
                  exact ga_iret (u := ma_sI (ma_sA (ma_sA (ma_sI (ma_sI (ma_sI (ma_sI (ma_sA y 6 (upd (ma_A y 6) (nI ev).toNatClampNeg (vp_nar .boolean 0))) 1 ((ma_A y 0) ev)) 10 ((y.1 10) - 1)) 12 ((y.1 12) + 1)) 14 (y.1 14)) 10 (upd (ma_A y 10) (nI (D % 32)).toNatClampNeg ((((ma_A y 2) ev) + 0) + 16))) 11 (upd (ma_A y 11) (nI (D % 32)).toNatClampNeg (nI ev))) 13 (nI (D + 1))) hC hr hlocks hw (Or.inr (Or.inl ⟨c_62, Or.inl h_88, rfl, by unfold ma_rec ma_off; rw [nI_clamp (n := ev) (by omega), nI_clamp (n := D % 32) (by omega)] <;> rfl⟩)) (Nat.le_of_ble_eq_true rfl) (Nat.le_of_ble_eq_true rfl) d_M_happen_201
          · exact absurd c_91 (by decide)
        · refine lv_if_ne (tgt := 111) hx hb d_M_happen_91 (by decide) (fun c_91 => ?_) (fun c_91 => ?_)
          · exact absurd c_91 (by decide)
          · refine lv_aload_n hx hb d_M_happen_94 rfl (lv_at hl 1 rfl) ?_
            refine mg_down (v := y.1 6) hC hw fl_M_142 d_M_happen_95 rfl ?_
            refine lv_aload_n hx hb d_M_happen_98 rfl (lv_at hl 1 rfl) ?_
            refine mg_whose hC hw fl_M_16 d_M_happen_99 ?_
            refine lv_iload_n hx hb d_M_happen_102 rfl (lv_at hl 2 rfl) ?_
            refine mr_whose (v := (ma_A y 2) ev) hC hw (vp_in_nI (by omega) (by decide)) d_M_happen_103 (by rw [nI_clamp (by omega)] <;> rfl) ?_
            refine lv_ishr hx hb d_M_happen_104 ?_
            refine lv_iconst (v := 1) hx hb d_M_happen_105 (by decide) ?_
            refine lv_iand hx hb d_M_happen_106 ?_
            refine lv_iconst (v := 1) hx hb d_M_happen_107 (by decide) ?_
            refine lv_icmp_ne (tgt := 115) hx hb d_M_happen_108 (by decide) (fun c_108 => ?_) (fun c_108 => ?_)
            · refine lv_iconst (v := 0) hx hb d_M_happen_115 (by decide) ?_
              refine lv_istore_n (lv' := [(3, .int 0), (2, .int (((ma_A y 2) ev) + 0)), (0, .ref (a 0)), (1, .int (nI ev))]) hx hb d_M_happen_116 rfl hl (by decide) rfl (fun ls hl => ?_)
              refine lv_aload_n hx hb d_M_happen_117 rfl (lv_at hl 2 rfl) ?_
              refine lv_dup hx hb d_M_happen_118 rfl ?_
              refine mg_lost (v := y.1 12) hC hw fl_M_110 d_M_happen_119 rfl ?_
              refine lv_iload_n hx hb d_M_happen_122 rfl (lv_at hl 0 rfl) ?_
              refine lv_if_eq (tgt := 130) hx hb d_M_happen_123 (by decide) (fun c_123 => ?_) (fun c_123 => ?_)
              · refine lv_iconst (v := 0) hx hb d_M_happen_130 (by decide) ?_
                refine lv_iadd hx hb d_M_happen_131 ?_
                refine mp_lost hC hw fl_M_110 d_M_happen_132 (fun H locs hw => ?_)
                refine lv_iload_n hx hb d_M_happen_135 rfl (lv_at hl 1 rfl) ?_
                refine lv_iload_n hx hb d_M_happen_136 rfl (lv_at hl 0 rfl) ?_
                refine lv_if_eq (tgt := 145) hx hb d_M_happen_137 (by decide) (fun c_137 => ?_) (fun c_137 => ?_)
                · refine lv_iconst (v := 0) hx hb d_M_happen_145 (by decide) ?_
                  refine lv_iadd hx hb d_M_happen_146 ?_
                  refine lv_istore_n (lv' := [(2, .int ((((ma_A y 2) ev) + 0) + 0)), (3, .int 0), (0, .ref (a 0)), (1, .int (nI ev))]) hx hb d_M_happen_147 rfl hl (by decide) rfl (fun ls hl => ?_)
                  refine lv_aload_n hx hb d_M_happen_148 rfl (lv_at hl 2 rfl) ?_
                  refine lv_iload_n hx hb d_M_happen_149 rfl (lv_at hl 1 rfl) ?_
                  refine lv_if_eq (tgt := 160) hx hb d_M_happen_150 (by decide) (fun c_150 => ?_) (fun c_150 => ?_)
                  · refine lv_iload_n hx hb d_M_happen_160 rfl (lv_at hl 3 rfl) ?_
                    refine mp_arrived hC hw fl_M_47 d_M_happen_161 (fun H locs hw => ?_)
                    refine lv_aload_n hx hb d_M_happen_164 rfl (lv_at hl 2 rfl) ?_
                    refine mg_codes hC hw fl_M_41 d_M_happen_165 ?_
                    refine lv_aload_n hx hb d_M_happen_168 rfl (lv_at hl 2 rfl) ?_
                    refine mg_done (v := y.1 13) hC hw fl_M_145 d_M_happen_169 rfl ?_
                    refine ga_asi (v := nI D) (hD) ?_
                    refine lv_bipush (v := 32) hx hb d_M_happen_172 (by decide) ?_
                    refine lv_irem hx hb d_M_happen_174 (by decide) ?_
                    refine ga_asi (v := nI (D % 32)) (ma_rem32 hD2) ?_
                    refine lv_iload_n hx hb d_M_happen_175 rfl (lv_at hl 0 rfl) ?_
                    refine ms_codes hC hw (vp_in_nI (by omega) (by decide)) d_M_happen_176 (fun H locs hw => ?_)
                    refine lv_aload_n hx hb d_M_happen_177 rfl (lv_at hl 2 rfl) ?_
                    refine mg_order hC hw fl_M_44 d_M_happen_178 ?_
                    refine lv_aload_n hx hb d_M_happen_181 rfl (lv_at hl 2 rfl) ?_
                    refine mg_done (v := y.1 13) hC hw fl_M_145 d_M_happen_182 rfl ?_
                    refine ga_asi (v := nI D) (hD) ?_
                    refine lv_bipush (v := 32) hx hb d_M_happen_185 (by decide) ?_
                    refine lv_irem hx hb d_M_happen_187 (by decide) ?_
                    refine ga_asi (v := nI (D % 32)) (ma_rem32 hD2) ?_
                    refine lv_iload_n hx hb d_M_happen_188 rfl (lv_at hl 3 rfl) ?_
                    refine ms_order hC hw (vp_in_nI (by omega) (by decide)) d_M_happen_189 (fun H locs hw => ?_)
                    refine lv_aload_n hx hb d_M_happen_190 rfl (lv_at hl 2 rfl) ?_
                    refine lv_dup hx hb d_M_happen_191 rfl ?_
                    refine mg_done (v := y.1 13) hC hw fl_M_145 d_M_happen_192 rfl ?_
                    refine ga_asi (v := nI D) (hD) ?_
                    refine lv_iconst (v := 1) hx hb d_M_happen_195 (by decide) ?_
                    refine lv_iadd hx hb d_M_happen_196 ?_
                    refine ga_asi (v := nI (D + 1)) (nI_1 D) ?_
                    refine mp_done hC hw fl_M_145 d_M_happen_197 (fun H locs hw => ?_)
                    refine lv_iload_n hx hb d_M_happen_200 rfl (lv_at hl 0 rfl) ?_
                    exact ga_iret (u := ma_sI (ma_sA (ma_sA (ma_sI (ma_sI (ma_sI (ma_sI (ma_sA y 6 (upd (ma_A y 6) (nI ev).toNatClampNeg (vp_nar .boolean 0))) 1 ((ma_A y 0) ev)) 10 ((y.1 10) - 1)) 12 ((y.1 12) + 0)) 14 (nI ev)) 10 (upd (ma_A y 10) (nI (D % 32)).toNatClampNeg ((((ma_A y 2) ev) + 0) + 0))) 11 (upd (ma_A y 11) (nI (D % 32)).toNatClampNeg (nI ev))) 13 (nI (D + 1))) hC hr hlocks hw (Or.inr (Or.inr ⟨c_62, fun h => h.elim (fun h => h h_88) c_108, rfl, by unfold ma_rec ma_off; rw [nI_clamp (n := ev) (by omega), nI_clamp (n := D % 32) (by omega)] <;> rfl⟩)) (Nat.le_of_ble_eq_true rfl) (Nat.le_of_ble_eq_true rfl) d_M_happen_201
                  · exact absurd c_150 (by decide)
                · exact absurd c_137 (by decide)
              · exact absurd c_123 (by decide)
            · refine lv_iconst (v := 1) hx hb d_M_happen_111 (by decide) ?_
              refine lv_goto (tgt := 116) hx hb d_M_happen_112 (by decide) ?_
              refine lv_istore_n (lv' := [(3, .int 1), (2, .int (((ma_A y 2) ev) + 0)), (0, .ref (a 0)), (1, .int (nI ev))]) hx hb d_M_happen_116 rfl hl (by decide) rfl (fun ls hl => ?_)
              refine lv_aload_n hx hb d_M_happen_117 rfl (lv_at hl 2 rfl) ?_
              refine lv_dup hx hb d_M_happen_118 rfl ?_
              refine mg_lost (v := y.1 12) hC hw fl_M_110 d_M_happen_119 rfl ?_
              refine lv_iload_n hx hb d_M_happen_122 rfl (lv_at hl 0 rfl) ?_
              refine lv_if_eq (tgt := 130) hx hb d_M_happen_123 (by decide) (fun c_123 => ?_) (fun c_123 => ?_)
              · exact absurd c_123 (by decide)
              · refine lv_iconst (v := 1) hx hb d_M_happen_126 (by decide) ?_
                refine lv_goto (tgt := 131) hx hb d_M_happen_127 (by decide) ?_
                refine lv_iadd hx hb d_M_happen_131 ?_
                refine mp_lost hC hw fl_M_110 d_M_happen_132 (fun H locs hw => ?_)
                refine lv_iload_n hx hb d_M_happen_135 rfl (lv_at hl 1 rfl) ?_
                refine lv_iload_n hx hb d_M_happen_136 rfl (lv_at hl 0 rfl) ?_
                refine lv_if_eq (tgt := 145) hx hb d_M_happen_137 (by decide) (fun c_137 => ?_) (fun c_137 => ?_)
                · exact absurd c_137 (by decide)
                · refine lv_bipush (v := 16) hx hb d_M_happen_140 (by decide) ?_
                  refine lv_goto (tgt := 146) hx hb d_M_happen_142 (by decide) ?_
                  refine lv_iadd hx hb d_M_happen_146 ?_
                  refine lv_istore_n (lv' := [(2, .int ((((ma_A y 2) ev) + 0) + 16)), (3, .int 1), (0, .ref (a 0)), (1, .int (nI ev))]) hx hb d_M_happen_147 rfl hl (by decide) rfl (fun ls hl => ?_)
                  refine lv_aload_n hx hb d_M_happen_148 rfl (lv_at hl 2 rfl) ?_
                  refine lv_iload_n hx hb d_M_happen_149 rfl (lv_at hl 1 rfl) ?_
                  refine lv_if_eq (tgt := 160) hx hb d_M_happen_150 (by decide) (fun c_150 => ?_) (fun c_150 => ?_)
                  · exact absurd c_150 (by decide)
                  · refine lv_aload_n hx hb d_M_happen_153 rfl (lv_at hl 2 rfl) ?_
                    refine mg_arrived (v := y.1 14) hC hw fl_M_47 d_M_happen_154 rfl ?_
                    refine lv_goto (tgt := 161) hx hb d_M_happen_157 (by decide) ?_
                    refine mp_arrived hC hw fl_M_47 d_M_happen_161 (fun H locs hw => ?_)
                    refine lv_aload_n hx hb d_M_happen_164 rfl (lv_at hl 2 rfl) ?_
                    refine mg_codes hC hw fl_M_41 d_M_happen_165 ?_
                    refine lv_aload_n hx hb d_M_happen_168 rfl (lv_at hl 2 rfl) ?_
                    refine mg_done (v := y.1 13) hC hw fl_M_145 d_M_happen_169 rfl ?_
                    refine ga_asi (v := nI D) (hD) ?_
                    refine lv_bipush (v := 32) hx hb d_M_happen_172 (by decide) ?_
                    refine lv_irem hx hb d_M_happen_174 (by decide) ?_
                    refine ga_asi (v := nI (D % 32)) (ma_rem32 hD2) ?_
                    refine lv_iload_n hx hb d_M_happen_175 rfl (lv_at hl 0 rfl) ?_
                    refine ms_codes hC hw (vp_in_nI (by omega) (by decide)) d_M_happen_176 (fun H locs hw => ?_)
                    refine lv_aload_n hx hb d_M_happen_177 rfl (lv_at hl 2 rfl) ?_
                    refine mg_order hC hw fl_M_44 d_M_happen_178 ?_
                    refine lv_aload_n hx hb d_M_happen_181 rfl (lv_at hl 2 rfl) ?_
                    refine mg_done (v := y.1 13) hC hw fl_M_145 d_M_happen_182 rfl ?_
                    refine ga_asi (v := nI D) (hD) ?_
                    refine lv_bipush (v := 32) hx hb d_M_happen_185 (by decide) ?_
                    refine lv_irem hx hb d_M_happen_187 (by decide) ?_
                    refine ga_asi (v := nI (D % 32)) (ma_rem32 hD2) ?_
                    refine lv_iload_n hx hb d_M_happen_188 rfl (lv_at hl 3 rfl) ?_
                    refine ms_order hC hw (vp_in_nI (by omega) (by decide)) d_M_happen_189 (fun H locs hw => ?_)
                    refine lv_aload_n hx hb d_M_happen_190 rfl (lv_at hl 2 rfl) ?_
                    refine lv_dup hx hb d_M_happen_191 rfl ?_
                    refine mg_done (v := y.1 13) hC hw fl_M_145 d_M_happen_192 rfl ?_
                    refine ga_asi (v := nI D) (hD) ?_
                    refine lv_iconst (v := 1) hx hb d_M_happen_195 (by decide) ?_
                    refine lv_iadd hx hb d_M_happen_196 ?_
                    refine ga_asi (v := nI (D + 1)) (nI_1 D) ?_
                    refine mp_done hC hw fl_M_145 d_M_happen_197 (fun H locs hw => ?_)
                    refine lv_iload_n hx hb d_M_happen_200 rfl (lv_at hl 0 rfl) ?_
                    exact ga_iret (u := ma_sI (ma_sA (ma_sA (ma_sI (ma_sI (ma_sI (ma_sI (ma_sA y 6 (upd (ma_A y 6) (nI ev).toNatClampNeg (vp_nar .boolean 0))) 1 ((ma_A y 0) ev)) 10 ((y.1 10) - 1)) 12 ((y.1 12) + 1)) 14 (y.1 14)) 10 (upd (ma_A y 10) (nI (D % 32)).toNatClampNeg ((((ma_A y 2) ev) + 0) + 16))) 11 (upd (ma_A y 11) (nI (D % 32)).toNatClampNeg (nI ev))) 13 (nI (D + 1))) hC hr hlocks hw (Or.inr (Or.inl ⟨c_62, Or.inr c_108, rfl, by unfold ma_rec ma_off; rw [nI_clamp (n := ev) (by omega), nI_clamp (n := D % 32) (by omega)] <;> rfl⟩)) (Nat.le_of_ble_eq_true rfl) (Nat.le_of_ble_eq_true rfl) d_M_happen_201
    · refine lv_bipush (v := 48) hx hb d_M_happen_48 (by decide) ?_
      refine lv_goto (tgt := 54) hx hb d_M_happen_50 (by decide) ?_
      refine lv_iadd hx hb d_M_happen_54 ?_
      refine lv_istore_n (lv' := [(2, .int (((ma_A y 2) ev) + 48)), (0, .ref (a 0)), (1, .int (nI ev))]) hx hb d_M_happen_55 rfl hl (by decide) rfl (fun ls hl => ?_)
      refine lv_aload_n hx hb d_M_happen_56 rfl (lv_at hl 1 rfl) ?_
      refine mg_sorts hC hw fl_M_13 d_M_happen_57 ?_
      refine lv_iload_n hx hb d_M_happen_60 rfl (lv_at hl 2 rfl) ?_
      refine mr_sorts (v := (ma_A y 1) ev) hC hw (vp_in_nI (by omega) (by decide)) d_M_happen_61 (by rw [nI_clamp (by omega)] <;> rfl) ?_
      refine lv_if_ne (tgt := 164) hx hb d_M_happen_62 (by decide) (fun c_62 => ?_) (fun c_62 => ?_)
      · refine lv_aload_n hx hb d_M_happen_164 rfl (lv_at hl 1 rfl) ?_
        refine mg_codes hC hw fl_M_41 d_M_happen_165 ?_
        refine lv_aload_n hx hb d_M_happen_168 rfl (lv_at hl 1 rfl) ?_
        refine mg_done (v := y.1 13) hC hw fl_M_145 d_M_happen_169 rfl ?_
        refine ga_asi (v := nI D) (hD) ?_
        refine lv_bipush (v := 32) hx hb d_M_happen_172 (by decide) ?_
        refine lv_irem hx hb d_M_happen_174 (by decide) ?_
        refine ga_asi (v := nI (D % 32)) (ma_rem32 hD2) ?_
        refine lv_iload_n hx hb d_M_happen_175 rfl (lv_at hl 0 rfl) ?_
        refine ms_codes hC hw (vp_in_nI (by omega) (by decide)) d_M_happen_176 (fun H locs hw => ?_)
        refine lv_aload_n hx hb d_M_happen_177 rfl (lv_at hl 1 rfl) ?_
        refine mg_order hC hw fl_M_44 d_M_happen_178 ?_
        refine lv_aload_n hx hb d_M_happen_181 rfl (lv_at hl 1 rfl) ?_
        refine mg_done (v := y.1 13) hC hw fl_M_145 d_M_happen_182 rfl ?_
        refine ga_asi (v := nI D) (hD) ?_
        refine lv_bipush (v := 32) hx hb d_M_happen_185 (by decide) ?_
        refine lv_irem hx hb d_M_happen_187 (by decide) ?_
        refine ga_asi (v := nI (D % 32)) (ma_rem32 hD2) ?_
        refine lv_iload_n hx hb d_M_happen_188 rfl (lv_at hl 2 rfl) ?_
        refine ms_order hC hw (vp_in_nI (by omega) (by decide)) d_M_happen_189 (fun H locs hw => ?_)
        refine lv_aload_n hx hb d_M_happen_190 rfl (lv_at hl 1 rfl) ?_
        refine lv_dup hx hb d_M_happen_191 rfl ?_
        refine mg_done (v := y.1 13) hC hw fl_M_145 d_M_happen_192 rfl ?_
        refine ga_asi (v := nI D) (hD) ?_
        refine lv_iconst (v := 1) hx hb d_M_happen_195 (by decide) ?_
        refine lv_iadd hx hb d_M_happen_196 ?_
        refine ga_asi (v := nI (D + 1)) (nI_1 D) ?_
        refine mp_done hC hw fl_M_145 d_M_happen_197 (fun H locs hw => ?_)
        refine lv_iload_n hx hb d_M_happen_200 rfl (lv_at hl 0 rfl) ?_
        exact ga_iret (u := ma_sI (ma_sA (ma_sA (ma_sI (ma_sA y 6 (upd (ma_A y 6) (nI ev).toNatClampNeg (vp_nar .boolean 0))) 1 ((ma_A y 0) ev)) 10 (upd (ma_A y 10) (nI (D % 32)).toNatClampNeg (((ma_A y 2) ev) + 48))) 11 (upd (ma_A y 11) (nI (D % 32)).toNatClampNeg (nI ev))) 13 (nI (D + 1))) hC hr hlocks hw (Or.inl ⟨c_62, by unfold ma_kd; rw [if_neg c_30, if_pos c_45], by unfold ma_rec ma_off; rw [nI_clamp (n := ev) (by omega), nI_clamp (n := D % 32) (by omega)] <;> rfl⟩) (Nat.le_of_ble_eq_true rfl) (Nat.le_of_ble_eq_true rfl) d_M_happen_201
      · exact absurd (c_45.symm.trans c_62) (by decide)
  · refine lv_bipush (v := 32) hx hb d_M_happen_33 (by decide) ?_
    refine lv_goto (tgt := 54) hx hb d_M_happen_35 (by decide) ?_
    refine lv_iadd hx hb d_M_happen_54 ?_
    refine lv_istore_n (lv' := [(2, .int (((ma_A y 2) ev) + 32)), (0, .ref (a 0)), (1, .int (nI ev))]) hx hb d_M_happen_55 rfl hl (by decide) rfl (fun ls hl => ?_)
    refine lv_aload_n hx hb d_M_happen_56 rfl (lv_at hl 1 rfl) ?_
    refine mg_sorts hC hw fl_M_13 d_M_happen_57 ?_
    refine lv_iload_n hx hb d_M_happen_60 rfl (lv_at hl 2 rfl) ?_
    refine mr_sorts (v := (ma_A y 1) ev) hC hw (vp_in_nI (by omega) (by decide)) d_M_happen_61 (by rw [nI_clamp (by omega)] <;> rfl) ?_
    refine lv_if_ne (tgt := 164) hx hb d_M_happen_62 (by decide) (fun c_62 => ?_) (fun c_62 => ?_)
    · refine lv_aload_n hx hb d_M_happen_164 rfl (lv_at hl 1 rfl) ?_
      refine mg_codes hC hw fl_M_41 d_M_happen_165 ?_
      refine lv_aload_n hx hb d_M_happen_168 rfl (lv_at hl 1 rfl) ?_
      refine mg_done (v := y.1 13) hC hw fl_M_145 d_M_happen_169 rfl ?_
      refine ga_asi (v := nI D) (hD) ?_
      refine lv_bipush (v := 32) hx hb d_M_happen_172 (by decide) ?_
      refine lv_irem hx hb d_M_happen_174 (by decide) ?_
      refine ga_asi (v := nI (D % 32)) (ma_rem32 hD2) ?_
      refine lv_iload_n hx hb d_M_happen_175 rfl (lv_at hl 0 rfl) ?_
      refine ms_codes hC hw (vp_in_nI (by omega) (by decide)) d_M_happen_176 (fun H locs hw => ?_)
      refine lv_aload_n hx hb d_M_happen_177 rfl (lv_at hl 1 rfl) ?_
      refine mg_order hC hw fl_M_44 d_M_happen_178 ?_
      refine lv_aload_n hx hb d_M_happen_181 rfl (lv_at hl 1 rfl) ?_
      refine mg_done (v := y.1 13) hC hw fl_M_145 d_M_happen_182 rfl ?_
      refine ga_asi (v := nI D) (hD) ?_
      refine lv_bipush (v := 32) hx hb d_M_happen_185 (by decide) ?_
      refine lv_irem hx hb d_M_happen_187 (by decide) ?_
      refine ga_asi (v := nI (D % 32)) (ma_rem32 hD2) ?_
      refine lv_iload_n hx hb d_M_happen_188 rfl (lv_at hl 2 rfl) ?_
      refine ms_order hC hw (vp_in_nI (by omega) (by decide)) d_M_happen_189 (fun H locs hw => ?_)
      refine lv_aload_n hx hb d_M_happen_190 rfl (lv_at hl 1 rfl) ?_
      refine lv_dup hx hb d_M_happen_191 rfl ?_
      refine mg_done (v := y.1 13) hC hw fl_M_145 d_M_happen_192 rfl ?_
      refine ga_asi (v := nI D) (hD) ?_
      refine lv_iconst (v := 1) hx hb d_M_happen_195 (by decide) ?_
      refine lv_iadd hx hb d_M_happen_196 ?_
      refine ga_asi (v := nI (D + 1)) (nI_1 D) ?_
      refine mp_done hC hw fl_M_145 d_M_happen_197 (fun H locs hw => ?_)
      refine lv_iload_n hx hb d_M_happen_200 rfl (lv_at hl 0 rfl) ?_
      exact ga_iret (u := ma_sI (ma_sA (ma_sA (ma_sI (ma_sA y 6 (upd (ma_A y 6) (nI ev).toNatClampNeg (vp_nar .boolean 0))) 1 ((ma_A y 0) ev)) 10 (upd (ma_A y 10) (nI (D % 32)).toNatClampNeg (((ma_A y 2) ev) + 32))) 11 (upd (ma_A y 11) (nI (D % 32)).toNatClampNeg (nI ev))) 13 (nI (D + 1))) hC hr hlocks hw (Or.inl ⟨c_62, by unfold ma_kd; rw [if_pos c_30], by unfold ma_rec ma_off; rw [nI_clamp (n := ev) (by omega), nI_clamp (n := D % 32) (by omega)] <;> rfl⟩) (Nat.le_of_ble_eq_true rfl) (Nat.le_of_ble_eq_true rfl) d_M_happen_201
    · exact absurd (c_30.symm.trans c_62) (by decide)

set_option maxHeartbeats 4000000 in
set_option maxRecDepth 100000 in
theorem c_M_step (l : Launch) (k : xa_k) (a : Nat → Nat) (y : MS) (M D : Nat) (hM : y.1 2 = nI M) (hM2 : M ≤ 1700) (hD : y.1 13 = nI D) (hD2 : D < 2 ^ 31) (sz : Nat) : Met l y_M_step (Cond.code y_M_step b_M_step 2 (some .int) :: ga_T) ({ frames := 2, cells := 0, slots := 0, locals := 45 }) (va_Pc [.ref (a 0)] (ga_pre (xa_K k) (ma_W k a y) sz)) (va_Qi (fun (r : Int32) (u : MS) => (r = -1 ∧ u = ma_sI y 0 0 ∧ ∀ f, f < M → ma_A y 6 f = 0) ∨ (∃ b, b < M ∧ ma_lea y M b ∧ ma_hap (ma_sI y 0 0) b D r u)) (ga_post (xa_K k) (ma_W k a y) sz (ma_W k a)) (va_A (ma_W k a y) sz)) 0 0 (va_A (ma_W k a y) sz) := by
  refine ga_Met (by decide) (Nat.le_of_ble_eq_true rfl) ?_
  intro p e s m below meth c hC hr hlocks _ hw ls hl
  have hx := hC.1
  have hb := hC.2.1
  have hl : lv_has ls 2 [(0, .ref (a 0))] := hl
  refine lv_aload_n hx hb d_M_step_0 rfl (lv_at hl 0 rfl) ?_
  refine lv_iconst (v := 0) hx hb d_M_step_1 (by decide) ?_
  refine mp_thrown hC hw fl_M_51 d_M_step_2 (fun H locs hw => ?_)
  refine lv_aload_n hx hb d_M_step_5 rfl (lv_at hl 0 rfl) ?_
  refine ga_Vi (As := []) (rest := []) hC hw (c_M_least l k a (ma_sI y 0 0) M hM hM2 _) m_M_least ml_M_148 (ga_recv hw (q0 := 0) rfl rfl) rfl rfl ⟨Nat.le_of_ble_eq_true rfl, Nat.le_of_ble_eq_true rfl⟩ rfl hl.1 rfl (Nat.le_of_ble_eq_true rfl) d_M_step_6 ⟨Nat.le_of_ble_eq_true rfl, Nat.le_of_ble_eq_true rfl⟩ (fun r u H locs hp hw => ?_)
  obtain ⟨rfl, hp⟩ := hp
  rcases hp with ⟨rfl, h_6⟩ | ⟨b_6, hb_6, rfl, h_6, g_6, k_6⟩
  · refine lv_istore_n (lv' := [(1, .int ((-1))), (0, .ref (a 0))]) hx hb d_M_step_9 rfl hl (by decide) rfl (fun ls hl => ?_)
    refine lv_iload_n hx hb d_M_step_10 rfl (lv_at hl 0 rfl) ?_
    refine lv_if_ge (tgt := 18) hx hb d_M_step_11 (by decide) (fun c_11 => ?_) (fun c_11 => ?_)
    · exact absurd c_11 (by decide)
    · refine lv_iconst (v := (-1)) hx hb d_M_step_14 (by decide) ?_
      refine lv_goto (tgt := 23) hx hb d_M_step_15 (by decide) ?_
      exact ga_iret (u := ma_sI y 0 0) hC hr hlocks hw (Or.inl ⟨rfl, rfl, h_6⟩) (Nat.le_of_ble_eq_true rfl) (Nat.le_of_ble_eq_true rfl) d_M_step_23
  · refine lv_istore_n (lv' := [(1, .int (nI b_6)), (0, .ref (a 0))]) hx hb d_M_step_9 rfl hl (by decide) rfl (fun ls hl => ?_)
    refine lv_iload_n hx hb d_M_step_10 rfl (lv_at hl 0 rfl) ?_
    refine lv_if_ge (tgt := 18) hx hb d_M_step_11 (by decide) (fun c_11 => ?_) (fun c_11 => ?_)
    · refine lv_aload_n hx hb d_M_step_18 rfl (lv_at hl 1 rfl) ?_
      refine lv_iload_n hx hb d_M_step_19 rfl (lv_at hl 0 rfl) ?_
      refine ga_Vi (As := [.int (nI b_6)]) (rest := []) hC hw (c_M_happen l k a (ma_sI y 0 0) b_6 D (by omega) hD hD2 _) m_M_happen ml_M_152 (ga_recv hw (q0 := 0) rfl rfl) rfl rfl ⟨Nat.le_of_ble_eq_true rfl, Nat.le_of_ble_eq_true rfl⟩ rfl hl.1 rfl (Nat.le_of_ble_eq_true rfl) d_M_step_20 ⟨Nat.le_of_ble_eq_true rfl, Nat.le_of_ble_eq_true rfl⟩ (fun r u H locs hp hw => ?_)
      obtain ⟨r1, er⟩ : ∃ z, z = r := ⟨_, rfl⟩
      subst er
      obtain ⟨u1, eu⟩ : ∃ z, z = u := ⟨_, rfl⟩
      subst eu
      have hp_20 := hp
      exact ga_iret (u := u1) hC hr hlocks hw (Or.inr ⟨b_6, hb_6, ⟨h_6, g_6, k_6⟩, hp_20⟩) (Nat.le_of_ble_eq_true rfl) (Nat.le_of_ble_eq_true rfl) d_M_step_23
    · exact absurd (nI_pos' (by omega)) c_11
set_option maxHeartbeats 4000000 in
set_option maxRecDepth 100000 in
theorem lp_M_run {p : Program} {l : Launch} {e : Env} {s : State} {m : MethodId} {args : Array Value} {below : List Frame} {meth : Method} {c : Code} {Q : State → Prop} {A : Nat → Prop} {k : xa_k} {a : Nat → Nat} {y : MS} {en : Int32} {M : Nat} (hC : CallFix p m c b_M_run 5 s args ga_T "NetWiresModel") (hM2 : M ≤ 1700)
    (kx : ∀ (c9 : Nat) (Y : MS) (H : Heap) (locs : List Loc) (ls : Array Slot), ma_runs M en y c9 Y → ((∀ f, f < M → ma_A Y 6 f = 0) ∨ ∃ b, b < M ∧ ma_lea Y M b ∧ ¬ ma_A Y 0 b ≤ en) → ga_w (xa_K k) (ma_W k a Y) A s H locs → lv_has ls 5 [(3, .int (nI c9)), (0, .ref (a 0)), (2, .int en)] → W p l e ({ frames := 2, cells := 0, slots := 0, locals := 45 }) s m args below meth c H locs 0 0 Q (F0 m 72 ls [])) :
    ∀ (d c9 D : Nat) (Y : MS) (bs : Int32) (H : Heap) (locs : List Loc) (ls : Array Slot), ma_cT Y M ≤ d → ma_lst Y M bs → Y.1 2 = nI M → Y.1 13 = nI D → D + d < 2 ^ 31 → ma_runs M en y c9 Y → ga_w (xa_K k) (ma_W k a Y) A s H locs → lv_has ls 5 [(4, .int bs), (3, .int (nI c9)), (0, .ref (a 0)), (2, .int en)] → W p l e ({ frames := 2, cells := 0, slots := 0, locals := 45 }) s m args below meth c H locs 0 0 Q (F0 m 37 ls []) := by
  have hx := hC.1
  have hb := hC.2.1
  intro d
  induction d with
  | zero =>
    intro c9 D Y bs H locs ls hd hi hM hD hD2 hr hw hl
    rcases hi with ⟨rfl, hn⟩ | ⟨b, hb9, rfl, h1, h2, h3⟩
    · refine lv_iload hx hb d_M_run_37 (lv_at hl 0 rfl) ?_
      refine lv_if_lt (tgt := 72) hx hb d_M_run_39 (by decide) (fun c_39 => ?_) (fun c_39 => ?_)
      · exact kx c9 Y H locs ls hr (Or.inl hn) hw (lv_sub hl [1, 2, 3] rfl)
      · exact absurd c_39 (by decide)
    · exact absurd (ma_cT_pos h1 M hb9) (by omega)
  | succ d ih =>
    intro c9 D Y bs H locs ls hd hi hM hD hD2 hr hw hl
    rcases hi with ⟨rfl, hn⟩ | ⟨b, hb9, rfl, h1, h2, h3⟩
    · refine lv_iload hx hb d_M_run_37 (lv_at hl 0 rfl) ?_
      refine lv_if_lt (tgt := 72) hx hb d_M_run_39 (by decide) (fun c_39 => ?_) (fun c_39 => ?_)
      · exact kx c9 Y H locs ls hr (Or.inl hn) hw (lv_sub hl [1, 2, 3] rfl)
      · exact absurd c_39 (by decide)
    · refine lv_iload hx hb d_M_run_37 (lv_at hl 0 rfl) ?_
      refine lv_if_lt (tgt := 72) hx hb d_M_run_39 (by decide) (fun c_39 => ?_) (fun c_39 => ?_)
      · exact absurd c_39 (nI_pos (by omega))
      · refine lv_aload_n hx hb d_M_run_42 rfl (lv_at hl 2 rfl) ?_
        refine mg_times hC hw fl_M_7 d_M_run_43 ?_
        refine lv_iload hx hb d_M_run_46 (lv_at hl 0 rfl) ?_
        refine mr_times (v := (ma_A Y 0) b) hC hw (vp_in_nI (by omega) (by decide)) d_M_run_48 (by rw [nI_clamp (by omega)] <;> rfl) ?_
        refine lv_iload_n hx hb d_M_run_49 rfl (lv_at hl 3 rfl) ?_
        refine lv_icmp_gt (tgt := 72) hx hb d_M_run_50 (by decide) (fun c_50 => ?_) (fun c_50 => ?_)
        · exact kx c9 Y H locs ls hr (Or.inr ⟨b, hb9, ⟨h1, h2, h3⟩, Int32.not_le.mpr c_50⟩) hw (lv_sub hl [1, 2, 3] rfl)
        · refine lv_aload_n hx hb d_M_run_53 rfl (lv_at hl 2 rfl) ?_
          refine lv_iload hx hb d_M_run_54 (lv_at hl 0 rfl) ?_
          refine ga_Vi (As := [.int (nI b)]) (rest := []) hC hw (c_M_happen l k a Y b D (by omega) hD (by omega) _) m_M_happen ml_M_152 (ga_recv hw (q0 := 0) rfl rfl) rfl rfl ⟨Nat.le_of_ble_eq_true rfl, Nat.le_of_ble_eq_true rfl⟩ rfl hl.1 rfl (Nat.le_of_ble_eq_true rfl) d_M_run_56 ⟨Nat.le_of_ble_eq_true rfl, Nat.le_of_ble_eq_true rfl⟩ (fun r u H locs hp hw => ?_)
          obtain ⟨r1, er⟩ : ∃ z, z = r := ⟨_, rfl⟩
          subst er
          obtain ⟨u1, eu⟩ : ∃ z, z = u := ⟨_, rfl⟩
          subst eu
          have hp_56 := hp
          refine lv_pop hx hb d_M_run_59 rfl ?_
          refine lv_iinc (v := nI (c9 + 1)) (lv' := [(3, .int (nI (c9 + 1))), (4, .int (nI b)), (0, .ref (a 0)), (2, .int en)]) hx hb d_M_run_60 hl (k := 1) rfl (nI_1 c9) (by decide) rfl (fun ls hl => ?_)
          refine lv_aload_n hx hb d_M_run_63 rfl (lv_at hl 2 rfl) ?_
          refine ga_Vi (As := []) (rest := []) hC hw (c_M_least l k a u1 M ((ma_hap_6 hp_56).2.2.trans hM) hM2 _) m_M_least ml_M_148 (ga_recv hw (q0 := 0) rfl rfl) rfl rfl ⟨Nat.le_of_ble_eq_true rfl, Nat.le_of_ble_eq_true rfl⟩ rfl hl.1 rfl (Nat.le_of_ble_eq_true rfl) d_M_run_64 ⟨Nat.le_of_ble_eq_true rfl, Nat.le_of_ble_eq_true rfl⟩ (fun r u H locs hp hw => ?_)
          obtain ⟨rfl, hp⟩ := hp
          refine lv_istore (lv' := [(4, .int r), (3, .int (nI (c9 + 1))), (0, .ref (a 0)), (2, .int en)]) hx hb d_M_run_67 hl (by decide) rfl (fun ls hl => ?_)
          refine lv_goto (tgt := 37) hx hb d_M_run_69 (by decide) ?_
          exact ih (c9 + 1) (D + 1) u1 r H locs ls (by have := ma_cT_off h1 (ma_hap_6 hp_56).1 M; rw [if_pos hb9] at this; omega) hp ((ma_hap_6 hp_56).2.2.trans hM) (ma_hap_6 hp_56).2.1 (by omega) ⟨Y, b, D, r1, hr, ⟨hD, by omega⟩, hb9, ⟨h1, h2, h3⟩, Int32.not_lt.mp c_50, hp_56⟩ hw (lv_sub hl [0, 1, 2, 3] rfl)
set_option maxHeartbeats 4000000 in
set_option maxRecDepth 100000 in
theorem c_M_run (l : Launch) (k : xa_k) (a : Nat → Nat) (y : MS) (n9 : Int32) (M D : Nat) (hM : y.1 2 = nI M) (hM2 : M ≤ 1700) (hD : y.1 13 = nI D) (hD2 : D < 2 ^ 30) (sz : Nat) : Met l y_M_run (Cond.code y_M_run b_M_run 5 (some .int) :: ga_T) ({ frames := 2, cells := 0, slots := 0, locals := 45 }) (va_Pc [.ref (a 0), .int n9] (ga_pre (xa_K k) (ma_W k a y) sz)) (va_Qi (fun (r : Int32) (u : MS) => ((n9 < 1 ∨ 1000 < n9) ∧ r = 0 ∧ u = ma_sI y 0 1) ∨ ((¬ n9 < 1 ∧ ¬ 1000 < n9) ∧ ∃ c9 Y, ma_runs M (y.1 1 + n9) (ma_sI y 0 0) c9 Y ∧ ((∀ f, f < M → ma_A Y 6 f = 0) ∨ ∃ b, b < M ∧ ma_lea Y M b ∧ ¬ ma_A Y 0 b ≤ y.1 1 + n9) ∧ r = nI c9 ∧ u = ma_sI Y 1 (y.1 1 + n9))) (ga_post (xa_K k) (ma_W k a y) sz (ma_W k a)) (va_A (ma_W k a y) sz)) 0 0 (va_A (ma_W k a y) sz) := by
  refine ga_Met (by decide) (Nat.le_of_ble_eq_true rfl) ?_
  intro p e s m below meth c hC hr hlocks _ hw ls hl
  have hx := hC.1
  have hb := hC.2.1
  have hl : lv_has ls 5 [(0, .ref (a 0)), (1, .int n9)] := hl
  refine lv_aload_n hx hb d_M_run_0 rfl (lv_at hl 0 rfl) ?_
  refine lv_iconst (v := 0) hx hb d_M_run_1 (by decide) ?_
  refine mp_thrown hC hw fl_M_51 d_M_run_2 (fun H locs hw => ?_)
  refine lv_iload_n hx hb d_M_run_5 rfl (lv_at hl 1 rfl) ?_
  refine lv_iconst (v := 1) hx hb d_M_run_6 (by decide) ?_
  refine lv_sipush (v := 1000) hx hb d_M_run_7 (by decide) ?_
  refine ga_Si (As := [.int n9, .int 1, .int 1000]) (rest := []) hC hw (c_M_within l k a (ma_sI y 0 0) n9 1 1000 _) m_M_within ml_M_54 rfl rfl ⟨Nat.le_of_ble_eq_true rfl, Nat.le_of_ble_eq_true rfl⟩ rfl hl.1 rfl (Nat.le_of_ble_eq_true rfl) d_M_run_10 ⟨Nat.le_of_ble_eq_true rfl, Nat.le_of_ble_eq_true rfl⟩ (fun r u H locs hp hw => ?_)
  obtain ⟨rfl, hp⟩ := hp
  rcases hp with ⟨rfl, ⟨h_10, g_10⟩⟩ | ⟨rfl, h_10⟩
  · refine lv_if_ne (tgt := 22) hx hb d_M_run_13 (by decide) (fun c_13 => ?_) (fun c_13 => ?_)
    · refine lv_aload_n hx hb d_M_run_22 rfl (lv_at hl 0 rfl) ?_
      refine mg_now (v := y.1 1) hC hw fl_M_83 d_M_run_23 rfl ?_
      refine lv_iload_n hx hb d_M_run_26 rfl (lv_at hl 1 rfl) ?_
      refine lv_iadd hx hb d_M_run_27 ?_
      refine lv_istore_n (lv' := [(2, .int ((y.1 1) + n9)), (0, .ref (a 0)), (1, .int n9)]) hx hb d_M_run_28 rfl hl (by decide) rfl (fun ls hl => ?_)
      refine lv_iconst (v := 0) hx hb d_M_run_29 (by decide) ?_
      refine lv_istore_n (lv' := [(3, .int 0), (2, .int ((y.1 1) + n9)), (0, .ref (a 0)), (1, .int n9)]) hx hb d_M_run_30 rfl hl (by decide) rfl (fun ls hl => ?_)
      refine lv_aload_n hx hb d_M_run_31 rfl (lv_at hl 2 rfl) ?_
      refine ga_Vi (As := []) (rest := []) hC hw (c_M_least l k a (ma_sI y 0 0) M hM hM2 _) m_M_least ml_M_148 (ga_recv hw (q0 := 0) rfl rfl) rfl rfl ⟨Nat.le_of_ble_eq_true rfl, Nat.le_of_ble_eq_true rfl⟩ rfl hl.1 rfl (Nat.le_of_ble_eq_true rfl) d_M_run_32 ⟨Nat.le_of_ble_eq_true rfl, Nat.le_of_ble_eq_true rfl⟩ (fun r u H locs hp hw => ?_)
      obtain ⟨rfl, hp⟩ := hp
      refine lv_istore (lv' := [(4, .int r), (3, .int 0), (2, .int ((y.1 1) + n9)), (0, .ref (a 0)), (1, .int n9)]) hx hb d_M_run_35 hl (by decide) rfl (fun ls hl => ?_)
      refine lp_M_run hC hM2 (fun c9 Y H locs ls hr9 hx9 hw hl => ?_) (ma_cT (ma_sI y 0 0) M) 0 D _ _ H locs ls (Nat.le_refl _) hp hM hD (by have := ma_cT_le (ma_sI y 0 0) M; omega) rfl hw (lv_sub hl [0, 1, 3, 2] rfl)
      refine lv_aload_n hx hb d_M_run_72 rfl (lv_at hl 1 rfl) ?_
      refine lv_iload_n hx hb d_M_run_73 rfl (lv_at hl 2 rfl) ?_
      refine mp_now hC hw fl_M_83 d_M_run_74 (fun H locs hw => ?_)
      refine lv_iload_n hx hb d_M_run_77 rfl (lv_at hl 0 rfl) ?_
      exact ga_iret (u := ma_sI Y 1 (y.1 1 + n9)) hC hr hlocks hw (Or.inr ⟨⟨h_10, g_10⟩, c9, Y, hr9, hx9, rfl, rfl⟩) (Nat.le_of_ble_eq_true rfl) (Nat.le_of_ble_eq_true rfl) d_M_run_78
    · exact absurd c_13 (by decide)
  · refine lv_if_ne (tgt := 22) hx hb d_M_run_13 (by decide) (fun c_13 => ?_) (fun c_13 => ?_)
    · exact absurd c_13 (by decide)
    · refine lv_aload_n hx hb d_M_run_16 rfl (lv_at hl 0 rfl) ?_
      refine lv_iconst (v := 1) hx hb d_M_run_17 (by decide) ?_
      refine ga_Vi (As := [.int 1]) (rest := []) hC hw (c_M_fail l k a (ma_sI y 0 0) 1 _) m_M_fail ml_M_58 (ga_recv hw (q0 := 0) rfl rfl) rfl rfl ⟨Nat.le_of_ble_eq_true rfl, Nat.le_of_ble_eq_true rfl⟩ rfl hl.1 rfl (Nat.le_of_ble_eq_true rfl) d_M_run_18 ⟨Nat.le_of_ble_eq_true rfl, Nat.le_of_ble_eq_true rfl⟩ (fun r u H locs hp hw => ?_)
      obtain ⟨rfl, rfl⟩ := hp
      exact ga_iret (u := ma_sI (ma_sI y 0 0) 0 1) hC hr hlocks hw (Or.inl ⟨h_10, rfl, ma_2s⟩) (Nat.le_of_ble_eq_true rfl) (Nat.le_of_ble_eq_true rfl) d_M_run_21

set_option maxHeartbeats 4000000 in
set_option maxRecDepth 100000 in
theorem c_M_message (l : Launch) (k : xa_k) (a : Nat → Nat) (y : MS) (k9 wh : Int32) (M : Nat) (hM : y.1 2 = nI M) (hM2 : M ≤ 1700) (sz : Nat) : Met l y_M_message (Cond.code y_M_message b_M_message 4 (some .int) :: ga_T) ({ frames := 1, cells := 0, slots := 0, locals := 26 }) (va_Pc [.ref (a 0), .int k9, .int wh] (ga_pre (xa_K k) (ma_W k a y) sz)) (va_Qi (fun (r : Int32) (u : MS) => u = ma_sI y 0 0 ∧ ((r = -1 ∧ ma_nom y M k9) ∨ (∃ e, ma_isM y M k9 e ∧ r = ma_mes y e wh))) (ga_post (xa_K k) (ma_W k a y) sz (ma_W k a)) (va_A (ma_W k a y) sz)) 0 0 (va_A (ma_W k a y) sz) := by
  refine ga_Met (by decide) (Nat.le_of_ble_eq_true rfl) ?_
  intro p e s m below meth c hC hr hlocks _ hw ls hl
  have hx := hC.1
  have hb := hC.2.1
  have hl : lv_has ls 4 [(0, .ref (a 0)), (1, .int k9), (2, .int wh)] := hl
  refine lv_aload_n hx hb d_M_message_0 rfl (lv_at hl 0 rfl) ?_
  refine lv_iconst (v := 0) hx hb d_M_message_1 (by decide) ?_
  refine mp_thrown hC hw fl_M_51 d_M_message_2 (fun H locs hw => ?_)
  refine lv_aload_n hx hb d_M_message_5 rfl (lv_at hl 0 rfl) ?_
  refine lv_iload_n hx hb d_M_message_6 rfl (lv_at hl 1 rfl) ?_
  refine lv_iconst (v := 0) hx hb d_M_message_7 (by decide) ?_
  refine ga_Vi (As := [.int k9, .int 0]) (rest := []) hC hw (c_M_nth l k a (ma_sI y 0 0) k9 M hM hM2 _) m_M_nth ml_M_138 (ga_recv hw (q0 := 0) rfl rfl) rfl rfl ⟨Nat.le_of_ble_eq_true rfl, Nat.le_of_ble_eq_true rfl⟩ rfl hl.1 rfl (Nat.le_of_ble_eq_true rfl) d_M_message_8 ⟨Nat.le_of_ble_eq_true rfl, Nat.le_of_ble_eq_true rfl⟩ (fun r u H locs hp hw => ?_)
  obtain ⟨rfl, hp⟩ := hp
  have hp := ma_nth_I (y := y) (u := ma_sI y 0 0) rfl hp
  rcases hp with ⟨rfl, h_8⟩ | ⟨b_8, hb_8, rfl, h_8, g_8, k_8⟩
  · refine lv_istore_n (lv' := [(3, .int ((-1))), (0, .ref (a 0)), (1, .int k9), (2, .int wh)]) hx hb d_M_message_11 rfl hl (by decide) rfl (fun ls hl => ?_)
    refine lv_iload_n hx hb d_M_message_12 rfl (lv_at hl 0 rfl) ?_
    refine lv_if_lt (tgt := 25) hx hb d_M_message_13 (by decide) (fun c_13 => ?_) (fun c_13 => ?_)
    · refine lv_iconst (v := (-1)) hx hb d_M_message_25 (by decide) ?_
      exact ga_iret (u := ma_sI y 0 0) hC hr hlocks hw ⟨rfl, Or.inl ⟨rfl, h_8⟩⟩ (Nat.le_of_ble_eq_true rfl) (Nat.le_of_ble_eq_true rfl) d_M_message_26
    · exact absurd c_13 (by decide)
  · refine lv_istore_n (lv' := [(3, .int (nI b_8)), (0, .ref (a 0)), (1, .int k9), (2, .int wh)]) hx hb d_M_message_11 rfl hl (by decide) rfl (fun ls hl => ?_)
    refine lv_iload_n hx hb d_M_message_12 rfl (lv_at hl 0 rfl) ?_
    refine lv_if_lt (tgt := 25) hx hb d_M_message_13 (by decide) (fun c_13 => ?_) (fun c_13 => ?_)
    · exact absurd c_13 (nI_pos (by omega))
    · refine lv_iload_n hx hb d_M_message_16 rfl (lv_at hl 3 rfl) ?_
      refine lv_iconst (v := 0) hx hb d_M_message_17 (by decide) ?_
      refine lv_iconst (v := 4) hx hb d_M_message_18 (by decide) ?_
      refine ga_Si (As := [.int wh, .int 0, .int 4]) (rest := []) hC hw (c_M_within l k a (ma_sI y 0 0) wh 0 4 _) m_M_within ml_M_54 rfl rfl ⟨Nat.le_of_ble_eq_true rfl, Nat.le_of_ble_eq_true rfl⟩ rfl hl.1 rfl (Nat.le_of_ble_eq_true rfl) d_M_message_19 ⟨Nat.le_of_ble_eq_true rfl, Nat.le_of_ble_eq_true rfl⟩ (fun r u H locs hp hw => ?_)
      obtain ⟨rfl, hp⟩ := hp
      rcases hp with ⟨rfl, ⟨h_19, g_19⟩⟩ | ⟨rfl, h_19⟩
      · refine lv_if_ne (tgt := 27) hx hb d_M_message_22 (by decide) (fun c_22 => ?_) (fun c_22 => ?_)
        · refine lv_iload_n hx hb d_M_message_27 rfl (lv_at hl 3 rfl) ?_
          refine lv_iconst (v := 3) hx hb d_M_message_28 (by decide) ?_
          refine lv_icmp_ge (tgt := 66) hx hb d_M_message_29 (by decide) (fun c_29 => ?_) (fun c_29 => ?_)
          · refine lv_iload_n hx hb d_M_message_66 rfl (lv_at hl 3 rfl) ?_
            refine lv_iconst (v := 3) hx hb d_M_message_67 (by decide) ?_
            refine lv_icmp_ne (tgt := 75) hx hb d_M_message_68 (by decide) (fun c_68 => ?_) (fun c_68 => ?_)
            · refine lv_aload_n hx hb d_M_message_75 rfl (lv_at hl 1 rfl) ?_
              refine mg_sizes hC hw fl_M_25 d_M_message_76 ?_
              refine lv_iload_n hx hb d_M_message_79 rfl (lv_at hl 0 rfl) ?_
              refine mr_sizes (v := (ma_A y 5) b_8) hC hw (vp_in_nI (by omega) (by decide)) d_M_message_80 (by rw [nI_clamp (by omega)] <;> rfl) ?_
              exact ga_iret (u := ma_sI y 0 0) hC hr hlocks hw ⟨rfl, Or.inr ⟨b_8, ⟨hb_8, h_8, g_8⟩, by unfold ma_mes; rw [if_neg (fun h => h.elim h_19 g_19), if_pos c_29, if_neg c_68]⟩⟩ (Nat.le_of_ble_eq_true rfl) (Nat.le_of_ble_eq_true rfl) d_M_message_81
            · refine lv_iload_n hx hb d_M_message_71 rfl (lv_at hl 0 rfl) ?_
              refine lv_goto (tgt := 81) hx hb d_M_message_72 (by decide) ?_
              exact ga_iret (u := ma_sI y 0 0) hC hr hlocks hw ⟨rfl, Or.inr ⟨b_8, ⟨hb_8, h_8, g_8⟩, by unfold ma_mes; rw [if_neg (fun h => h.elim h_19 g_19), if_pos c_29, if_pos c_68]⟩⟩ (Nat.le_of_ble_eq_true rfl) (Nat.le_of_ble_eq_true rfl) d_M_message_81
          · refine lv_iload_n hx hb d_M_message_32 rfl (lv_at hl 3 rfl) ?_
            refine lv_if_ne (tgt := 45) hx hb d_M_message_33 (by decide) (fun c_33 => ?_) (fun c_33 => ?_)
            · refine lv_iload_n hx hb d_M_message_45 rfl (lv_at hl 3 rfl) ?_
              refine lv_iconst (v := 1) hx hb d_M_message_46 (by decide) ?_
              refine lv_icmp_ne (tgt := 59) hx hb d_M_message_47 (by decide) (fun c_47 => ?_) (fun c_47 => ?_)
              · refine lv_aload_n hx hb d_M_message_59 rfl (lv_at hl 1 rfl) ?_
                refine mg_times hC hw fl_M_7 d_M_message_60 ?_
                refine lv_iload_n hx hb d_M_message_63 rfl (lv_at hl 0 rfl) ?_
                refine mr_times (v := (ma_A y 0) b_8) hC hw (vp_in_nI (by omega) (by decide)) d_M_message_64 (by rw [nI_clamp (by omega)] <;> rfl) ?_
                exact ga_iret (u := ma_sI y 0 0) hC hr hlocks hw ⟨rfl, Or.inr ⟨b_8, ⟨hb_8, h_8, g_8⟩, by unfold ma_mes; rw [if_neg (fun h => h.elim h_19 g_19), if_neg c_29, if_neg c_33, if_neg c_47]⟩⟩ (Nat.le_of_ble_eq_true rfl) (Nat.le_of_ble_eq_true rfl) d_M_message_65
              · refine lv_aload_n hx hb d_M_message_50 rfl (lv_at hl 1 rfl) ?_
                refine mg_whose hC hw fl_M_16 d_M_message_51 ?_
                refine lv_iload_n hx hb d_M_message_54 rfl (lv_at hl 0 rfl) ?_
                refine mr_whose (v := (ma_A y 2) b_8) hC hw (vp_in_nI (by omega) (by decide)) d_M_message_55 (by rw [nI_clamp (by omega)] <;> rfl) ?_
                refine lv_goto (tgt := 65) hx hb d_M_message_56 (by decide) ?_
                exact ga_iret (u := ma_sI y 0 0) hC hr hlocks hw ⟨rfl, Or.inr ⟨b_8, ⟨hb_8, h_8, g_8⟩, by unfold ma_mes; rw [if_neg (fun h => h.elim h_19 g_19), if_neg c_29, if_neg c_33, if_pos c_47]⟩⟩ (Nat.le_of_ble_eq_true rfl) (Nat.le_of_ble_eq_true rfl) d_M_message_65
            · refine lv_aload_n hx hb d_M_message_36 rfl (lv_at hl 1 rfl) ?_
              refine mg_froms hC hw fl_M_19 d_M_message_37 ?_
              refine lv_iload_n hx hb d_M_message_40 rfl (lv_at hl 0 rfl) ?_
              refine mr_froms (v := (ma_A y 3) b_8) hC hw (vp_in_nI (by omega) (by decide)) d_M_message_41 (by rw [nI_clamp (by omega)] <;> rfl) ?_
              refine lv_goto (tgt := 65) hx hb d_M_message_42 (by decide) ?_
              exact ga_iret (u := ma_sI y 0 0) hC hr hlocks hw ⟨rfl, Or.inr ⟨b_8, ⟨hb_8, h_8, g_8⟩, by unfold ma_mes; rw [if_neg (fun h => h.elim h_19 g_19), if_neg c_29, if_pos c_33]⟩⟩ (Nat.le_of_ble_eq_true rfl) (Nat.le_of_ble_eq_true rfl) d_M_message_65
        · exact absurd c_22 (by decide)
      · refine lv_if_ne (tgt := 27) hx hb d_M_message_22 (by decide) (fun c_22 => ?_) (fun c_22 => ?_)
        · exact absurd c_22 (by decide)
        · refine lv_iconst (v := (-1)) hx hb d_M_message_25 (by decide) ?_
          exact ga_iret (u := ma_sI y 0 0) hC hr hlocks hw ⟨rfl, Or.inr ⟨b_8, ⟨hb_8, h_8, g_8⟩, by unfold ma_mes; rw [if_pos h_19]⟩⟩ (Nat.le_of_ble_eq_true rfl) (Nat.le_of_ble_eq_true rfl) d_M_message_26

set_option maxHeartbeats 4000000 in
set_option maxRecDepth 100000 in
theorem c_M_messageAt (l : Launch) (k : xa_k) (a : Nat → Nat) (y : MS) (k9 i9 : Int32) (M : Nat) (hM : y.1 2 = nI M) (hM2 : M ≤ 1700) (hB : ∀ e, e < M → ma_msg y e → ∃ b9 s9, ma_A y 4 e = nI b9 ∧ ma_A y 5 e = nI s9 ∧ b9 + s9 ≤ 4200) (sz : Nat) : Met l y_M_messageAt (Cond.code y_M_messageAt b_M_messageAt 4 (some .int) :: ga_T) ({ frames := 1, cells := 0, slots := 0, locals := 26 }) (va_Pc [.ref (a 0), .int k9, .int i9] (ga_pre (xa_K k) (ma_W k a y) sz)) (va_Qi (fun (r : Int32) (u : MS) => (r = 0 ∧ u = ma_sI y 0 1 ∧ ma_nom y M k9) ∨ (∃ e s9, ma_isM y M k9 e ∧ s9 ≤ 4200 ∧ ma_A y 5 e = nI s9 ∧ (i9 < 0 ∨ nI s9 ≤ i9) ∧ r = 0 ∧ u = ma_sI y 0 1) ∨ (∃ e b9 s9 i, ma_isM y M k9 e ∧ b9 + s9 ≤ 4200 ∧ ma_A y 4 e = nI b9 ∧ ma_A y 5 e = nI s9 ∧ i < s9 ∧ i9 = nI i ∧ r = ma_A y 7 (b9 + i) ∧ u = ma_sI y 0 0)) (ga_post (xa_K k) (ma_W k a y) sz (ma_W k a)) (va_A (ma_W k a y) sz)) 0 0 (va_A (ma_W k a y) sz) := by
  refine ga_Met (by decide) (Nat.le_of_ble_eq_true rfl) ?_
  intro p e s m below meth c hC hr hlocks _ hw ls hl
  have hx := hC.1
  have hb := hC.2.1
  have hl : lv_has ls 4 [(0, .ref (a 0)), (1, .int k9), (2, .int i9)] := hl
  refine lv_aload_n hx hb d_M_messageAt_0 rfl (lv_at hl 0 rfl) ?_
  refine lv_iconst (v := 0) hx hb d_M_messageAt_1 (by decide) ?_
  refine mp_thrown hC hw fl_M_51 d_M_messageAt_2 (fun H locs hw => ?_)
  refine lv_aload_n hx hb d_M_messageAt_5 rfl (lv_at hl 0 rfl) ?_
  refine lv_iload_n hx hb d_M_messageAt_6 rfl (lv_at hl 1 rfl) ?_
  refine lv_iconst (v := 0) hx hb d_M_messageAt_7 (by decide) ?_
  refine ga_Vi (As := [.int k9, .int 0]) (rest := []) hC hw (c_M_nth l k a (ma_sI y 0 0) k9 M hM hM2 _) m_M_nth ml_M_138 (ga_recv hw (q0 := 0) rfl rfl) rfl rfl ⟨Nat.le_of_ble_eq_true rfl, Nat.le_of_ble_eq_true rfl⟩ rfl hl.1 rfl (Nat.le_of_ble_eq_true rfl) d_M_messageAt_8 ⟨Nat.le_of_ble_eq_true rfl, Nat.le_of_ble_eq_true rfl⟩ (fun r u H locs hp hw => ?_)
  obtain ⟨rfl, hp⟩ := hp
  have hp := ma_nth_I (y := y) (u := ma_sI y 0 0) rfl hp
  rcases hp with ⟨rfl, h_8⟩ | ⟨b_8, hb_8, rfl, h_8, g_8, k_8⟩
  · refine lv_istore_n (lv' := [(3, .int ((-1))), (0, .ref (a 0)), (1, .int k9), (2, .int i9)]) hx hb d_M_messageAt_11 rfl hl (by decide) rfl (fun ls hl => ?_)
    refine lv_iload_n hx hb d_M_messageAt_12 rfl (lv_at hl 0 rfl) ?_
    refine lv_if_lt (tgt := 32) hx hb d_M_messageAt_13 (by decide) (fun c_13 => ?_) (fun c_13 => ?_)
    · refine lv_aload_n hx hb d_M_messageAt_32 rfl (lv_at hl 1 rfl) ?_
      refine lv_iconst (v := 1) hx hb d_M_messageAt_33 (by decide) ?_
      refine ga_Vi (As := [.int 1]) (rest := []) hC hw (c_M_fail l k a (ma_sI y 0 0) 1 _) m_M_fail ml_M_58 (ga_recv hw (q0 := 0) rfl rfl) rfl rfl ⟨Nat.le_of_ble_eq_true rfl, Nat.le_of_ble_eq_true rfl⟩ rfl hl.1 rfl (Nat.le_of_ble_eq_true rfl) d_M_messageAt_34 ⟨Nat.le_of_ble_eq_true rfl, Nat.le_of_ble_eq_true rfl⟩ (fun r u H locs hp hw => ?_)
      obtain ⟨rfl, rfl⟩ := hp
      refine lv_goto (tgt := 53) hx hb d_M_messageAt_37 (by decide) ?_
      exact ga_iret (u := ma_sI (ma_sI y 0 0) 0 1) hC hr hlocks hw (Or.inl ⟨rfl, ma_2s, h_8⟩) (Nat.le_of_ble_eq_true rfl) (Nat.le_of_ble_eq_true rfl) d_M_messageAt_53
    · exact absurd c_13 (by decide)
  · refine lv_istore_n (lv' := [(3, .int (nI b_8)), (0, .ref (a 0)), (1, .int k9), (2, .int i9)]) hx hb d_M_messageAt_11 rfl hl (by decide) rfl (fun ls hl => ?_)
    refine lv_iload_n hx hb d_M_messageAt_12 rfl (lv_at hl 0 rfl) ?_
    refine lv_if_lt (tgt := 32) hx hb d_M_messageAt_13 (by decide) (fun c_13 => ?_) (fun c_13 => ?_)
    · exact absurd c_13 (nI_pos (by omega))
    · obtain ⟨b9, s9, eb9, es9, hbs⟩ := hB b_8 hb_8 h_8
      refine lv_iload_n hx hb d_M_messageAt_16 rfl (lv_at hl 3 rfl) ?_
      refine lv_iconst (v := 0) hx hb d_M_messageAt_17 (by decide) ?_
      refine lv_aload_n hx hb d_M_messageAt_18 rfl (lv_at hl 1 rfl) ?_
      refine mg_sizes hC hw fl_M_25 d_M_messageAt_19 ?_
      refine lv_iload_n hx hb d_M_messageAt_22 rfl (lv_at hl 0 rfl) ?_
      refine mr_sizes (v := (ma_A y 5) b_8) hC hw (vp_in_nI (by omega) (by decide)) d_M_messageAt_23 (by rw [nI_clamp (by omega)] <;> rfl) ?_
      refine ga_asi (v := nI s9) (es9) ?_
      refine lv_iconst (v := 1) hx hb d_M_messageAt_24 (by decide) ?_
      refine lv_isub hx hb d_M_messageAt_25 ?_
      refine ga_Si (As := [.int i9, .int 0, .int ((nI s9) - 1)]) (rest := []) hC hw (c_M_within l k a (ma_sI y 0 0) i9 0 ((nI s9) - 1) _) m_M_within ml_M_54 rfl rfl ⟨Nat.le_of_ble_eq_true rfl, Nat.le_of_ble_eq_true rfl⟩ rfl hl.1 rfl (Nat.le_of_ble_eq_true rfl) d_M_messageAt_26 ⟨Nat.le_of_ble_eq_true rfl, Nat.le_of_ble_eq_true rfl⟩ (fun r u H locs hp hw => ?_)
      obtain ⟨rfl, hp⟩ := hp
      rcases hp with ⟨rfl, ⟨h_26, g_26⟩⟩ | ⟨rfl, h_26⟩
      · refine lv_if_ne (tgt := 40) hx hb d_M_messageAt_29 (by decide) (fun c_29 => ?_) (fun c_29 => ?_)
        · obtain ⟨i, hi, ei⟩ := ma_ixs (by omega) h_26 g_26
          refine lv_aload_n hx hb d_M_messageAt_40 rfl (lv_at hl 1 rfl) ?_
          refine mg_said hC hw fl_M_32 d_M_messageAt_41 ?_
          refine lv_aload_n hx hb d_M_messageAt_44 rfl (lv_at hl 1 rfl) ?_
          refine mg_begins hC hw fl_M_22 d_M_messageAt_45 ?_
          refine lv_iload_n hx hb d_M_messageAt_48 rfl (lv_at hl 0 rfl) ?_
          refine mr_begins (v := (ma_A y 4) b_8) hC hw (vp_in_nI (by omega) (by decide)) d_M_messageAt_49 (by rw [nI_clamp (by omega)] <;> rfl) ?_
          refine ga_asi (v := nI b9) (eb9) ?_
          refine lv_iload_n hx hb d_M_messageAt_50 rfl (lv_at hl 3 rfl) ?_
          refine lv_iadd hx hb d_M_messageAt_51 ?_
          refine ga_asi (v := nI (b9 + i)) (by rw [ei]; exact nI_add _ _) ?_
          refine mr_said (v := (ma_A y 7) (b9 + i)) hC hw (vp_in_nI (by omega) (by decide)) d_M_messageAt_52 (by rw [nI_clamp (by omega)] <;> rfl) ?_
          exact ga_iret (u := ma_sI y 0 0) hC hr hlocks hw (Or.inr (Or.inr ⟨b_8, b9, s9, i, ⟨hb_8, h_8, g_8⟩, hbs, eb9, es9, hi, ei, rfl, rfl⟩)) (Nat.le_of_ble_eq_true rfl) (Nat.le_of_ble_eq_true rfl) d_M_messageAt_53
        · exact absurd c_29 (by decide)
      · refine lv_if_ne (tgt := 40) hx hb d_M_messageAt_29 (by decide) (fun c_29 => ?_) (fun c_29 => ?_)
        · exact absurd c_29 (by decide)
        · refine lv_aload_n hx hb d_M_messageAt_32 rfl (lv_at hl 1 rfl) ?_
          refine lv_iconst (v := 1) hx hb d_M_messageAt_33 (by decide) ?_
          refine ga_Vi (As := [.int 1]) (rest := []) hC hw (c_M_fail l k a (ma_sI y 0 0) 1 _) m_M_fail ml_M_58 (ga_recv hw (q0 := 0) rfl rfl) rfl rfl ⟨Nat.le_of_ble_eq_true rfl, Nat.le_of_ble_eq_true rfl⟩ rfl hl.1 rfl (Nat.le_of_ble_eq_true rfl) d_M_messageAt_34 ⟨Nat.le_of_ble_eq_true rfl, Nat.le_of_ble_eq_true rfl⟩ (fun r u H locs hp hw => ?_)
          obtain ⟨rfl, rfl⟩ := hp
          refine lv_goto (tgt := 53) hx hb d_M_messageAt_37 (by decide) ?_
          exact ga_iret (u := ma_sI (ma_sI y 0 0) 0 1) hC hr hlocks hw (Or.inr (Or.inl ⟨b_8, s9, ⟨hb_8, h_8, g_8⟩, by omega, es9, ma_ixn (by omega) h_26, rfl, ma_2s⟩)) (Nat.le_of_ble_eq_true rfl) (Nat.le_of_ble_eq_true rfl) d_M_messageAt_53

set_option maxHeartbeats 4000000 in
set_option maxRecDepth 100000 in
theorem c_M_byteAt (l : Launch) (k : xa_k) (a : Nat → Nat) (y : MS) (i9 : Int32) (ha : y.1 14 = -1 ∨ ∃ e b9 s9, e < 1700 ∧ y.1 14 = nI e ∧ ma_A y 4 e = nI b9 ∧ ma_A y 5 e = nI s9 ∧ b9 + s9 ≤ 4200) (sz : Nat) : Met l y_M_byteAt (Cond.code y_M_byteAt b_M_byteAt 2 (some .int) :: ga_T) ({ frames := 1, cells := 0, slots := 0, locals := 22 }) (va_Pc [.ref (a 0), .int i9] (ga_pre (xa_K k) (ma_W k a y) sz)) (va_Qi (fun (r : Int32) (u : MS) => (y.1 14 = -1 ∧ r = 0 ∧ u = ma_sI y 0 1) ∨ (∃ e b9 s9, e < 1700 ∧ b9 + s9 ≤ 4200 ∧ y.1 14 = nI e ∧ ma_A y 4 e = nI b9 ∧ ma_A y 5 e = nI s9 ∧ (((i9 < 0 ∨ nI s9 ≤ i9) ∧ r = 0 ∧ u = ma_sI y 0 1) ∨ (∃ i, i < s9 ∧ i9 = nI i ∧ r = ma_A y 7 (b9 + i) ∧ u = ma_sI y 0 0)))) (ga_post (xa_K k) (ma_W k a y) sz (ma_W k a)) (va_A (ma_W k a y) sz)) 0 0 (va_A (ma_W k a y) sz) := by
  refine ga_Met (by decide) (Nat.le_of_ble_eq_true rfl) ?_
  intro p e s m below meth c hC hr hlocks _ hw ls hl
  have hx := hC.1
  have hb := hC.2.1
  have hl : lv_has ls 2 [(0, .ref (a 0)), (1, .int i9)] := hl
  rcases ha with ha | ⟨e9, b9, s9, he9, ha, eb9, es9, hbs⟩
  · refine lv_aload_n hx hb d_M_byteAt_0 rfl (lv_at hl 0 rfl) ?_
    refine lv_iconst (v := 0) hx hb d_M_byteAt_1 (by decide) ?_
    refine mp_thrown hC hw fl_M_51 d_M_byteAt_2 (fun H locs hw => ?_)
    refine lv_aload_n hx hb d_M_byteAt_5 rfl (lv_at hl 0 rfl) ?_
    refine mg_arrived (v := y.1 14) hC hw fl_M_47 d_M_byteAt_6 rfl ?_
    refine ga_asi (v := (-1)) (ha) ?_
    refine lv_if_lt (tgt := 31) hx hb d_M_byteAt_9 (by decide) (fun c_9 => ?_) (fun c_9 => ?_)
    · refine lv_aload_n hx hb d_M_byteAt_31 rfl (lv_at hl 0 rfl) ?_
      refine lv_iconst (v := 1) hx hb d_M_byteAt_32 (by decide) ?_
      refine ga_Vi (As := [.int 1]) (rest := []) hC hw (c_M_fail l k a (ma_sI y 0 0) 1 _) m_M_fail ml_M_58 (ga_recv hw (q0 := 0) rfl rfl) rfl rfl ⟨Nat.le_of_ble_eq_true rfl, Nat.le_of_ble_eq_true rfl⟩ rfl hl.1 rfl (Nat.le_of_ble_eq_true rfl) d_M_byteAt_33 ⟨Nat.le_of_ble_eq_true rfl, Nat.le_of_ble_eq_true rfl⟩ (fun r u H locs hp hw => ?_)
      obtain ⟨rfl, rfl⟩ := hp
      refine lv_goto (tgt := 55) hx hb d_M_byteAt_36 (by decide) ?_
      exact ga_iret (u := ma_sI (ma_sI y 0 0) 0 1) hC hr hlocks hw (Or.inl ⟨ha, rfl, ma_2s⟩) (Nat.le_of_ble_eq_true rfl) (Nat.le_of_ble_eq_true rfl) d_M_byteAt_55
    · exact absurd c_9 (by decide)
  · refine lv_aload_n hx hb d_M_byteAt_0 rfl (lv_at hl 0 rfl) ?_
    refine lv_iconst (v := 0) hx hb d_M_byteAt_1 (by decide) ?_
    refine mp_thrown hC hw fl_M_51 d_M_byteAt_2 (fun H locs hw => ?_)
    refine lv_aload_n hx hb d_M_byteAt_5 rfl (lv_at hl 0 rfl) ?_
    refine mg_arrived (v := y.1 14) hC hw fl_M_47 d_M_byteAt_6 rfl ?_
    refine ga_asi (v := nI e9) (ha) ?_
    refine lv_if_lt (tgt := 31) hx hb d_M_byteAt_9 (by decide) (fun c_9 => ?_) (fun c_9 => ?_)
    · exact absurd c_9 (nI_pos (by omega))
    · refine lv_iload_n hx hb d_M_byteAt_12 rfl (lv_at hl 1 rfl) ?_
      refine lv_iconst (v := 0) hx hb d_M_byteAt_13 (by decide) ?_
      refine lv_aload_n hx hb d_M_byteAt_14 rfl (lv_at hl 0 rfl) ?_
      refine mg_sizes hC hw fl_M_25 d_M_byteAt_15 ?_
      refine lv_aload_n hx hb d_M_byteAt_18 rfl (lv_at hl 0 rfl) ?_
      refine mg_arrived (v := y.1 14) hC hw fl_M_47 d_M_byteAt_19 rfl ?_
      refine ga_asi (v := nI e9) (ha) ?_
      refine mr_sizes (v := (ma_A y 5) e9) hC hw (vp_in_nI (by omega) (by decide)) d_M_byteAt_22 (by rw [nI_clamp (by omega)] <;> rfl) ?_
      refine ga_asi (v := nI s9) (es9) ?_
      refine lv_iconst (v := 1) hx hb d_M_byteAt_23 (by decide) ?_
      refine lv_isub hx hb d_M_byteAt_24 ?_
      refine ga_Si (As := [.int i9, .int 0, .int ((nI s9) - 1)]) (rest := []) hC hw (c_M_within l k a (ma_sI y 0 0) i9 0 ((nI s9) - 1) _) m_M_within ml_M_54 rfl rfl ⟨Nat.le_of_ble_eq_true rfl, Nat.le_of_ble_eq_true rfl⟩ rfl hl.1 rfl (Nat.le_of_ble_eq_true rfl) d_M_byteAt_25 ⟨Nat.le_of_ble_eq_true rfl, Nat.le_of_ble_eq_true rfl⟩ (fun r u H locs hp hw => ?_)
      obtain ⟨rfl, hp⟩ := hp
      rcases hp with ⟨rfl, ⟨h_25, g_25⟩⟩ | ⟨rfl, h_25⟩
      · refine lv_if_ne (tgt := 39) hx hb d_M_byteAt_28 (by decide) (fun c_28 => ?_) (fun c_28 => ?_)
        · obtain ⟨i, hi, ei⟩ := ma_ixs (by omega) h_25 g_25
          refine lv_aload_n hx hb d_M_byteAt_39 rfl (lv_at hl 0 rfl) ?_
          refine mg_said hC hw fl_M_32 d_M_byteAt_40 ?_
          refine lv_aload_n hx hb d_M_byteAt_43 rfl (lv_at hl 0 rfl) ?_
          refine mg_begins hC hw fl_M_22 d_M_byteAt_44 ?_
          refine lv_aload_n hx hb d_M_byteAt_47 rfl (lv_at hl 0 rfl) ?_
          refine mg_arrived (v := y.1 14) hC hw fl_M_47 d_M_byteAt_48 rfl ?_
          refine ga_asi (v := nI e9) (ha) ?_
          refine mr_begins (v := (ma_A y 4) e9) hC hw (vp_in_nI (by omega) (by decide)) d_M_byteAt_51 (by rw [nI_clamp (by omega)] <;> rfl) ?_
          refine ga_asi (v := nI b9) (eb9) ?_
          refine lv_iload_n hx hb d_M_byteAt_52 rfl (lv_at hl 1 rfl) ?_
          refine lv_iadd hx hb d_M_byteAt_53 ?_
          refine ga_asi (v := nI (b9 + i)) (by rw [ei]; exact nI_add _ _) ?_
          refine mr_said (v := (ma_A y 7) (b9 + i)) hC hw (vp_in_nI (by omega) (by decide)) d_M_byteAt_54 (by rw [nI_clamp (by omega)] <;> rfl) ?_
          exact ga_iret (u := ma_sI y 0 0) hC hr hlocks hw (Or.inr ⟨e9, b9, s9, he9, hbs, ha, eb9, es9, Or.inr ⟨i, hi, ei, rfl, rfl⟩⟩) (Nat.le_of_ble_eq_true rfl) (Nat.le_of_ble_eq_true rfl) d_M_byteAt_55
        · exact absurd c_28 (by decide)
      · refine lv_if_ne (tgt := 39) hx hb d_M_byteAt_28 (by decide) (fun c_28 => ?_) (fun c_28 => ?_)
        · exact absurd c_28 (by decide)
        · refine lv_aload_n hx hb d_M_byteAt_31 rfl (lv_at hl 0 rfl) ?_
          refine lv_iconst (v := 1) hx hb d_M_byteAt_32 (by decide) ?_
          refine ga_Vi (As := [.int 1]) (rest := []) hC hw (c_M_fail l k a (ma_sI y 0 0) 1 _) m_M_fail ml_M_58 (ga_recv hw (q0 := 0) rfl rfl) rfl rfl ⟨Nat.le_of_ble_eq_true rfl, Nat.le_of_ble_eq_true rfl⟩ rfl hl.1 rfl (Nat.le_of_ble_eq_true rfl) d_M_byteAt_33 ⟨Nat.le_of_ble_eq_true rfl, Nat.le_of_ble_eq_true rfl⟩ (fun r u H locs hp hw => ?_)
          obtain ⟨rfl, rfl⟩ := hp
          refine lv_goto (tgt := 55) hx hb d_M_byteAt_36 (by decide) ?_
          exact ga_iret (u := ma_sI (ma_sI y 0 0) 0 1) hC hr hlocks hw (Or.inr ⟨e9, b9, s9, he9, hbs, ha, eb9, es9, Or.inl ⟨ma_ixn (by omega) h_25, rfl, ma_2s⟩⟩) (Nat.le_of_ble_eq_true rfl) (Nat.le_of_ble_eq_true rfl) d_M_byteAt_55

set_option maxHeartbeats 4000000 in
set_option maxRecDepth 100000 in
theorem c_M_happened (l : Launch) (k : xa_k) (a : Nat → Nat) (y : MS) (k9 wh : Int32) (D : Nat) (hD : y.1 13 = nI D) (hD2 : D < 2 ^ 31) (ho : ∀ j, j < 32 → ∃ e, e < 1700 ∧ ma_A y 11 j = nI e) (sz : Nat) : Met l y_M_happened (Cond.code y_M_happened b_M_happened 5 (some .int) :: ga_T) ({ frames := 1, cells := 0, slots := 0, locals := 22 }) (va_Pc [.ref (a 0), .int k9, .int wh] (ga_pre (xa_K k) (ma_W k a y) sz)) (va_Qi (fun (r : Int32) (u : MS) => u = ma_sI y 0 0 ∧ ((r = -1 ∧ ((k9 < 0 ∨ 31 < k9) ∨ nI D ≤ k9 ∨ (wh < 0 ∨ 3 < wh))) ∨ (∃ i e, i < 32 ∧ i < D ∧ k9 = nI i ∧ (¬ wh < 0 ∧ ¬ 3 < wh) ∧ ma_A y 11 ((D - 1 - i) % 32) = nI e ∧ e < 1700 ∧ r = ma_hpd y wh ((D - 1 - i) % 32) e))) (ga_post (xa_K k) (ma_W k a y) sz (ma_W k a)) (va_A (ma_W k a y) sz)) 0 0 (va_A (ma_W k a y) sz) := by
  refine ga_Met (by decide) (Nat.le_of_ble_eq_true rfl) ?_
  intro p e s m below meth c hC hr hlocks _ hw ls hl
  have hx := hC.1
  have hb := hC.2.1
  have hl : lv_has ls 5 [(0, .ref (a 0)), (1, .int k9), (2, .int wh)] := hl
  refine lv_aload_n hx hb d_M_happened_0 rfl (lv_at hl 0 rfl) ?_
  refine lv_iconst (v := 0) hx hb d_M_happened_1 (by decide) ?_
  refine mp_thrown hC hw fl_M_51 d_M_happened_2 (fun H locs hw => ?_)
  refine lv_iload_n hx hb d_M_happened_5 rfl (lv_at hl 1 rfl) ?_
  refine lv_iconst (v := 0) hx hb d_M_happened_6 (by decide) ?_
  refine lv_bipush (v := 31) hx hb d_M_happened_7 (by decide) ?_
  refine ga_Si (As := [.int k9, .int 0, .int 31]) (rest := []) hC hw (c_M_within l k a (ma_sI y 0 0) k9 0 31 _) m_M_within ml_M_54 rfl rfl ⟨Nat.le_of_ble_eq_true rfl, Nat.le_of_ble_eq_true rfl⟩ rfl hl.1 rfl (Nat.le_of_ble_eq_true rfl) d_M_happened_9 ⟨Nat.le_of_ble_eq_true rfl, Nat.le_of_ble_eq_true rfl⟩ (fun r u H locs hp hw => ?_)
  obtain ⟨rfl, hp⟩ := hp
  rcases hp with ⟨rfl, ⟨h_9, g_9⟩⟩ | ⟨rfl, h_9⟩
  · refine lv_if_eq (tgt := 32) hx hb d_M_happened_12 (by decide) (fun c_12 => ?_) (fun c_12 => ?_)
    · exact absurd c_12 (by decide)
    · refine lv_iload_n hx hb d_M_happened_15 rfl (lv_at hl 1 rfl) ?_
      refine lv_aload_n hx hb d_M_happened_16 rfl (lv_at hl 0 rfl) ?_
      refine mg_done (v := y.1 13) hC hw fl_M_145 d_M_happened_17 rfl ?_
      refine ga_asi (v := nI D) (hD) ?_
      refine lv_icmp_ge (tgt := 32) hx hb d_M_happened_20 (by decide) (fun c_20 => ?_) (fun c_20 => ?_)
      · refine lv_iconst (v := (-1)) hx hb d_M_happened_32 (by decide) ?_
        exact ga_iret (u := ma_sI y 0 0) hC hr hlocks hw ⟨rfl, Or.inl ⟨rfl, Or.inr (Or.inl c_20)⟩⟩ (Nat.le_of_ble_eq_true rfl) (Nat.le_of_ble_eq_true rfl) d_M_happened_33
      · refine lv_iload_n hx hb d_M_happened_23 rfl (lv_at hl 2 rfl) ?_
        refine lv_iconst (v := 0) hx hb d_M_happened_24 (by decide) ?_
        refine lv_iconst (v := 3) hx hb d_M_happened_25 (by decide) ?_
        refine ga_Si (As := [.int wh, .int 0, .int 3]) (rest := []) hC hw (c_M_within l k a (ma_sI y 0 0) wh 0 3 _) m_M_within ml_M_54 rfl rfl ⟨Nat.le_of_ble_eq_true rfl, Nat.le_of_ble_eq_true rfl⟩ rfl hl.1 rfl (Nat.le_of_ble_eq_true rfl) d_M_happened_26 ⟨Nat.le_of_ble_eq_true rfl, Nat.le_of_ble_eq_true rfl⟩ (fun r u H locs hp hw => ?_)
        obtain ⟨rfl, hp⟩ := hp
        rcases hp with ⟨rfl, ⟨h_26, g_26⟩⟩ | ⟨rfl, h_26⟩
        · refine lv_if_ne (tgt := 34) hx hb d_M_happened_29 (by decide) (fun c_29 => ?_) (fun c_29 => ?_)
          · obtain ⟨i, hi, ei⟩ := ma_k31 h_9 g_9
            have hiD : i < D := Nat.lt_of_not_le (fun h => c_20 (by rw [ei]; exact nI_le h (by omega)))
            obtain ⟨e9, he9, ee9⟩ := ho ((D - 1 - i) % 32) (Nat.mod_lt _ (by decide))
            refine lv_aload_n hx hb d_M_happened_34 rfl (lv_at hl 0 rfl) ?_
            refine mg_done (v := y.1 13) hC hw fl_M_145 d_M_happened_35 rfl ?_
            refine ga_asi (v := nI D) (hD) ?_
            refine lv_iconst (v := 1) hx hb d_M_happened_38 (by decide) ?_
            refine lv_isub hx hb d_M_happened_39 ?_
            refine ga_asi (v := nI (D - 1)) (xa_pred (by omega)) ?_
            refine lv_iload_n hx hb d_M_happened_40 rfl (lv_at hl 1 rfl) ?_
            refine lv_isub hx hb d_M_happened_41 ?_
            refine ga_asi (v := nI (D - 1 - i)) (by rw [ei]; exact pk_sub (by omega)) ?_
            refine lv_bipush (v := 32) hx hb d_M_happened_42 (by decide) ?_
            refine lv_irem hx hb d_M_happened_44 (by decide) ?_
            refine ga_asi (v := nI ((D - 1 - i) % 32)) (ma_rem32 (by omega)) ?_
            refine lv_istore_n (lv' := [(3, .int (nI ((D - 1 - i) % 32))), (0, .ref (a 0)), (1, .int k9), (2, .int wh)]) hx hb d_M_happened_45 rfl hl (by decide) rfl (fun ls hl => ?_)
            refine lv_aload_n hx hb d_M_happened_46 rfl (lv_at hl 1 rfl) ?_
            refine mg_order hC hw fl_M_44 d_M_happened_47 ?_
            refine lv_iload_n hx hb d_M_happened_50 rfl (lv_at hl 0 rfl) ?_
            refine mr_order (v := (ma_A y 11) ((D - 1 - i) % 32)) hC hw (vp_in_nI (by omega) (by decide)) d_M_happened_51 (by rw [nI_clamp (by omega)] <;> rfl) ?_
            refine ga_asi (v := nI e9) (ee9) ?_
            refine lv_istore (lv' := [(4, .int (nI e9)), (3, .int (nI ((D - 1 - i) % 32))), (0, .ref (a 0)), (1, .int k9), (2, .int wh)]) hx hb d_M_happened_52 hl (by decide) rfl (fun ls hl => ?_)
            refine lv_iload_n hx hb d_M_happened_54 rfl (lv_at hl 4 rfl) ?_
            refine lv_iconst (v := 2) hx hb d_M_happened_55 (by decide) ?_
            refine lv_icmp_ge (tgt := 80) hx hb d_M_happened_56 (by decide) (fun c_56 => ?_) (fun c_56 => ?_)
            · refine lv_iload_n hx hb d_M_happened_80 rfl (lv_at hl 4 rfl) ?_
              refine lv_iconst (v := 2) hx hb d_M_happened_81 (by decide) ?_
              refine lv_icmp_ne (tgt := 90) hx hb d_M_happened_82 (by decide) (fun c_82 => ?_) (fun c_82 => ?_)
              · refine lv_aload_n hx hb d_M_happened_90 rfl (lv_at hl 2 rfl) ?_
                refine mg_froms hC hw fl_M_19 d_M_happened_91 ?_
                refine lv_iload hx hb d_M_happened_94 (lv_at hl 0 rfl) ?_
                refine mr_froms (v := (ma_A y 3) e9) hC hw (vp_in_nI (by omega) (by decide)) d_M_happened_96 (by rw [nI_clamp (by omega)] <;> rfl) ?_
                exact ga_iret (u := ma_sI y 0 0) hC hr hlocks hw ⟨rfl, Or.inr ⟨i, e9, hi, hiD, ei, ⟨h_26, g_26⟩, ee9, he9, by unfold ma_hpd; rw [if_pos c_56, if_neg c_82]⟩⟩ (Nat.le_of_ble_eq_true rfl) (Nat.le_of_ble_eq_true rfl) d_M_happened_97
              · refine lv_iload hx hb d_M_happened_85 (lv_at hl 0 rfl) ?_
                refine lv_goto (tgt := 97) hx hb d_M_happened_87 (by decide) ?_
                exact ga_iret (u := ma_sI y 0 0) hC hr hlocks hw ⟨rfl, Or.inr ⟨i, e9, hi, hiD, ei, ⟨h_26, g_26⟩, ee9, he9, by unfold ma_hpd; rw [if_pos c_56, if_pos c_82]⟩⟩ (Nat.le_of_ble_eq_true rfl) (Nat.le_of_ble_eq_true rfl) d_M_happened_97
            · refine lv_iload_n hx hb d_M_happened_59 rfl (lv_at hl 4 rfl) ?_
              refine lv_if_ne (tgt := 72) hx hb d_M_happened_60 (by decide) (fun c_60 => ?_) (fun c_60 => ?_)
              · refine lv_aload_n hx hb d_M_happened_72 rfl (lv_at hl 2 rfl) ?_
                refine mg_times hC hw fl_M_7 d_M_happened_73 ?_
                refine lv_iload hx hb d_M_happened_76 (lv_at hl 0 rfl) ?_
                refine mr_times (v := (ma_A y 0) e9) hC hw (vp_in_nI (by omega) (by decide)) d_M_happened_78 (by rw [nI_clamp (by omega)] <;> rfl) ?_
                exact ga_iret (u := ma_sI y 0 0) hC hr hlocks hw ⟨rfl, Or.inr ⟨i, e9, hi, hiD, ei, ⟨h_26, g_26⟩, ee9, he9, by unfold ma_hpd; rw [if_neg c_56, if_neg c_60]⟩⟩ (Nat.le_of_ble_eq_true rfl) (Nat.le_of_ble_eq_true rfl) d_M_happened_79
              · refine lv_aload_n hx hb d_M_happened_63 rfl (lv_at hl 2 rfl) ?_
                refine mg_codes hC hw fl_M_41 d_M_happened_64 ?_
                refine lv_iload_n hx hb d_M_happened_67 rfl (lv_at hl 1 rfl) ?_
                refine mr_codes (v := (ma_A y 10) ((D - 1 - i) % 32)) hC hw (vp_in_nI (by omega) (by decide)) d_M_happened_68 (by rw [nI_clamp (by omega)] <;> rfl) ?_
                refine lv_goto (tgt := 79) hx hb d_M_happened_69 (by decide) ?_
                exact ga_iret (u := ma_sI y 0 0) hC hr hlocks hw ⟨rfl, Or.inr ⟨i, e9, hi, hiD, ei, ⟨h_26, g_26⟩, ee9, he9, by unfold ma_hpd; rw [if_neg c_56, if_pos c_60]⟩⟩ (Nat.le_of_ble_eq_true rfl) (Nat.le_of_ble_eq_true rfl) d_M_happened_79
          · exact absurd c_29 (by decide)
        · refine lv_if_ne (tgt := 34) hx hb d_M_happened_29 (by decide) (fun c_29 => ?_) (fun c_29 => ?_)
          · exact absurd c_29 (by decide)
          · refine lv_iconst (v := (-1)) hx hb d_M_happened_32 (by decide) ?_
            exact ga_iret (u := ma_sI y 0 0) hC hr hlocks hw ⟨rfl, Or.inl ⟨rfl, Or.inr (Or.inr h_26)⟩⟩ (Nat.le_of_ble_eq_true rfl) (Nat.le_of_ble_eq_true rfl) d_M_happened_33
  · refine lv_if_eq (tgt := 32) hx hb d_M_happened_12 (by decide) (fun c_12 => ?_) (fun c_12 => ?_)
    · refine lv_iconst (v := (-1)) hx hb d_M_happened_32 (by decide) ?_
      exact ga_iret (u := ma_sI y 0 0) hC hr hlocks hw ⟨rfl, Or.inl ⟨rfl, Or.inl h_9⟩⟩ (Nat.le_of_ble_eq_true rfl) (Nat.le_of_ble_eq_true rfl) d_M_happened_33
    · exact absurd c_12 (by decide)

set_option maxHeartbeats 4000000 in
set_option maxRecDepth 100000 in
theorem c_M_when (l : Launch) (k : xa_k) (a : Nat → Nat) (y : MS) (e9 wh : Int32) (M : Nat) (hM : y.1 2 = nI M) (hM2 : M ≤ 1700) (sz : Nat) : Met l y_M_when (Cond.code y_M_when b_M_when 4 (some .int) :: ga_T) ({ frames := 1, cells := 0, slots := 0, locals := 24 }) (va_Pc [.ref (a 0), .int e9, .int wh] (ga_pre (xa_K k) (ma_W k a y) sz)) (va_Qi (fun (r : Int32) (u : MS) => (((e9 < 0 ∨ 15 < e9) ∨ (wh < 0 ∨ 1 < wh)) ∧ r = 0 ∧ u = ma_sI y 0 1) ∨ (((¬ e9 < 0 ∧ ¬ 15 < e9) ∧ (¬ wh < 0 ∧ ¬ 1 < wh)) ∧ u = ma_sI y 0 0 ∧ ∃ so, ((wh = 0 ∧ so = 1) ∨ (¬ wh = 0 ∧ so = 2)) ∧ ((r = -1 ∧ ∀ f, f < M → ¬ ma_mt y f so e9) ∨ (∃ b, b < M ∧ ma_mt y b so e9 ∧ (∀ f, b < f → f < M → ¬ ma_mt y f so e9) ∧ r = ma_A y 0 b)))) (ga_post (xa_K k) (ma_W k a y) sz (ma_W k a)) (va_A (ma_W k a y) sz)) 0 0 (va_A (ma_W k a y) sz) := by
  refine ga_Met (by decide) (Nat.le_of_ble_eq_true rfl) ?_
  intro p e s m below meth c hC hr hlocks _ hw ls hl
  have hx := hC.1
  have hb := hC.2.1
  have hl : lv_has ls 4 [(0, .ref (a 0)), (1, .int e9), (2, .int wh)] := hl
  refine lv_aload_n hx hb d_M_when_0 rfl (lv_at hl 0 rfl) ?_
  refine lv_iconst (v := 0) hx hb d_M_when_1 (by decide) ?_
  refine mp_thrown hC hw fl_M_51 d_M_when_2 (fun H locs hw => ?_)
  refine lv_iload_n hx hb d_M_when_5 rfl (lv_at hl 1 rfl) ?_
  refine ga_Si (As := [.int e9]) (rest := []) hC hw (c_M_isEnd l k a (ma_sI y 0 0) e9 _) m_M_isEnd ml_M_74 rfl rfl ⟨Nat.le_of_ble_eq_true rfl, Nat.le_of_ble_eq_true rfl⟩ rfl hl.1 rfl (Nat.le_of_ble_eq_true rfl) d_M_when_6 ⟨Nat.le_of_ble_eq_true rfl, Nat.le_of_ble_eq_true rfl⟩ (fun r u H locs hp hw => ?_)
  obtain ⟨rfl, hp⟩ := hp
  rcases hp with ⟨rfl, ⟨h_6, g_6⟩⟩ | ⟨rfl, h_6⟩
  · refine lv_if_eq (tgt := 21) hx hb d_M_when_9 (by decide) (fun c_9 => ?_) (fun c_9 => ?_)
    · exact absurd c_9 (by decide)
    · refine lv_iload_n hx hb d_M_when_12 rfl (lv_at hl 2 rfl) ?_
      refine lv_iconst (v := 0) hx hb d_M_when_13 (by decide) ?_
      refine lv_iconst (v := 1) hx hb d_M_when_14 (by decide) ?_
      refine ga_Si (As := [.int wh, .int 0, .int 1]) (rest := []) hC hw (c_M_within l k a (ma_sI y 0 0) wh 0 1 _) m_M_within ml_M_54 rfl rfl ⟨Nat.le_of_ble_eq_true rfl, Nat.le_of_ble_eq_true rfl⟩ rfl hl.1 rfl (Nat.le_of_ble_eq_true rfl) d_M_when_15 ⟨Nat.le_of_ble_eq_true rfl, Nat.le_of_ble_eq_true rfl⟩ (fun r u H locs hp hw => ?_)
      obtain ⟨rfl, hp⟩ := hp
      rcases hp with ⟨rfl, ⟨h_15, g_15⟩⟩ | ⟨rfl, h_15⟩
      · refine lv_if_ne (tgt := 27) hx hb d_M_when_18 (by decide) (fun c_18 => ?_) (fun c_18 => ?_)
        · refine lv_aload_n hx hb d_M_when_27 rfl (lv_at hl 0 rfl) ?_
          refine lv_iload_n hx hb d_M_when_28 rfl (lv_at hl 2 rfl) ?_
          refine lv_if_ne (tgt := 36) hx hb d_M_when_29 (by decide) (fun c_29 => ?_) (fun c_29 => ?_)
          · refine lv_iconst (v := 2) hx hb d_M_when_36 (by decide) ?_
            refine lv_iload_n hx hb d_M_when_37 rfl (lv_at hl 1 rfl) ?_
            refine ga_Vi (As := [.int 2, .int e9]) (rest := []) hC hw (c_M_find l k a (ma_sI y 0 0) 2 e9 M hM hM2 _) m_M_find ml_M_70 (ga_recv hw (q0 := 0) rfl rfl) rfl rfl ⟨Nat.le_of_ble_eq_true rfl, Nat.le_of_ble_eq_true rfl⟩ rfl hl.1 rfl (Nat.le_of_ble_eq_true rfl) d_M_when_38 ⟨Nat.le_of_ble_eq_true rfl, Nat.le_of_ble_eq_true rfl⟩ (fun r u H locs hp hw => ?_)
            obtain ⟨rfl, hp⟩ := hp
            rcases hp with ⟨rfl, h_38⟩ | ⟨b_38, hb_38, rfl, h_38, g_38⟩
            · refine lv_istore_n (lv' := [(3, .int ((-1))), (0, .ref (a 0)), (1, .int e9), (2, .int wh)]) hx hb d_M_when_41 rfl hl (by decide) rfl (fun ls hl => ?_)
              refine lv_iload_n hx hb d_M_when_42 rfl (lv_at hl 0 rfl) ?_
              refine lv_if_ge (tgt := 50) hx hb d_M_when_43 (by decide) (fun c_43 => ?_) (fun c_43 => ?_)
              · exact absurd c_43 (by decide)
              · refine lv_iconst (v := (-1)) hx hb d_M_when_46 (by decide) ?_
                refine lv_goto (tgt := 56) hx hb d_M_when_47 (by decide) ?_
                exact ga_iret (u := ma_sI y 0 0) hC hr hlocks hw (Or.inr ⟨⟨⟨h_6, g_6⟩, ⟨h_15, g_15⟩⟩, rfl, _, Or.inr ⟨c_29, rfl⟩, Or.inl ⟨rfl, h_38⟩⟩) (Nat.le_of_ble_eq_true rfl) (Nat.le_of_ble_eq_true rfl) d_M_when_56
            · refine lv_istore_n (lv' := [(3, .int (nI b_38)), (0, .ref (a 0)), (1, .int e9), (2, .int wh)]) hx hb d_M_when_41 rfl hl (by decide) rfl (fun ls hl => ?_)
              refine lv_iload_n hx hb d_M_when_42 rfl (lv_at hl 0 rfl) ?_
              refine lv_if_ge (tgt := 50) hx hb d_M_when_43 (by decide) (fun c_43 => ?_) (fun c_43 => ?_)
              · refine lv_aload_n hx hb d_M_when_50 rfl (lv_at hl 1 rfl) ?_
                refine mg_times hC hw fl_M_7 d_M_when_51 ?_
                refine lv_iload_n hx hb d_M_when_54 rfl (lv_at hl 0 rfl) ?_
                refine mr_times (v := (ma_A y 0) b_38) hC hw (vp_in_nI (by omega) (by decide)) d_M_when_55 (by rw [nI_clamp (by omega)] <;> rfl) ?_
                exact ga_iret (u := ma_sI y 0 0) hC hr hlocks hw (Or.inr ⟨⟨⟨h_6, g_6⟩, ⟨h_15, g_15⟩⟩, rfl, _, Or.inr ⟨c_29, rfl⟩, Or.inr ⟨b_38, hb_38, h_38, g_38, rfl⟩⟩) (Nat.le_of_ble_eq_true rfl) (Nat.le_of_ble_eq_true rfl) d_M_when_56
              · exact absurd (nI_pos' (by omega)) c_43
          · refine lv_iconst (v := 1) hx hb d_M_when_32 (by decide) ?_
            refine lv_goto (tgt := 37) hx hb d_M_when_33 (by decide) ?_
            refine lv_iload_n hx hb d_M_when_37 rfl (lv_at hl 1 rfl) ?_
            refine ga_Vi (As := [.int 1, .int e9]) (rest := []) hC hw (c_M_find l k a (ma_sI y 0 0) 1 e9 M hM hM2 _) m_M_find ml_M_70 (ga_recv hw (q0 := 0) rfl rfl) rfl rfl ⟨Nat.le_of_ble_eq_true rfl, Nat.le_of_ble_eq_true rfl⟩ rfl hl.1 rfl (Nat.le_of_ble_eq_true rfl) d_M_when_38 ⟨Nat.le_of_ble_eq_true rfl, Nat.le_of_ble_eq_true rfl⟩ (fun r u H locs hp hw => ?_)
            obtain ⟨rfl, hp⟩ := hp
            rcases hp with ⟨rfl, h_38⟩ | ⟨b_38, hb_38, rfl, h_38, g_38⟩
            · refine lv_istore_n (lv' := [(3, .int ((-1))), (0, .ref (a 0)), (1, .int e9), (2, .int wh)]) hx hb d_M_when_41 rfl hl (by decide) rfl (fun ls hl => ?_)
              refine lv_iload_n hx hb d_M_when_42 rfl (lv_at hl 0 rfl) ?_
              refine lv_if_ge (tgt := 50) hx hb d_M_when_43 (by decide) (fun c_43 => ?_) (fun c_43 => ?_)
              · exact absurd c_43 (by decide)
              · refine lv_iconst (v := (-1)) hx hb d_M_when_46 (by decide) ?_
                refine lv_goto (tgt := 56) hx hb d_M_when_47 (by decide) ?_
                exact ga_iret (u := ma_sI y 0 0) hC hr hlocks hw (Or.inr ⟨⟨⟨h_6, g_6⟩, ⟨h_15, g_15⟩⟩, rfl, _, Or.inl ⟨c_29, rfl⟩, Or.inl ⟨rfl, h_38⟩⟩) (Nat.le_of_ble_eq_true rfl) (Nat.le_of_ble_eq_true rfl) d_M_when_56
            · refine lv_istore_n (lv' := [(3, .int (nI b_38)), (0, .ref (a 0)), (1, .int e9), (2, .int wh)]) hx hb d_M_when_41 rfl hl (by decide) rfl (fun ls hl => ?_)
              refine lv_iload_n hx hb d_M_when_42 rfl (lv_at hl 0 rfl) ?_
              refine lv_if_ge (tgt := 50) hx hb d_M_when_43 (by decide) (fun c_43 => ?_) (fun c_43 => ?_)
              · refine lv_aload_n hx hb d_M_when_50 rfl (lv_at hl 1 rfl) ?_
                refine mg_times hC hw fl_M_7 d_M_when_51 ?_
                refine lv_iload_n hx hb d_M_when_54 rfl (lv_at hl 0 rfl) ?_
                refine mr_times (v := (ma_A y 0) b_38) hC hw (vp_in_nI (by omega) (by decide)) d_M_when_55 (by rw [nI_clamp (by omega)] <;> rfl) ?_
                exact ga_iret (u := ma_sI y 0 0) hC hr hlocks hw (Or.inr ⟨⟨⟨h_6, g_6⟩, ⟨h_15, g_15⟩⟩, rfl, _, Or.inl ⟨c_29, rfl⟩, Or.inr ⟨b_38, hb_38, h_38, g_38, rfl⟩⟩) (Nat.le_of_ble_eq_true rfl) (Nat.le_of_ble_eq_true rfl) d_M_when_56
              · exact absurd (nI_pos' (by omega)) c_43
        · exact absurd c_18 (by decide)
      · refine lv_if_ne (tgt := 27) hx hb d_M_when_18 (by decide) (fun c_18 => ?_) (fun c_18 => ?_)
        · exact absurd c_18 (by decide)
        · refine lv_aload_n hx hb d_M_when_21 rfl (lv_at hl 0 rfl) ?_
          refine lv_iconst (v := 1) hx hb d_M_when_22 (by decide) ?_
          refine ga_Vi (As := [.int 1]) (rest := []) hC hw (c_M_fail l k a (ma_sI y 0 0) 1 _) m_M_fail ml_M_58 (ga_recv hw (q0 := 0) rfl rfl) rfl rfl ⟨Nat.le_of_ble_eq_true rfl, Nat.le_of_ble_eq_true rfl⟩ rfl hl.1 rfl (Nat.le_of_ble_eq_true rfl) d_M_when_23 ⟨Nat.le_of_ble_eq_true rfl, Nat.le_of_ble_eq_true rfl⟩ (fun r u H locs hp hw => ?_)
          obtain ⟨rfl, rfl⟩ := hp
          exact ga_iret (u := ma_sI (ma_sI y 0 0) 0 1) hC hr hlocks hw (Or.inl ⟨Or.inr h_15, rfl, ma_2s⟩) (Nat.le_of_ble_eq_true rfl) (Nat.le_of_ble_eq_true rfl) d_M_when_26
  · refine lv_if_eq (tgt := 21) hx hb d_M_when_9 (by decide) (fun c_9 => ?_) (fun c_9 => ?_)
    · refine lv_aload_n hx hb d_M_when_21 rfl (lv_at hl 0 rfl) ?_
      refine lv_iconst (v := 1) hx hb d_M_when_22 (by decide) ?_
      refine ga_Vi (As := [.int 1]) (rest := []) hC hw (c_M_fail l k a (ma_sI y 0 0) 1 _) m_M_fail ml_M_58 (ga_recv hw (q0 := 0) rfl rfl) rfl rfl ⟨Nat.le_of_ble_eq_true rfl, Nat.le_of_ble_eq_true rfl⟩ rfl hl.1 rfl (Nat.le_of_ble_eq_true rfl) d_M_when_23 ⟨Nat.le_of_ble_eq_true rfl, Nat.le_of_ble_eq_true rfl⟩ (fun r u H locs hp hw => ?_)
      obtain ⟨rfl, rfl⟩ := hp
      exact ga_iret (u := ma_sI (ma_sI y 0 0) 0 1) hC hr hlocks hw (Or.inl ⟨Or.inl h_6, rfl, ma_2s⟩) (Nat.le_of_ble_eq_true rfl) (Nat.le_of_ble_eq_true rfl) d_M_when_26
    · exact absurd c_9 (by decide)

set_option maxHeartbeats 4000000 in
set_option maxRecDepth 100000 in
theorem c_M_count (l : Launch) (k : xa_k) (a : Nat → Nat) (y : MS) (wh : Int32) (ha : y.1 14 = -1 ∨ ∃ e, e < 1700 ∧ y.1 14 = nI e) (sz : Nat) : Met l y_M_count (Cond.code y_M_count b_M_count 2 (some .int) :: ga_T) ({ frames := 0, cells := 0, slots := 0, locals := 0 }) (va_Pc [.ref (a 0), .int wh] (ga_pre (xa_K k) (ma_W k a y) sz)) (va_Qi (fun (r : Int32) (u : MS) => u = ma_sI y 0 0 ∧ r = ma_cou y wh) (ga_post (xa_K k) (ma_W k a y) sz (ma_W k a)) (va_A (ma_W k a y) sz)) 0 0 (va_A (ma_W k a y) sz) := by
  refine ga_Met (by decide) (Nat.le_of_ble_eq_true rfl) ?_
  intro p e s m below meth c hC hr hlocks _ hw ls hl
  have hx := hC.1
  have hb := hC.2.1
  have hl : lv_has ls 2 [(0, .ref (a 0)), (1, .int wh)] := hl
  refine lv_aload_n hx hb d_M_count_0 rfl (lv_at hl 0 rfl) ?_
  refine lv_iconst (v := 0) hx hb d_M_count_1 (by decide) ?_
  refine mp_thrown hC hw fl_M_51 d_M_count_2 (fun H locs hw => ?_)
  refine lv_iload_n hx hb d_M_count_5 rfl (lv_at hl 1 rfl) ?_
  refine lv_if_lt (tgt := 15) hx hb d_M_count_6 (by decide) (fun c_6 => ?_) (fun c_6 => ?_)
  · refine lv_iconst (v := (-1)) hx hb d_M_count_15 (by decide) ?_
    exact ga_iret (u := ma_sI y 0 0) hC hr hlocks hw ⟨rfl, by unfold ma_cou; rw [if_pos (Or.inl c_6)]⟩ (Nat.le_of_ble_eq_true rfl) (Nat.le_of_ble_eq_true rfl) d_M_count_16
  · refine lv_iload_n hx hb d_M_count_9 rfl (lv_at hl 1 rfl) ?_
    refine lv_bipush (v := 7) hx hb d_M_count_10 (by decide) ?_
    refine lv_icmp_le (tgt := 17) hx hb d_M_count_12 (by decide) (fun c_12 => ?_) (fun c_12 => ?_)
    · refine lv_iload_n hx hb d_M_count_17 rfl (lv_at hl 1 rfl) ?_
      refine lv_iconst (v := 4) hx hb d_M_count_18 (by decide) ?_
      refine lv_icmp_ge (tgt := 62) hx hb d_M_count_19 (by decide) (fun c_19 => ?_) (fun c_19 => ?_)
      · refine lv_iload_n hx hb d_M_count_62 rfl (lv_at hl 1 rfl) ?_
        refine lv_iconst (v := 4) hx hb d_M_count_63 (by decide) ?_
        refine lv_icmp_ne (tgt := 74) hx hb d_M_count_64 (by decide) (fun c_64 => ?_) (fun c_64 => ?_)
        · refine lv_iload_n hx hb d_M_count_74 rfl (lv_at hl 1 rfl) ?_
          refine lv_iconst (v := 5) hx hb d_M_count_75 (by decide) ?_
          refine lv_icmp_ne (tgt := 86) hx hb d_M_count_76 (by decide) (fun c_76 => ?_) (fun c_76 => ?_)
          · refine lv_iload_n hx hb d_M_count_86 rfl (lv_at hl 1 rfl) ?_
            refine lv_bipush (v := 6) hx hb d_M_count_87 (by decide) ?_
            refine lv_icmp_ne (tgt := 99) hx hb d_M_count_89 (by decide) (fun c_89 => ?_) (fun c_89 => ?_)
            · refine lv_aload_n hx hb d_M_count_99 rfl (lv_at hl 0 rfl) ?_
              refine mg_arrived (v := y.1 14) hC hw fl_M_47 d_M_count_100 rfl ?_
              refine lv_if_ge (tgt := 110) hx hb d_M_count_103 (by decide) (fun c_103 => ?_) (fun c_103 => ?_)
              · refine lv_aload_n hx hb d_M_count_110 rfl (lv_at hl 0 rfl) ?_
                refine mg_sizes hC hw fl_M_25 d_M_count_111 ?_
                refine lv_aload_n hx hb d_M_count_114 rfl (lv_at hl 0 rfl) ?_
                refine mg_arrived (v := y.1 14) hC hw fl_M_47 d_M_count_115 rfl ?_
                refine mr_sizes (v := (ma_A y 5) (y.1 14).toNatClampNeg) hC hw (ma_inA ha c_103) d_M_count_118 rfl ?_
                exact ga_iret (u := ma_sI y 0 0) hC hr hlocks hw ⟨rfl, by unfold ma_cou; rw [if_neg (fun h => h.elim c_6 (fun h => h c_12)), if_pos c_19, if_neg c_64, if_neg c_76, if_neg c_89, if_pos c_103]⟩ (Nat.le_of_ble_eq_true rfl) (Nat.le_of_ble_eq_true rfl) d_M_count_119
              · refine lv_iconst (v := 0) hx hb d_M_count_106 (by decide) ?_
                refine lv_goto (tgt := 119) hx hb d_M_count_107 (by decide) ?_
                exact ga_iret (u := ma_sI y 0 0) hC hr hlocks hw ⟨rfl, by unfold ma_cou; rw [if_neg (fun h => h.elim c_6 (fun h => h c_12)), if_pos c_19, if_neg c_64, if_neg c_76, if_neg c_89, if_neg c_103]⟩ (Nat.le_of_ble_eq_true rfl) (Nat.le_of_ble_eq_true rfl) d_M_count_119
            · refine lv_aload_n hx hb d_M_count_92 rfl (lv_at hl 0 rfl) ?_
              refine mg_tape (v := y.1 4) hC hw fl_M_62 d_M_count_93 rfl ?_
              refine lv_goto (tgt := 119) hx hb d_M_count_96 (by decide) ?_
              exact ga_iret (u := ma_sI y 0 0) hC hr hlocks hw ⟨rfl, by unfold ma_cou; rw [if_neg (fun h => h.elim c_6 (fun h => h c_12)), if_pos c_19, if_neg c_64, if_neg c_76, if_pos c_89]⟩ (Nat.le_of_ble_eq_true rfl) (Nat.le_of_ble_eq_true rfl) d_M_count_119
          · refine lv_aload_n hx hb d_M_count_79 rfl (lv_at hl 0 rfl) ?_
            refine mg_made (v := y.1 2) hC hw fl_M_67 d_M_count_80 rfl ?_
            refine lv_goto (tgt := 119) hx hb d_M_count_83 (by decide) ?_
            exact ga_iret (u := ma_sI y 0 0) hC hr hlocks hw ⟨rfl, by unfold ma_cou; rw [if_neg (fun h => h.elim c_6 (fun h => h c_12)), if_pos c_19, if_neg c_64, if_pos c_76]⟩ (Nat.le_of_ble_eq_true rfl) (Nat.le_of_ble_eq_true rfl) d_M_count_119
        · refine lv_aload_n hx hb d_M_count_67 rfl (lv_at hl 0 rfl) ?_
          refine mg_done (v := y.1 13) hC hw fl_M_145 d_M_count_68 rfl ?_
          refine lv_goto (tgt := 119) hx hb d_M_count_71 (by decide) ?_
          exact ga_iret (u := ma_sI y 0 0) hC hr hlocks hw ⟨rfl, by unfold ma_cou; rw [if_neg (fun h => h.elim c_6 (fun h => h c_12)), if_pos c_19, if_pos c_64]⟩ (Nat.le_of_ble_eq_true rfl) (Nat.le_of_ble_eq_true rfl) d_M_count_119
      · refine lv_iload_n hx hb d_M_count_22 rfl (lv_at hl 1 rfl) ?_
        refine lv_if_ne (tgt := 33) hx hb d_M_count_23 (by decide) (fun c_23 => ?_) (fun c_23 => ?_)
        · refine lv_iload_n hx hb d_M_count_33 rfl (lv_at hl 1 rfl) ?_
          refine lv_iconst (v := 1) hx hb d_M_count_34 (by decide) ?_
          refine lv_icmp_ne (tgt := 45) hx hb d_M_count_35 (by decide) (fun c_35 => ?_) (fun c_35 => ?_)
          · refine lv_iload_n hx hb d_M_count_45 rfl (lv_at hl 1 rfl) ?_
            refine lv_iconst (v := 2) hx hb d_M_count_46 (by decide) ?_
            refine lv_icmp_ne (tgt := 57) hx hb d_M_count_47 (by decide) (fun c_47 => ?_) (fun c_47 => ?_)
            · refine lv_aload_n hx hb d_M_count_57 rfl (lv_at hl 0 rfl) ?_
              refine mg_lost (v := y.1 12) hC hw fl_M_110 d_M_count_58 rfl ?_
              exact ga_iret (u := ma_sI y 0 0) hC hr hlocks hw ⟨rfl, by unfold ma_cou; rw [if_neg (fun h => h.elim c_6 (fun h => h c_12)), if_neg c_19, if_neg c_23, if_neg c_35, if_neg c_47]⟩ (Nat.le_of_ble_eq_true rfl) (Nat.le_of_ble_eq_true rfl) d_M_count_61
            · refine lv_aload_n hx hb d_M_count_50 rfl (lv_at hl 0 rfl) ?_
              refine mg_sent (v := y.1 11) hC hw fl_M_113 d_M_count_51 rfl ?_
              refine lv_goto (tgt := 61) hx hb d_M_count_54 (by decide) ?_
              exact ga_iret (u := ma_sI y 0 0) hC hr hlocks hw ⟨rfl, by unfold ma_cou; rw [if_neg (fun h => h.elim c_6 (fun h => h c_12)), if_neg c_19, if_neg c_23, if_neg c_35, if_pos c_47]⟩ (Nat.le_of_ble_eq_true rfl) (Nat.le_of_ble_eq_true rfl) d_M_count_61
          · refine lv_aload_n hx hb d_M_count_38 rfl (lv_at hl 0 rfl) ?_
            refine mg_onTheWay (v := y.1 10) hC hw fl_M_107 d_M_count_39 rfl ?_
            refine lv_goto (tgt := 61) hx hb d_M_count_42 (by decide) ?_
            exact ga_iret (u := ma_sI y 0 0) hC hr hlocks hw ⟨rfl, by unfold ma_cou; rw [if_neg (fun h => h.elim c_6 (fun h => h c_12)), if_neg c_19, if_neg c_23, if_pos c_35]⟩ (Nat.le_of_ble_eq_true rfl) (Nat.le_of_ble_eq_true rfl) d_M_count_61
        · refine lv_aload_n hx hb d_M_count_26 rfl (lv_at hl 0 rfl) ?_
          refine mg_now (v := y.1 1) hC hw fl_M_83 d_M_count_27 rfl ?_
          refine lv_goto (tgt := 61) hx hb d_M_count_30 (by decide) ?_
          exact ga_iret (u := ma_sI y 0 0) hC hr hlocks hw ⟨rfl, by unfold ma_cou; rw [if_neg (fun h => h.elim c_6 (fun h => h c_12)), if_neg c_19, if_pos c_23]⟩ (Nat.le_of_ble_eq_true rfl) (Nat.le_of_ble_eq_true rfl) d_M_count_61
    · refine lv_iconst (v := (-1)) hx hb d_M_count_15 (by decide) ?_
      exact ga_iret (u := ma_sI y 0 0) hC hr hlocks hw ⟨rfl, by unfold ma_cou; rw [if_pos (Or.inr c_12)]⟩ (Nat.le_of_ble_eq_true rfl) (Nat.le_of_ble_eq_true rfl) d_M_count_16
