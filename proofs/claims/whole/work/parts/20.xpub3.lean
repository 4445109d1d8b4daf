set_option maxHeartbeats 4000000 in
set_option maxRecDepth 100000 in
theorem c_NetWires_when (l : Launch) (k : xa_k) (hst : l.stackTraces = false) (x : XS) (ep wh : Int32) (n : Nat) (h0 : xa_R0 x n) (sz : Nat) : vx_Met l y_NetWires_when (Cond.code y_NetWires_when b_NetWires_when 4 (some .int) :: ga_T) ({ frames := 7, cells := 2, slots := 12, locals := 102 }) (va_Pc [.ref (xa_a k 0), .int ep, .int wh] (ga_pre (xa_K k) (xa_W k x) sz)) (va_Qi (fun (r : Int32) (u : XS) => (¬ ep < 0 ∧ ¬ 15 < ep) ∧ x = u ∧ ∃ kd, ((wh = 0 ∧ kd = 32) ∨ (wh = 1 ∧ kd = 48)) ∧ ((r = -1 ∧ ∀ t, t < n → ¬ xa_mt x t kd ep) ∨ (∃ j, j < n ∧ xa_mt x j kd ep ∧ (∀ t, t < j → ¬ xa_mt x t kd ep) ∧ r = xa_at x j 3))) (ga_post (xa_K k) (xa_W k x) sz (xa_W k)) (va_A (xa_W k x) sz)) (ga_XC (xa_K k) (xa_W k x) sz (xa_W k) (fun E u => E = ga_IOB ∧ x = u ∧ ((ep < 0 ∨ 15 < ep) ∨ (¬ wh = 0 ∧ ¬ wh = 1)))) 2 12 (va_A (xa_W k x) sz) := by
  refine ga_MetX (by decide) (Nat.le_of_ble_eq_true rfl) ?_
  intro p e s m below meth c hC hr hlocks hT hw ls hl
  have hx := hC.1
  have hb := hC.2.1
  have hl : lv_has ls 4 [(0, .ref (xa_a k 0)), (1, .int ep), (2, .int wh)] := hl
  refine lv_iload_n hx hb d_NetWires_when_0 rfl (lv_at hl 1 rfl) ?_
  refine ga_Sxv (As := [.int ep]) (rest := []) hC hw (c_NetWires_demandEndpoint l k hst x ep _) m_NetWires_demandEndpoint ml_NetWires_100 rfl rfl ⟨Nat.le_of_ble_eq_true rfl, Nat.le_of_ble_eq_true rfl⟩ rfl hl.1 rfl (Nat.le_of_ble_eq_true rfl) d_NetWires_when_1 ⟨Nat.le_of_ble_eq_true rfl, Nat.le_of_ble_eq_true rfl⟩ (fun E ce q9 u H locs hp hw g1 g2 g3 => ?_) (fun u H locs hp hw => ?_)
  · obtain ⟨rfl, rfl, h_1⟩ := hp
    exact ga_out hT hlocks hw ⟨rfl, rfl, Or.inl h_1⟩ g1 g2 g3 (Nat.le_of_ble_eq_true rfl) (Nat.le_of_ble_eq_true rfl)
  · obtain ⟨rfl, h_1, g_1⟩ := hp
    refine lv_iload_n hx hb d_NetWires_when_4 rfl (lv_at hl 2 rfl) ?_
    refine lv_if_eq (tgt := 23) hx hb d_NetWires_when_5 (by decide) (fun c_5 => ?_) (fun c_5 => ?_)
    · refine lv_aload_n hx hb d_NetWires_when_23 rfl (lv_at hl 0 rfl) ?_
      refine xg_NetWires_agenda hC hw fl_NetWires_19 d_NetWires_when_24 ?_
      refine lv_aload_n hx hb d_NetWires_when_27 rfl (lv_at hl 0 rfl) ?_
      refine xg_NetWires_agenda hC hw fl_NetWires_19 d_NetWires_when_28 ?_
      refine lv_iload_n hx hb d_NetWires_when_31 rfl (lv_at hl 2 rfl) ?_
      refine lv_if_ne (tgt := 40) hx hb d_NetWires_when_32 (by decide) (fun c_32 => ?_) (fun c_32 => ?_)
      · exact absurd c_5 c_32
      · refine lv_bipush (v := 32) hx hb d_NetWires_when_35 (by decide) ?_
        refine lv_goto (tgt := 42) hx hb d_NetWires_when_37 (by decide) ?_
        refine lv_iload_n hx hb d_NetWires_when_42 rfl (lv_at hl 1 rfl) ?_
        refine ga_Vi (As := [.int 32, .int ep]) (rest := [.ref (xa_a k 3)]) hC hw (c_Agenda_placeOfTimer l k x 32 ep n h0 _) m_Agenda_placeOfTimer ml_NetWires_203 (ga_recv hw (q0 := 3) rfl rfl) rfl rfl ⟨Nat.le_of_ble_eq_true rfl, Nat.le_of_ble_eq_true rfl⟩ rfl hl.1 rfl (Nat.le_of_ble_eq_true rfl) d_NetWires_when_43 ⟨Nat.le_of_ble_eq_true rfl, Nat.le_of_ble_eq_true rfl⟩ (fun r u H locs hp hw => ?_)
        obtain ⟨rfl, hp⟩ := hp
        rcases hp with ⟨rfl, h_43⟩ | ⟨j_43, hj_43, rfl, h_43, g_43⟩
        · refine ga_Vq (As := [.int ((-1))]) (rest := []) hC hw (c_Agenda_at l k x ((-1)) n h0 _) m_Agenda_at ml_NetWires_145 (ga_recv hw (q0 := 3) rfl rfl) rfl rfl ⟨Nat.le_of_ble_eq_true rfl, Nat.le_of_ble_eq_true rfl⟩ rfl hl.1 rfl (Nat.le_of_ble_eq_true rfl) d_NetWires_when_46 ⟨Nat.le_of_ble_eq_true rfl, Nat.le_of_ble_eq_true rfl⟩ (fun r u H locs hp hw => ?_)
          obtain ⟨rfl, hp⟩ := hp
          rcases hp with ⟨rfl, h_46⟩ | ⟨j_46, hj_46, ej_46, rfl⟩
          · refine lv_astore_nN (lv' := [(3, .null), (0, .ref (xa_a k 0)), (1, .int ep), (2, .int wh)]) hx hb d_NetWires_when_49 rfl hl (by decide) rfl (fun ls hl => ?_)
            refine lv_aload_nN hx hb d_NetWires_when_50 rfl (lv_at hl 0 rfl) ?_
            refine lv_ifnonnullN hx hb d_NetWires_when_51 ?_
            refine lv_iconst (v := (-1)) hx hb d_NetWires_when_54 (by decide) ?_
            refine lv_goto (tgt := 62) hx hb d_NetWires_when_55 (by decide) ?_
            exact vx_ret (ga_iret (u := x) hC hr hlocks hw ⟨⟨h_1, g_1⟩, rfl, 32, Or.inl ⟨c_5, rfl⟩, Or.inl ⟨rfl, h_43⟩⟩ (Nat.le_of_ble_eq_true rfl) (Nat.le_of_ble_eq_true rfl) d_NetWires_when_62)
          · exact absurd ej_46 (xa_m1 (by have := h0.2.1; omega))
        · refine ga_Vq (As := [.int (nI j_43)]) (rest := []) hC hw (c_Agenda_at l k x (nI j_43) n h0 _) m_Agenda_at ml_NetWires_145 (ga_recv hw (q0 := 3) rfl rfl) rfl rfl ⟨Nat.le_of_ble_eq_true rfl, Nat.le_of_ble_eq_true rfl⟩ rfl hl.1 rfl (Nat.le_of_ble_eq_true rfl) d_NetWires_when_46 ⟨Nat.le_of_ble_eq_true rfl, Nat.le_of_ble_eq_true rfl⟩ (fun r u H locs hp hw => ?_)
          obtain ⟨rfl, hp⟩ := hp
          rcases hp with ⟨rfl, h_46⟩ | ⟨j_46, hj_46, ej_46, rfl⟩
          · exact absurd (xa_nix h0.2.1 h_46 rfl hj_43) id
          · obtain rfl := xa_inj h0.2.1 hj_43 hj_46 ej_46
            refine lv_astore_n (lv' := [(3, .ref (xa_ad x j_43)), (0, .ref (xa_a k 0)), (1, .int ep), (2, .int wh)]) hx hb d_NetWires_when_49 rfl hl (by decide) rfl (fun ls hl => ?_)
            refine lv_aload_n hx hb d_NetWires_when_50 rfl (lv_at hl 0 rfl) ?_
            refine lv_ifnonnull (tgt := 58) hx hb d_NetWires_when_51 (by decide) ?_
            refine lv_aload_n hx hb d_NetWires_when_58 rfl (lv_at hl 0 rfl) ?_
            refine xe_time hC hw (h0.get hj_43).2 fl_NetWires_148 d_NetWires_when_59 ?_
            exact vx_ret (ga_iret (u := x) hC hr hlocks hw ⟨⟨h_1, g_1⟩, rfl, 32, Or.inl ⟨c_5, rfl⟩, Or.inr ⟨j_43, hj_43, h_43, g_43, rfl⟩⟩ (Nat.le_of_ble_eq_true rfl) (Nat.le_of_ble_eq_true rfl) d_NetWires_when_62)
    · refine lv_iload_n hx hb d_NetWires_when_8 rfl (lv_at hl 2 rfl) ?_
      refine lv_iconst (v := 1) hx hb d_NetWires_when_9 (by decide) ?_
      refine lv_icmp_eq (tgt := 23) hx hb d_NetWires_when_10 (by decide) (fun c_10 => ?_) (fun c_10 => ?_)
      · refine lv_aload_n hx hb d_NetWires_when_23 rfl (lv_at hl 0 rfl) ?_
        refine xg_NetWires_agenda hC hw fl_NetWires_19 d_NetWires_when_24 ?_
        refine lv_aload_n hx hb d_NetWires_when_27 rfl (lv_at hl 0 rfl) ?_
        refine xg_NetWires_agenda hC hw fl_NetWires_19 d_NetWires_when_28 ?_
        refine lv_iload_n hx hb d_NetWires_when_31 rfl (lv_at hl 2 rfl) ?_
        refine lv_if_ne (tgt := 40) hx hb d_NetWires_when_32 (by decide) (fun c_32 => ?_) (fun c_32 => ?_)
        · refine lv_bipush (v := 48) hx hb d_NetWires_when_40 (by decide) ?_
          refine lv_iload_n hx hb d_NetWires_when_42 rfl (lv_at hl 1 rfl) ?_
          refine ga_Vi (As := [.int 48, .int ep]) (rest := [.ref (xa_a k 3)]) hC hw (c_Agenda_placeOfTimer l k x 48 ep n h0 _) m_Agenda_placeOfTimer ml_NetWires_203 (ga_recv hw (q0 := 3) rfl rfl) rfl rfl ⟨Nat.le_of_ble_eq_true rfl, Nat.le_of_ble_eq_true rfl⟩ rfl hl.1 rfl (Nat.le_of_ble_eq_true rfl) d_NetWires_when_43 ⟨Nat.le_of_ble_eq_true rfl, Nat.le_of_ble_eq_true rfl⟩ (fun r u H locs hp hw => ?_)
          obtain ⟨rfl, hp⟩ := hp
          rcases hp with ⟨rfl, h_43⟩ | ⟨j_43, hj_43, rfl, h_43, g_43⟩
          · refine ga_Vq (As := [.int ((-1))]) (rest := []) hC hw (c_Agenda_at l k x ((-1)) n h0 _) m_Agenda_at ml_NetWires_145 (ga_recv hw (q0 := 3) rfl rfl) rfl rfl ⟨Nat.le_of_ble_eq_true rfl, Nat.le_of_ble_eq_true rfl⟩ rfl hl.1 rfl (Nat.le_of_ble_eq_true rfl) d_NetWires_when_46 ⟨Nat.le_of_ble_eq_true rfl, Nat.le_of_ble_eq_true rfl⟩ (fun r u H locs hp hw => ?_)
            obtain ⟨rfl, hp⟩ := hp
            rcases hp with ⟨rfl, h_46⟩ | ⟨j_46, hj_46, ej_46, rfl⟩
            · refine lv_astore_nN (lv' := [(3, .null), (0, .ref (xa_a k 0)), (1, .int ep), (2, .int wh)]) hx hb d_NetWires_when_49 rfl hl (by decide) rfl (fun ls hl => ?_)
              refine lv_aload_nN hx hb d_NetWires_when_50 rfl (lv_at hl 0 rfl) ?_
              refine lv_ifnonnullN hx hb d_NetWires_when_51 ?_
              refine lv_iconst (v := (-1)) hx hb d_NetWires_when_54 (by decide) ?_
              refine lv_goto (tgt := 62) hx hb d_NetWires_when_55 (by decide) ?_
              exact vx_ret (ga_iret (u := x) hC hr hlocks hw ⟨⟨h_1, g_1⟩, rfl, 48, Or.inr ⟨c_10, rfl⟩, Or.inl ⟨rfl, h_43⟩⟩ (Nat.le_of_ble_eq_true rfl) (Nat.le_of_ble_eq_true rfl) d_NetWires_when_62)
            · exact absurd ej_46 (xa_m1 (by have := h0.2.1; omega))
          · refine ga_Vq (As := [.int (nI j_43)]) (rest := []) hC hw (c_Agenda_at l k x (nI j_43) n h0 _) m_Agenda_at ml_NetWires_145 (ga_recv hw (q0 := 3) rfl rfl) rfl rfl ⟨Nat.le_of_ble_eq_true rfl, Nat.le_of_ble_eq_true rfl⟩ rfl hl.1 rfl (Nat.le_of_ble_eq_true rfl) d_NetWires_when_46 ⟨Nat.le_of_ble_eq_true rfl, Nat.le_of_ble_eq_true rfl⟩ (fun r u H locs hp hw => ?_)
            obtain ⟨rfl, hp⟩ := hp
            rcases hp with ⟨rfl, h_46⟩ | ⟨j_46, hj_46, ej_46, rfl⟩
            · exact absurd (xa_nix h0.2.1 h_46 rfl hj_43) id
            · obtain rfl := xa_inj h0.2.1 hj_43 hj_46 ej_46
              refine lv_astore_n (lv' := [(3, .ref (xa_ad x j_43)), (0, .ref (xa_a k 0)), (1, .int ep), (2, .int wh)]) hx hb d_NetWires_when_49 rfl hl (by decide) rfl (fun ls hl => ?_)
              refine lv_aload_n hx hb d_NetWires_when_50 rfl (lv_at hl 0 rfl) ?_
              refine lv_ifnonnull (tgt := 58) hx hb d_NetWires_when_51 (by decide) ?_
              refine lv_aload_n hx hb d_NetWires_when_58 rfl (lv_at hl 0 rfl) ?_
              refine xe_time hC hw (h0.get hj_43).2 fl_NetWires_148 d_NetWires_when_59 ?_
              exact vx_ret (ga_iret (u := x) hC hr hlocks hw ⟨⟨h_1, g_1⟩, rfl, 48, Or.inr ⟨c_10, rfl⟩, Or.inr ⟨j_43, hj_43, h_43, g_43, rfl⟩⟩ (Nat.le_of_ble_eq_true rfl) (Nat.le_of_ble_eq_true rfl) d_NetWires_when_62)
        · exact absurd c_32 c_5
      · exact ga_thIOB (u := x) hst hC hT hlocks hw hl.1 (is := 201) (tx := "no such timer") (by decide +kernel) ⟨rfl, rfl, Or.inr ⟨c_5, c_10⟩⟩ d_NetWires_when_13 d_NetWires_when_16 d_NetWires_when_17 d_NetWires_when_19 d_NetWires_when_22 (Nat.le_of_ble_eq_true rfl) (Nat.le_of_ble_eq_true rfl) (Nat.le_of_ble_eq_true rfl) (Nat.le_of_ble_eq_true rfl) (Nat.le_of_ble_eq_true rfl) (Nat.le_of_ble_eq_true rfl)

set_option maxHeartbeats 4000000 in
set_option maxRecDepth 100000 in
theorem c_NetWires_message (l : Launch) (k : xa_k) (x : XS) (k9 wh : Int32) (n : Nat) (bl : Nat → Nat) (bf : Nat → Nat → Int32) (h0 : xa_R0 x n) (hBs : ∀ j, j < n → xa_isB k (xa_P x) (xa_b (xa_P x) (xa_ad x j)) (bl j) (bf j)) (sz : Nat) : Met l y_NetWires_message (Cond.code y_NetWires_message b_NetWires_message 4 (some .int) :: ga_T) ({ frames := 2, cells := 0, slots := 0, locals := 45 }) (va_Pc [.ref (xa_a k 0), .int k9, .int wh] (ga_pre (xa_K k) (xa_W k x) sz)) (va_Qi (fun (r : Int32) (u : XS) => x = u ∧ ((r = -1 ∧ xa_nom x n k9) ∨ (∃ j, xa_isM x n k9 j ∧ ((wh = nI 0 ∧ r = xa_at x j 2) ∨ (wh = nI 1 ∧ r = xa_at x j 1) ∨ (wh = nI 2 ∧ r = xa_at x j 3) ∨ (wh = nI 3 ∧ r = xa_at x j 4) ∨ (wh = nI 4 ∧ r = nI (bl j)) ∨ ((wh.toInt < 0 ∨ 4 < wh.toInt) ∧ r = -1))))) (ga_post (xa_K k) (xa_W k x) sz (xa_W k)) (va_A (xa_W k x) sz)) 0 0 (va_A (xa_W k x) sz) := by
  refine ga_Met (by decide) (Nat.le_of_ble_eq_true rfl) ?_
  intro p e s m below meth c hC hr hlocks _ hw ls hl
  have hx := hC.1
  have hb := hC.2.1
  have hl : lv_has ls 4 [(0, .ref (xa_a k 0)), (1, .int k9), (2, .int wh)] := hl
  refine lv_aload_n hx hb d_NetWires_message_0 rfl (lv_at hl 0 rfl) ?_
  refine xg_NetWires_agenda hC hw fl_NetWires_19 d_NetWires_message_1 ?_
  refine lv_aload_n hx hb d_NetWires_message_4 rfl (lv_at hl 0 rfl) ?_
  refine xg_NetWires_agenda hC hw fl_NetWires_19 d_NetWires_message_5 ?_
  refine lv_iload_n hx hb d_NetWires_message_8 rfl (lv_at hl 1 rfl) ?_
  refine ga_Vi (As := [.int k9]) (rest := [.ref (xa_a k 3)]) hC hw (c_Agenda_placeOfMessage l k x k9 n h0 _) m_Agenda_placeOfMessage ml_NetWires_171 (ga_recv hw (q0 := 3) rfl rfl) rfl rfl ⟨Nat.le_of_ble_eq_true rfl, Nat.le_of_ble_eq_true rfl⟩ rfl hl.1 rfl (Nat.le_of_ble_eq_true rfl) d_NetWires_message_9 ⟨Nat.le_of_ble_eq_true rfl, Nat.le_of_ble_eq_true rfl⟩ (fun r u H locs hp hw => ?_)
  obtain ⟨rfl, hp⟩ := hp
  rcases hp with ⟨rfl, h_9⟩ | ⟨j_9, hj_9, rfl, h_9, g_9⟩
  · refine ga_Vq (As := [.int ((-1))]) (rest := []) hC hw (c_Agenda_at l k x ((-1)) n h0 _) m_Agenda_at ml_NetWires_145 (ga_recv hw (q0 := 3) rfl rfl) rfl rfl ⟨Nat.le_of_ble_eq_true rfl, Nat.le_of_ble_eq_true rfl⟩ rfl hl.1 rfl (Nat.le_of_ble_eq_true rfl) d_NetWires_message_12 ⟨Nat.le_of_ble_eq_true rfl, Nat.le_of_ble_eq_true rfl⟩ (fun r u H locs hp hw => ?_)
    obtain ⟨rfl, hp⟩ := hp
    rcases hp with ⟨rfl, h_12⟩ | ⟨j_12, hj_12, ej_12, rfl⟩
    · refine lv_astore_nN (lv' := [(3, .null), (0, .ref (xa_a k 0)), (1, .int k9), (2, .int wh)]) hx hb d_NetWires_message_15 rfl hl (by decide) rfl (fun ls hl => ?_)
      refine lv_aload_nN hx hb d_NetWires_message_16 rfl (lv_at hl 0 rfl) ?_
      refine lv_ifnonnullN hx hb d_NetWires_message_17 ?_
      refine lv_iconst (v := (-1)) hx hb d_NetWires_message_20 (by decide) ?_
      exact ga_iret (u := x) hC hr hlocks hw ⟨rfl, Or.inl ⟨rfl, h_9⟩⟩ (Nat.le_of_ble_eq_true rfl) (Nat.le_of_ble_eq_true rfl) d_NetWires_message_21
    · exact absurd ej_12 (xa_m1 (by have := h0.2.1; omega))
  · refine ga_Vq (As := [.int (nI j_9)]) (rest := []) hC hw (c_Agenda_at l k x (nI j_9) n h0 _) m_Agenda_at ml_NetWires_145 (ga_recv hw (q0 := 3) rfl rfl) rfl rfl ⟨Nat.le_of_ble_eq_true rfl, Nat.le_of_ble_eq_true rfl⟩ rfl hl.1 rfl (Nat.le_of_ble_eq_true rfl) d_NetWires_message_12 ⟨Nat.le_of_ble_eq_true rfl, Nat.le_of_ble_eq_true rfl⟩ (fun r u H locs hp hw => ?_)
    obtain ⟨rfl, hp⟩ := hp
    rcases hp with ⟨rfl, h_12⟩ | ⟨j_12, hj_12, ej_12, rfl⟩
    · exact absurd (xa_nix h0.2.1 h_12 rfl hj_9) id
    · obtain rfl := xa_inj h0.2.1 hj_9 hj_12 ej_12
      refine lv_astore_n (lv' := [(3, .ref (xa_ad x j_9)), (0, .ref (xa_a k 0)), (1, .int k9), (2, .int wh)]) hx hb d_NetWires_message_15 rfl hl (by decide) rfl (fun ls hl => ?_)
      refine lv_aload_n hx hb d_NetWires_message_16 rfl (lv_at hl 0 rfl) ?_
      refine lv_ifnonnull (tgt := 22) hx hb d_NetWires_message_17 (by decide) ?_
      refine lv_iload_n hx hb d_NetWires_message_22 rfl (lv_at hl 3 rfl) ?_
      rcases xa_sw 4 (by decide) wh with ⟨j_23, hj_23, e_23⟩ | h_23
      · rcases (show j_23 = 0 ∨ j_23 = 1 ∨ j_23 = 2 ∨ j_23 = 3 ∨ j_23 = 4 by omega) with rfl | rfl | rfl | rfl | rfl
        · refine ga_asi (v := nI 0) e_23 ?_
          refine lv_tableIn (off := 33) (tgt := 56) hx hb d_NetWires_message_23 (by decide) (by decide) rfl (by decide) ?_
          refine lv_aload_n hx hb d_NetWires_message_56 rfl (lv_at hl 0 rfl) ?_
          refine xe_from hC hw (h0.get hj_9).2 fl_NetWires_175 d_NetWires_message_57 ?_
          exact ga_iret (u := x) hC hr hlocks hw ⟨rfl, Or.inr ⟨j_9, ⟨hj_9, h_9, g_9⟩, Or.inl ⟨e_23, rfl⟩⟩⟩ (Nat.le_of_ble_eq_true rfl) (Nat.le_of_ble_eq_true rfl) d_NetWires_message_60
        · refine ga_asi (v := nI 1) e_23 ?_
          refine lv_tableIn (off := 38) (tgt := 61) hx hb d_NetWires_message_23 (by decide) (by decide) rfl (by decide) ?_
          refine lv_aload_n hx hb d_NetWires_message_61 rfl (lv_at hl 0 rfl) ?_
          refine xe_endpoint hC hw (h0.get hj_9).2 fl_NetWires_178 d_NetWires_message_62 ?_
          exact ga_iret (u := x) hC hr hlocks hw ⟨rfl, Or.inr ⟨j_9, ⟨hj_9, h_9, g_9⟩, Or.inr (Or.inl ⟨e_23, rfl⟩)⟩⟩ (Nat.le_of_ble_eq_true rfl) (Nat.le_of_ble_eq_true rfl) d_NetWires_message_65
        · refine ga_asi (v := nI 2) e_23 ?_
          refine lv_tableIn (off := 43) (tgt := 66) hx hb d_NetWires_message_23 (by decide) (by decide) rfl (by decide) ?_
          refine lv_aload_n hx hb d_NetWires_message_66 rfl (lv_at hl 0 rfl) ?_
          refine xe_time hC hw (h0.get hj_9).2 fl_NetWires_148 d_NetWires_message_67 ?_
          exact ga_iret (u := x) hC hr hlocks hw ⟨rfl, Or.inr ⟨j_9, ⟨hj_9, h_9, g_9⟩, Or.inr (Or.inr (Or.inl ⟨e_23, rfl⟩))⟩⟩ (Nat.le_of_ble_eq_true rfl) (Nat.le_of_ble_eq_true rfl) d_NetWires_message_70
        · refine ga_asi (v := nI 3) e_23 ?_
          refine lv_tableIn (off := 48) (tgt := 71) hx hb d_NetWires_message_23 (by decide) (by decide) rfl (by decide) ?_
          refine lv_aload_n hx hb d_NetWires_message_71 rfl (lv_at hl 0 rfl) ?_
          refine xe_number hC hw (h0.get hj_9).2 fl_NetWires_188 d_NetWires_message_72 ?_
          exact ga_iret (u := x) hC hr hlocks hw ⟨rfl, Or.inr ⟨j_9, ⟨hj_9, h_9, g_9⟩, Or.inr (Or.inr (Or.inr (Or.inl ⟨e_23, rfl⟩)))⟩⟩ (Nat.le_of_ble_eq_true rfl) (Nat.le_of_ble_eq_true rfl) d_NetWires_message_75
        · refine ga_asi (v := nI 4) e_23 ?_
          refine lv_tableIn (off := 53) (tgt := 76) hx hb d_NetWires_message_23 (by decide) (by decide) rfl (by decide) ?_
          refine lv_aload_n hx hb d_NetWires_message_76 rfl (lv_at hl 0 rfl) ?_
          refine xe_bytes hC hw (h0.get hj_9).2 fl_NetWires_181 d_NetWires_message_77 ?_
          refine xr_len (v := nI (bl j_9)) hC hw (hBs j_9 hj_9) d_NetWires_message_80 rfl ?_
          exact ga_iret (u := x) hC hr hlocks hw ⟨rfl, Or.inr ⟨j_9, ⟨hj_9, h_9, g_9⟩, Or.inr (Or.inr (Or.inr (Or.inr (Or.inl ⟨e_23, rfl⟩))))⟩⟩ (Nat.le_of_ble_eq_true rfl) (Nat.le_of_ble_eq_true rfl) d_NetWires_message_81
      · refine lv_tableOut (tgt := 82) hx hb d_NetWires_message_23 h_23 (by decide) ?_
        refine lv_iconst (v := (-1)) hx hb d_NetWires_message_82 (by decide) ?_
        exact ga_iret (u := x) hC hr hlocks hw ⟨rfl, Or.inr ⟨j_9, ⟨hj_9, h_9, g_9⟩, Or.inr (Or.inr (Or.inr (Or.inr (Or.inr (⟨h_23, rfl⟩)))))⟩⟩ (Nat.le_of_ble_eq_true rfl) (Nat.le_of_ble_eq_true rfl) d_NetWires_message_83

set_option maxHeartbeats 4000000 in
set_option maxRecDepth 100000 in
theorem c_NetWires_messageAt (l : Launch) (k : xa_k) (hst : l.stackTraces = false) (x : XS) (k9 i9 : Int32) (n : Nat) (bl : Nat → Nat) (bf : Nat → Nat → Int32) (h0 : xa_R0 x n) (hBs : ∀ j, j < n → xa_isB k (xa_P x) (xa_b (xa_P x) (xa_ad x j)) (bl j) (bf j)) (hbl : ∀ j, j < n → bl j < 4000) (sz : Nat) : vx_Met l y_NetWires_messageAt (Cond.code y_NetWires_messageAt b_NetWires_messageAt 4 (some .int) :: ga_T) ({ frames := 6, cells := 1, slots := 6, locals := 82 }) (va_Pc [.ref (xa_a k 0), .int k9, .int i9] (ga_pre (xa_K k) (xa_W k x) sz)) (va_Qi (fun (r : Int32) (u : XS) => x = u ∧ ∃ j i, xa_isM x n k9 j ∧ i < bl j ∧ i9 = nI i ∧ r = bf j i &&& 255) (ga_post (xa_K k) (xa_W k x) sz (xa_W k)) (va_A (xa_W k x) sz)) (ga_XC (xa_K k) (xa_W k x) sz (xa_W k) (fun E u => E = ga_IOB ∧ x = u ∧ (xa_nom x n k9 ∨ ∃ j, xa_isM x n k9 j ∧ (i9 < 0 ∨ nI (bl j) ≤ i9)))) 1 6 (va_A (xa_W k x) sz) := by
  refine ga_MetX (by decide) (Nat.le_of_ble_eq_true rfl) ?_
  intro p e s m below meth c hC hr hlocks hT hw ls hl
  have hx := hC.1
  have hb := hC.2.1
  have hl : lv_has ls 4 [(0, .ref (xa_a k 0)), (1, .int k9), (2, .int i9)] := hl
  refine lv_aload_n hx hb d_NetWires_messageAt_0 rfl (lv_at hl 0 rfl) ?_
  refine xg_NetWires_agenda hC hw fl_NetWires_19 d_NetWires_messageAt_1 ?_
  refine lv_aload_n hx hb d_NetWires_messageAt_4 rfl (lv_at hl 0 rfl) ?_
  refine xg_NetWires_agenda hC hw fl_NetWires_19 d_NetWires_messageAt_5 ?_
  refine lv_iload_n hx hb d_NetWires_messageAt_8 rfl (lv_at hl 1 rfl) ?_
  refine ga_Vi (As := [.int k9]) (rest := [.ref (xa_a k 3)]) hC hw (c_Agenda_placeOfMessage l k x k9 n h0 _) m_Agenda_placeOfMessage ml_NetWires_171 (ga_recv hw (q0 := 3) rfl rfl) rfl rfl ⟨Nat.le_of_ble_eq_true rfl, Nat.le_of_ble_eq_true rfl⟩ rfl hl.1 rfl (Nat.le_of_ble_eq_true rfl) d_NetWires_messageAt_9 ⟨Nat.le_of_ble_eq_true rfl, Nat.le_of_ble_eq_true rfl⟩ (fun r u H locs hp hw => ?_)
  obtain ⟨rfl, hp⟩ := hp
  rcases hp with ⟨rfl, h_9⟩ | ⟨j_9, hj_9, rfl, h_9, g_9⟩
  · refine ga_Vq (As := [.int ((-1))]) (rest := []) hC hw (c_Agenda_at l k x ((-1)) n h0 _) m_Agenda_at ml_NetWires_145 (ga_recv hw (q0 := 3) rfl rfl) rfl rfl ⟨Nat.le_of_ble_eq_true rfl, Nat.le_of_ble_eq_true rfl⟩ rfl hl.1 rfl (Nat.le_of_ble_eq_true rfl) d_NetWires_messageAt_12 ⟨Nat.le_of_ble_eq_true rfl, Nat.le_of_ble_eq_true rfl⟩ (fun r u H locs hp hw => ?_)
    obtain ⟨rfl, hp⟩ := hp
    rcases hp with ⟨rfl, h_12⟩ | ⟨j_12, hj_12, ej_12, rfl⟩
    · refine lv_astore_nN (lv' := [(3, .null), (0, .ref (xa_a k 0)), (1, .int k9), (2, .int i9)]) hx hb d_NetWires_messageAt_15 rfl hl (by decide) rfl (fun ls hl => ?_)
      refine lv_aload_nN hx hb d_NetWires_messageAt_16 rfl (lv_at hl 0 rfl) ?_
      refine lv_ifnonnullN hx hb d_NetWires_messageAt_17 ?_
      exact ga_thIOB (u := x) hst hC hT hlocks hw hl.1 (is := 193) (tx := "no such message") (by decide +kernel) ⟨rfl, rfl, Or.inl h_9⟩ d_NetWires_messageAt_20 d_NetWires_messageAt_23 d_NetWires_messageAt_24 d_NetWires_messageAt_26 d_NetWires_messageAt_29 (Nat.le_of_ble_eq_true rfl) (Nat.le_of_ble_eq_true rfl) (Nat.le_of_ble_eq_true rfl) (Nat.le_of_ble_eq_true rfl) (Nat.le_of_ble_eq_true rfl) (Nat.le_of_ble_eq_true rfl)
    · exact absurd ej_12 (xa_m1 (by have := h0.2.1; omega))
  · refine ga_Vq (As := [.int (nI j_9)]) (rest := []) hC hw (c_Agenda_at l k x (nI j_9) n h0 _) m_Agenda_at ml_NetWires_145 (ga_recv hw (q0 := 3) rfl rfl) rfl rfl ⟨Nat.le_of_ble_eq_true rfl, Nat.le_of_ble_eq_true rfl⟩ rfl hl.1 rfl (Nat.le_of_ble_eq_true rfl) d_NetWires_messageAt_12 ⟨Nat.le_of_ble_eq_true rfl, Nat.le_of_ble_eq_true rfl⟩ (fun r u H locs hp hw => ?_)
    obtain ⟨rfl, hp⟩ := hp
    rcases hp with ⟨rfl, h_12⟩ | ⟨j_12, hj_12, ej_12, rfl⟩
    · exact absurd (xa_nix h0.2.1 h_12 rfl hj_9) id
    · obtain rfl := xa_inj h0.2.1 hj_9 hj_12 ej_12
      refine lv_astore_n (lv' := [(3, .ref (xa_ad x j_9)), (0, .ref (xa_a k 0)), (1, .int k9), (2, .int i9)]) hx hb d_NetWires_messageAt_15 rfl hl (by decide) rfl (fun ls hl => ?_)
      refine lv_aload_n hx hb d_NetWires_messageAt_16 rfl (lv_at hl 0 rfl) ?_
      refine lv_ifnonnull (tgt := 30) hx hb d_NetWires_messageAt_17 (by decide) ?_
      refine lv_iload_n hx hb d_NetWires_messageAt_30 rfl (lv_at hl 3 rfl) ?_
      refine lv_if_lt (tgt := 43) hx hb d_NetWires_messageAt_31 (by decide) (fun c_31 => ?_) (fun c_31 => ?_)
      · exact ga_thIOB (u := x) hst hC hT hlocks hw hl.1 (is := 196) (tx := "no such byte") (by decide +kernel) ⟨rfl, rfl, Or.inr ⟨j_9, ⟨hj_9, h_9, g_9⟩, Or.inl c_31⟩⟩ d_NetWires_messageAt_43 d_NetWires_messageAt_46 d_NetWires_messageAt_47 d_NetWires_messageAt_49 d_NetWires_messageAt_52 (Nat.le_of_ble_eq_true rfl) (Nat.le_of_ble_eq_true rfl) (Nat.le_of_ble_eq_true rfl) (Nat.le_of_ble_eq_true rfl) (Nat.le_of_ble_eq_true rfl) (Nat.le_of_ble_eq_true rfl)
      · refine lv_iload_n hx hb d_NetWires_messageAt_34 rfl (lv_at hl 3 rfl) ?_
        refine lv_aload_n hx hb d_NetWires_messageAt_35 rfl (lv_at hl 0 rfl) ?_
        refine xe_bytes hC hw (h0.get hj_9).2 fl_NetWires_181 d_NetWires_messageAt_36 ?_
        refine xr_len (v := nI (bl j_9)) hC hw (hBs j_9 hj_9) d_NetWires_messageAt_39 rfl ?_
        refine lv_icmp_lt (tgt := 53) hx hb d_NetWires_messageAt_40 (by decide) (fun c_40 => ?_) (fun c_40 => ?_)
        · obtain ⟨i, hi, ei⟩ := xa_ix2 (n := bl j_9) (by have := hbl j_9 hj_9; omega) c_31 c_40
          refine lv_aload_n hx hb d_NetWires_messageAt_53 rfl (lv_at hl 0 rfl) ?_
          refine xe_bytes hC hw (h0.get hj_9).2 fl_NetWires_181 d_NetWires_messageAt_54 ?_
          refine lv_iload_n hx hb d_NetWires_messageAt_57 rfl (lv_at hl 3 rfl) ?_
          refine xr_byte (v := (bf j_9) i9.toNatClampNeg) hC hw (hBs j_9 hj_9) (by rw [ei]; exact vp_in_nI hi (by have := hbl j_9 hj_9; omega)) d_NetWires_messageAt_58 rfl ?_
          refine lv_sipush (v := 255) hx hb d_NetWires_messageAt_59 (by decide) ?_
          refine lv_iand hx hb d_NetWires_messageAt_62 ?_
          exact vx_ret (ga_iret (u := x) hC hr hlocks hw ⟨rfl, j_9, i, ⟨hj_9, h_9, g_9⟩, hi, ei, by rw [ei, nI_clamp (by have := hbl j_9 hj_9; omega)]⟩ (Nat.le_of_ble_eq_true rfl) (Nat.le_of_ble_eq_true rfl) d_NetWires_messageAt_63)
        · exact ga_thIOB (u := x) hst hC hT hlocks hw hl.1 (is := 196) (tx := "no such byte") (by decide +kernel) ⟨rfl, rfl, Or.inr ⟨j_9, ⟨hj_9, h_9, g_9⟩, Or.inr (Int32.not_lt.mp c_40)⟩⟩ d_NetWires_messageAt_43 d_NetWires_messageAt_46 d_NetWires_messageAt_47 d_NetWires_messageAt_49 d_NetWires_messageAt_52 (Nat.le_of_ble_eq_true rfl) (Nat.le_of_ble_eq_true rfl) (Nat.le_of_ble_eq_true rfl) (Nat.le_of_ble_eq_true rfl) (Nat.le_of_ble_eq_true rfl) (Nat.le_of_ble_eq_true rfl)

set_option maxHeartbeats 4000000 in
set_option maxRecDepth 100000 in
theorem c_NetWires_meddle (l : Launch) (k : xa_k) (hst : l.stackTraces = false) (x : XS) (k9 wh ti : Int32) (n : Nat) (h0 : xa_R0 x n) (hep : ∀ j, j < n → xa_at x j 0 = 0 → ∃ a9 b9, a9 < 16 ∧ xa_at x j 2 = nI a9 ∧ b9 < 16 ∧ xa_at x j 1 = nI b9) (hn : x.1 8 < 200 → n < 232) (sz : Nat) : vx_Met l y_NetWires_meddle (Cond.code y_NetWires_meddle b_NetWires_meddle 6 (some .boolean) :: ga_T) ({ frames := 6, cells := 1, slots := 6, locals := 114 }) (va_Pc [.ref (xa_a k 0), .int k9, .int wh, .int ti] (ga_pre (xa_K k) (xa_W k x) sz)) (va_Qi (fun (r : Int32) (u : XS) => ((wh = 2 ∧ ¬ ti < 0 ∧ ¬ 1000 < ti) ∨ ((wh = 0 ∨ wh = 1) ∧ ti = 0)) ∧ ((r = 0 ∧ x = u ∧ xa_nom x n k9) ∨ (r = 1 ∧ ∃ j, xa_isM x n k9 j ∧ ((wh = 1 ∧ ∃ a9 b9 r2, a9 < 16 ∧ xa_at x j 2 = nI a9 ∧ b9 < 16 ∧ xa_at x j 1 = nI b9 ∧ xa_lau x n a9 b9 (xa_at x j 2) (xa_at x j 1) 0 (xa_b (xa_P x) (xa_ad x j)) r2 u) ∨ (wh = 0 ∧ u = xa_sI (xa_take x n j) 5 ((xa_take x n j).1 5 + 1)) ∨ (wh = 2 ∧ xa_addP (xa_take x n j) (n - 1) (xa_at x j 2) (xa_at x j 1) (xa_at x j 3 + ti) (xa_b (xa_P x) (xa_ad x j)) u))))) (ga_post (xa_K k) (xa_W k x) sz (xa_W k)) (va_A (xa_W k x) sz)) (ga_XC (xa_K k) (xa_W k x) sz (xa_W k) (fun E u => E = ga_IAE ∧ x = u ∧ ¬ ((wh = 2 ∧ ¬ ti < 0 ∧ ¬ 1000 < ti) ∨ ((wh = 0 ∨ wh = 1) ∧ ti = 0)))) 1 6 (va_A (xa_W k x) sz) := by
  refine ga_MetX (by decide) (Nat.le_of_ble_eq_true rfl) ?_
  intro p e s m below meth c hC hr hlocks hT hw ls hl
  have hx := hC.1
  have hb := hC.2.1
  have hl : lv_has ls 6 [(0, .ref (xa_a k 0)), (1, .int k9), (2, .int wh), (3, .int ti)] := hl
  refine lv_iload_n hx hb d_NetWires_meddle_0 rfl (lv_at hl 2 rfl) ?_
  refine lv_iload_n hx hb d_NetWires_meddle_1 rfl (lv_at hl 3 rfl) ?_
  refine ga_Si (As := [.int wh, .int ti]) (rest := []) hC hw (c_NetWires_canMeddle l k x wh ti _) m_NetWires_canMeddle ml_NetWires_166 rfl rfl ⟨Nat.le_of_ble_eq_true rfl, Nat.le_of_ble_eq_true rfl⟩ rfl hl.1 rfl (Nat.le_of_ble_eq_true rfl) d_NetWires_meddle_2 ⟨Nat.le_of_ble_eq_true rfl, Nat.le_of_ble_eq_true rfl⟩ (fun r u H locs hp hw => ?_)
  obtain ⟨rfl, hp⟩ := hp
  rcases hp with ⟨rfl, h_2⟩ | ⟨rfl, h_2⟩
  · refine lv_if_ne (tgt := 18) hx hb d_NetWires_meddle_5 (by decide) (fun c_5 => ?_) (fun c_5 => ?_)
    · refine lv_aload_n hx hb d_NetWires_meddle_18 rfl (lv_at hl 0 rfl) ?_
      refine xg_NetWires_agenda hC hw fl_NetWires_19 d_NetWires_meddle_19 ?_
      refine lv_iload_n hx hb d_NetWires_meddle_22 rfl (lv_at hl 1 rfl) ?_
      refine ga_Vi (As := [.int k9]) (rest := []) hC hw (c_Agenda_placeOfMessage l k x k9 n h0 _) m_Agenda_placeOfMessage ml_NetWires_171 (ga_recv hw (q0 := 3) rfl rfl) rfl rfl ⟨Nat.le_of_ble_eq_true rfl, Nat.le_of_ble_eq_true rfl⟩ rfl hl.1 rfl (Nat.le_of_ble_eq_true rfl) d_NetWires_meddle_23 ⟨Nat.le_of_ble_eq_true rfl, Nat.le_of_ble_eq_true rfl⟩ (fun r u H locs hp hw => ?_)
      obtain ⟨rfl, hp⟩ := hp
      rcases hp with ⟨rfl, h_23⟩ | ⟨j_23, hj_23, rfl, h_23, g_23⟩
      · refine lv_istore (lv' := [(4, .int ((-1))), (0, .ref (xa_a k 0)), (1, .int k9), (2, .int wh), (3, .int ti)]) hx hb d_NetWires_meddle_26 hl (by decide) rfl (fun ls hl => ?_)
        refine lv_aload_n hx hb d_NetWires_meddle_28 rfl (lv_at hl 1 rfl) ?_
        refine xg_NetWires_agenda hC hw fl_NetWires_19 d_NetWires_meddle_29 ?_
        refine lv_iload hx hb d_NetWires_meddle_32 (lv_at hl 0 rfl) ?_
        refine ga_Vq (As := [.int ((-1))]) (rest := []) hC hw (c_Agenda_at l k x ((-1)) n h0 _) m_Agenda_at ml_NetWires_145 (ga_recv hw (q0 := 3) rfl rfl) rfl rfl ⟨Nat.le_of_ble_eq_true rfl, Nat.le_of_ble_eq_true rfl⟩ rfl hl.1 rfl (Nat.le_of_ble_eq_true rfl) d_NetWires_meddle_34 ⟨Nat.le_of_ble_eq_true rfl, Nat.le_of_ble_eq_true rfl⟩ (fun r u H locs hp hw => ?_)
        obtain ⟨rfl, hp⟩ := hp
        rcases hp with ⟨rfl, h_34⟩ | ⟨j_34, hj_34, ej_34, rfl⟩
        · refine lv_astoreN (lv' := [(5, .null), (4, .int ((-1))), (0, .ref (xa_a k 0)), (1, .int k9), (2, .int wh), (3, .int ti)]) hx hb d_NetWires_meddle_37 hl (by decide) rfl (fun ls hl => ?_)
          refine lv_aloadN hx hb d_NetWires_meddle_39 (lv_at hl 0 rfl) ?_
          refine lv_ifnonnullN hx hb d_NetWires_meddle_41 ?_
          refine lv_iconst (v := 0) hx hb d_NetWires_meddle_44 (by decide) ?_
          exact vx_ret (ga_zret (u := x) hC hr hlocks hw (Or.inl rfl) ⟨h_2, Or.inl ⟨rfl, rfl, h_23⟩⟩ (Nat.le_of_ble_eq_true rfl) (Nat.le_of_ble_eq_true rfl) d_NetWires_meddle_45)
        · exact absurd ej_34 (xa_m1 (by have := h0.2.1; omega))
      · refine lv_istore (lv' := [(4, .int (nI j_23)), (0, .ref (xa_a k 0)), (1, .int k9), (2, .int wh), (3, .int ti)]) hx hb d_NetWires_meddle_26 hl (by decide) rfl (fun ls hl => ?_)
        refine lv_aload_n hx hb d_NetWires_meddle_28 rfl (lv_at hl 1 rfl) ?_
        refine xg_NetWires_agenda hC hw fl_NetWires_19 d_NetWires_meddle_29 ?_
        refine lv_iload hx hb d_NetWires_meddle_32 (lv_at hl 0 rfl) ?_
        refine ga_Vq (As := [.int (nI j_23)]) (rest := []) hC hw (c_Agenda_at l k x (nI j_23) n h0 _) m_Agenda_at ml_NetWires_145 (ga_recv hw (q0 := 3) rfl rfl) rfl rfl ⟨Nat.le_of_ble_eq_true rfl, Nat.le_of_ble_eq_true rfl⟩ rfl hl.1 rfl (Nat.le_of_ble_eq_true rfl) d_NetWires_meddle_34 ⟨Nat.le_of_ble_eq_true rfl, Nat.le_of_ble_eq_true rfl⟩ (fun r u H locs hp hw => ?_)
        obtain ⟨rfl, hp⟩ := hp
        rcases hp with ⟨rfl, h_34⟩ | ⟨j_34, hj_34, ej_34, rfl⟩
        · exact absurd (xa_nix h0.2.1 h_34 rfl hj_23) id
        · obtain rfl := xa_inj h0.2.1 hj_23 hj_34 ej_34
          refine lv_astore (lv' := [(5, .ref (xa_ad x j_23)), (4, .int (nI j_23)), (0, .ref (xa_a k 0)), (1, .int k9), (2, .int wh), (3, .int ti)]) hx hb d_NetWires_meddle_37 hl (by decide) rfl (fun ls hl => ?_)
          refine lv_aload hx hb d_NetWires_meddle_39 (lv_at hl 0 rfl) ?_
          refine lv_ifnonnull (tgt := 46) hx hb d_NetWires_meddle_41 (by decide) ?_
          refine lv_iload_n hx hb d_NetWires_meddle_46 rfl (lv_at hl 4 rfl) ?_
          refine lv_iconst (v := 1) hx hb d_NetWires_meddle_47 (by decide) ?_
          refine lv_icmp_ne (tgt := 74) hx hb d_NetWires_meddle_48 (by decide) (fun c_48 => ?_) (fun c_48 => ?_)
          · refine lv_aload_n hx hb d_NetWires_meddle_74 rfl (lv_at hl 2 rfl) ?_
            refine xg_NetWires_agenda hC hw fl_NetWires_19 d_NetWires_meddle_75 ?_
            refine lv_iload hx hb d_NetWires_meddle_78 (lv_at hl 1 rfl) ?_
            refine ga_Vq (As := [.int (nI j_23)]) (rest := []) hC hw (c_Agenda_takeAt l k x (nI j_23) n h0 _) m_Agenda_takeAt ml_NetWires_132 (ga_recv hw (q0 := 3) rfl rfl) rfl rfl ⟨Nat.le_of_ble_eq_true rfl, Nat.le_of_ble_eq_true rfl⟩ rfl hl.1 rfl (Nat.le_of_ble_eq_true rfl) d_NetWires_meddle_80 ⟨Nat.le_of_ble_eq_true rfl, Nat.le_of_ble_eq_true rfl⟩ (fun r u H locs hp hw => ?_)
            rcases hp with ⟨rfl, rfl, h_80⟩ | ⟨j_80, hj_80, ej_80, rfl, rfl⟩
            · exact absurd (xa_nix h0.2.1 h_80 rfl hj_23) id
            · obtain rfl := xa_inj h0.2.1 hj_23 hj_80 ej_80
              have hE9 : xa_isE (xa_P (xa_take x n j_23)) (xa_ad x j_23) (xa_v (xa_P x) (xa_ad x j_23)) (xa_b (xa_P x) (xa_ad x j_23)) := by rw [xa_take_P]; exact (h0.get hj_23).2
              refine lv_pop hx hb d_NetWires_meddle_83 rfl ?_
              refine lv_iload_n hx hb d_NetWires_meddle_84 rfl (lv_at hl 4 rfl) ?_
              refine lv_if_ne (tgt := 101) hx hb d_NetWires_meddle_85 (by decide) (fun c_85 => ?_) (fun c_85 => ?_)
              · refine lv_aload_n hx hb d_NetWires_meddle_101 rfl (lv_at hl 2 rfl) ?_
                refine lv_aload hx hb d_NetWires_meddle_102 (lv_at hl 0 rfl) ?_
                refine xe_from hC hw hE9 fl_NetWires_175 d_NetWires_meddle_104 ?_
                refine lv_aload hx hb d_NetWires_meddle_107 (lv_at hl 0 rfl) ?_
                refine xe_endpoint hC hw hE9 fl_NetWires_178 d_NetWires_meddle_109 ?_
                refine lv_aload hx hb d_NetWires_meddle_112 (lv_at hl 0 rfl) ?_
                refine xe_time hC hw hE9 fl_NetWires_148 d_NetWires_meddle_114 ?_
                refine lv_iload_n hx hb d_NetWires_meddle_117 rfl (lv_at hl 5 rfl) ?_
                refine lv_iadd hx hb d_NetWires_meddle_118 ?_
                refine lv_aload hx hb d_NetWires_meddle_119 (lv_at hl 0 rfl) ?_
                refine xe_bytes hC hw hE9 fl_NetWires_181 d_NetWires_meddle_121 ?_
                refine ga_Vv (As := [.int (xa_v (xa_P x) (xa_ad x j_23) 2), .int (xa_v (xa_P x) (xa_ad x j_23) 1), .int ((xa_v (xa_P x) (xa_ad x j_23) 3) + ti), .ref (xa_b (xa_P x) (xa_ad x j_23))]) (rest := []) hC hw (c_NetWires_addMessage l k (xa_take x n j_23) (xa_v (xa_P x) (xa_ad x j_23) 2) (xa_v (xa_P x) (xa_ad x j_23) 1) ((xa_v (xa_P x) (xa_ad x j_23) 3) + ti) (xa_b (xa_P x) (xa_ad x j_23)) (n - 1) (h0.take hj_23) (by have := h0.2.1; omega) _) m_NetWires_addMessage ml_NetWires_184 (ga_recv hw (q0 := 0) rfl rfl) rfl rfl ⟨Nat.le_of_ble_eq_true rfl, Nat.le_of_ble_eq_true rfl⟩ rfl hl.1 rfl (Nat.le_of_ble_eq_true rfl) d_NetWires_meddle_124 ⟨Nat.le_of_ble_eq_true rfl, Nat.le_of_ble_eq_true rfl⟩ (fun u H locs hp hw => ?_)
                have hp_124 := hp
                refine lv_iconst (v := 1) hx hb d_NetWires_meddle_127 (by decide) ?_
                exact vx_ret (ga_zret (u := u) hC hr hlocks hw (Or.inr rfl) ⟨h_2, Or.inr ⟨rfl, j_23, ⟨hj_23, h_23, g_23⟩, Or.inr (Or.inr ⟨h_2.elim (fun h => h.1) (fun h => absurd h.1 (fun h3 => h3.elim c_85 c_48)), hp_124⟩)⟩⟩ (Nat.le_of_ble_eq_true rfl) (Nat.le_of_ble_eq_true rfl) d_NetWires_meddle_128)
              · refine lv_aload_n hx hb d_NetWires_meddle_88 rfl (lv_at hl 2 rfl) ?_
                refine lv_dup hx hb d_NetWires_meddle_89 rfl ?_
                refine xg_NetWires_lost (v := (xa_take x n j_23).1 5) hC hw fl_NetWires_63 d_NetWires_meddle_90 rfl ?_
                refine lv_iconst (v := 1) hx hb d_NetWires_meddle_93 (by decide) ?_
                refine lv_iadd hx hb d_NetWires_meddle_94 ?_
                refine xp_NetWires_lost hC hw fl_NetWires_63 d_NetWires_meddle_95 (fun H locs hw => ?_)
                refine lv_goto (tgt := 127) hx hb d_NetWires_meddle_98 (by decide) ?_
                refine lv_iconst (v := 1) hx hb d_NetWires_meddle_127 (by decide) ?_
                exact vx_ret (ga_zret (u := xa_sI (xa_take x n j_23) 5 (((xa_take x n j_23).1 5) + 1)) hC hr hlocks hw (Or.inr rfl) ⟨h_2, Or.inr ⟨rfl, j_23, ⟨hj_23, h_23, g_23⟩, Or.inr (Or.inl ⟨c_85, rfl⟩)⟩⟩ (Nat.le_of_ble_eq_true rfl) (Nat.le_of_ble_eq_true rfl) d_NetWires_meddle_128)
          · obtain ⟨a9, b9, ha9, ea9, hb9, eb9⟩ := hep j_23 hj_23 h_23
            refine lv_aload_n hx hb d_NetWires_meddle_51 rfl (lv_at hl 2 rfl) ?_
            refine lv_aload hx hb d_NetWires_meddle_52 (lv_at hl 0 rfl) ?_
            refine xe_from hC hw (h0.get hj_23).2 fl_NetWires_175 d_NetWires_meddle_54 ?_
            refine lv_aload hx hb d_NetWires_meddle_57 (lv_at hl 0 rfl) ?_
            refine xe_endpoint hC hw (h0.get hj_23).2 fl_NetWires_178 d_NetWires_meddle_59 ?_
            refine lv_iconst (v := 0) hx hb d_NetWires_meddle_62 (by decide) ?_
            refine lv_aload hx hb d_NetWires_meddle_63 (lv_at hl 0 rfl) ?_
            refine xe_bytes hC hw (h0.get hj_23).2 fl_NetWires_181 d_NetWires_meddle_65 ?_
            refine ga_Vi (As := [.int (xa_v (xa_P x) (xa_ad x j_23) 2), .int (xa_v (xa_P x) (xa_ad x j_23) 1), .int 0, .ref (xa_b (xa_P x) (xa_ad x j_23))]) (rest := []) hC hw (c_NetWires_launch l k x (xa_v (xa_P x) (xa_ad x j_23) 2) (xa_v (xa_P x) (xa_ad x j_23) 1) 0 (xa_b (xa_P x) (xa_ad x j_23)) n a9 b9 h0 ea9 ha9 eb9 hb9 hn _) m_NetWires_launch ml_NetWires_116 (ga_recv hw (q0 := 0) rfl rfl) rfl rfl ⟨Nat.le_of_ble_eq_true rfl, Nat.le_of_ble_eq_true rfl⟩ rfl hl.1 rfl (Nat.le_of_ble_eq_true rfl) d_NetWires_meddle_68 ⟨Nat.le_of_ble_eq_true rfl, Nat.le_of_ble_eq_true rfl⟩ (fun r u H locs hp hw => ?_)
            have hp_68 := hp
            refine lv_pop hx hb d_NetWires_meddle_71 rfl ?_
            refine lv_iconst (v := 1) hx hb d_NetWires_meddle_72 (by decide) ?_
            exact vx_ret (ga_zret (u := u) hC hr hlocks hw (Or.inr rfl) ⟨h_2, Or.inr ⟨rfl, j_23, ⟨hj_23, h_23, g_23⟩, Or.inl ⟨c_48, a9, b9, _, ha9, ea9, hb9, eb9, hp_68⟩⟩⟩ (Nat.le_of_ble_eq_true rfl) (Nat.le_of_ble_eq_true rfl) d_NetWires_meddle_73)
    · exact absurd c_5 (by decide)
  · refine lv_if_ne (tgt := 18) hx hb d_NetWires_meddle_5 (by decide) (fun c_5 => ?_) (fun c_5 => ?_)
    · exact absurd c_5 (by decide)
    · exact ga_thIAE (u := x) hst hC hT hlocks hw hl.1 (is := 169) (tx := "no such meddling") (by decide +kernel) ⟨rfl, rfl, h_2⟩ d_NetWires_meddle_8 d_NetWires_meddle_11 d_NetWires_meddle_12 d_NetWires_meddle_14 d_NetWires_meddle_17 (Nat.le_of_ble_eq_true rfl) (Nat.le_of_ble_eq_true rfl) (Nat.le_of_ble_eq_true rfl) (Nat.le_of_ble_eq_true rfl) (Nat.le_of_ble_eq_true rfl) (Nat.le_of_ble_eq_true rfl)

set_option maxHeartbeats 4000000 in
set_option maxRecDepth 100000 in
theorem c_NetWires_launchThroughNoise (l : Launch) (k : xa_k) (x : XS) (fr to : Int32) (b n i9 j9 sp : Nat) (h0 : xa_R0 x n) (hfr9 : fr = nI i9) (hi9 : i9 < 16) (hto9 : to = nI j9) (hj9 : j9 < 16) (hsp : x.1 14 = nI sp) (hsp2 : sp ≤ 1000) (hn : x.1 8 < 200 → n < 232) (hn2 : x.1 8 + 1 < 200 → n + 1 < 232) (sz : Nat) : Met l y_NetWires_launchThroughNoise (Cond.code y_NetWires_launchThroughNoise b_NetWires_launchThroughNoise 8 (some .int) :: ga_T) ({ frames := 5, cells := 2, slots := 12, locals := 114 }) (va_Pc [.ref (xa_a k 0), .int fr, .int to, .ref b] (ga_pre (xa_K k) (xa_W k x) sz)) (va_Qi (fun (r : Int32) (u : XS) => xa_noi x n i9 j9 sp fr to b r u) (ga_post (xa_K k) (xa_W k x) sz (xa_W k)) (va_A (xa_W k x) sz)) 2 12 (va_A (xa_W k x) sz) := by
  refine ga_Met (by decide) (Nat.le_of_ble_eq_true rfl) ?_
  intro p e s m below meth c hC hr hlocks _ hw ls hl
  have hx := hC.1
  have hb := hC.2.1
  have hl : lv_has ls 8 [(0, .ref (xa_a k 0)), (1, .int fr), (2, .int to), (3, .ref b)] := hl
  refine lv_aload_n hx hb d_NetWires_launchThroughNoise_0 rfl (lv_at hl 0 rfl) ?_
  refine xg_NetWires_disturbance hC hw fl_NetWires_33 d_NetWires_launchThroughNoise_1 ?_
  refine lv_sipush (v := 1000) hx hb d_NetWires_launchThroughNoise_4 (by decide) ?_
  refine ga_Vi (As := [.int 1000]) (rest := []) hC hw (c_Noise_drawBelow l k x 1000 _) m_Noise_drawBelow ml_NetWires_222 (ga_recv hw (q0 := 7) rfl rfl) rfl rfl ⟨Nat.le_of_ble_eq_true rfl, Nat.le_of_ble_eq_true rfl⟩ rfl hl.1 rfl (Nat.le_of_ble_eq_true rfl) d_NetWires_launchThroughNoise_7 ⟨Nat.le_of_ble_eq_true rfl, Nat.le_of_ble_eq_true rfl⟩ (fun r u H locs hp hw => ?_)
  obtain ⟨rfl, hp⟩ := hp
  obtain ⟨d_7, ed_7⟩ : ∃ z, z = xa_lcg (xa_D x) := ⟨_, rfl⟩
  rw [← ed_7] at hw hp
  have f_7 : d_7 = xa_lcg (xa_D x) := ed_7
  have e_7 := xa_drw (by decide) hp
  subst e_7
  refine lv_aload_n hx hb d_NetWires_launchThroughNoise_10 rfl (lv_at hl 0 rfl) ?_
  refine xg_NetWires_disturbance hC hw fl_NetWires_33 d_NetWires_launchThroughNoise_11 ?_
  refine xg_Noise_loss (v := x.1 12) hC hw fl_NetWires_225 d_NetWires_launchThroughNoise_14 rfl ?_
  refine lv_icmp_ge (tgt := 32) hx hb d_NetWires_launchThroughNoise_17 (by decide) (fun c_17 => ?_) (fun c_17 => ?_)
  · refine lv_aload_n hx hb d_NetWires_launchThroughNoise_32 rfl (lv_at hl 0 rfl) ?_
    refine xg_NetWires_disturbance hC hw fl_NetWires_33 d_NetWires_launchThroughNoise_33 ?_
    refine lv_sipush (v := 1000) hx hb d_NetWires_launchThroughNoise_36 (by decide) ?_
    refine ga_Vi (As := [.int 1000]) (rest := []) hC hw (c_Noise_drawBelow l k (xa_sD x d_7) 1000 _) m_Noise_drawBelow ml_NetWires_222 (ga_recv hw (q0 := 7) rfl rfl) rfl rfl ⟨Nat.le_of_ble_eq_true rfl, Nat.le_of_ble_eq_true rfl⟩ rfl hl.1 rfl (Nat.le_of_ble_eq_true rfl) d_NetWires_launchThroughNoise_39 ⟨Nat.le_of_ble_eq_true rfl, Nat.le_of_ble_eq_true rfl⟩ (fun r u H locs hp hw => ?_)
    obtain ⟨rfl, hp⟩ := hp
    obtain ⟨d_39, ed_39⟩ : ∃ z, z = xa_lcg (xa_D (xa_sD x d_7)) := ⟨_, rfl⟩
    rw [← ed_39] at hw hp
    have f_39 : d_39 = xa_lcg d_7 := ed_39
    have e_39 := xa_drw (by decide) hp
    subst e_39
    refine lv_aload_n hx hb d_NetWires_launchThroughNoise_42 rfl (lv_at hl 0 rfl) ?_
    refine xg_NetWires_disturbance hC hw fl_NetWires_33 d_NetWires_launchThroughNoise_43 ?_
    refine xg_Noise_twice (v := x.1 13) hC hw fl_NetWires_228 d_NetWires_launchThroughNoise_46 rfl ?_
    refine lv_icmp_ge (tgt := 56) hx hb d_NetWires_launchThroughNoise_49 (by decide) (fun c_49 => ?_) (fun c_49 => ?_)
    · refine lv_iconst (v := 1) hx hb d_NetWires_launchThroughNoise_56 (by decide) ?_
      refine lv_istore (lv' := [(4, .int 1), (0, .ref (xa_a k 0)), (1, .int fr), (2, .int to), (3, .ref b)]) hx hb d_NetWires_launchThroughNoise_57 hl (by decide) rfl (fun ls hl => ?_)
      refine lv_iconst (v := 0) hx hb d_NetWires_launchThroughNoise_59 (by decide) ?_
      refine lv_istore (lv' := [(5, .int 0), (4, .int 1), (0, .ref (xa_a k 0)), (1, .int fr), (2, .int to), (3, .ref b)]) hx hb d_NetWires_launchThroughNoise_60 hl (by decide) rfl (fun ls hl => ?_)
      refine lv_iconst (v := 0) hx hb d_NetWires_launchThroughNoise_62 (by decide) ?_
      refine lv_istore (lv' := [(6, .int 0), (5, .int 0), (4, .int 1), (0, .ref (xa_a k 0)), (1, .int fr), (2, .int to), (3, .ref b)]) hx hb d_NetWires_launchThroughNoise_63 hl (by decide) rfl (fun ls hl => ?_)
      refine lv_iload hx hb d_NetWires_launchThroughNoise_65 (lv_at hl 0 rfl) ?_
      refine lv_iload hx hb d_NetWires_launchThroughNoise_67 (lv_at hl 2 rfl) ?_
      refine lv_icmp_ge (tgt := 110) hx hb d_NetWires_launchThroughNoise_69 (by decide) (fun c_69 => ?_) (fun c_69 => ?_)
      · exact absurd c_69 (by decide)
      · refine lv_aload_n hx hb d_NetWires_launchThroughNoise_72 rfl (lv_at hl 3 rfl) ?_
        refine xg_NetWires_disturbance hC hw fl_NetWires_33 d_NetWires_launchThroughNoise_73 ?_
        refine lv_aload_n hx hb d_NetWires_launchThroughNoise_76 rfl (lv_at hl 3 rfl) ?_
        refine xg_NetWires_disturbance hC hw fl_NetWires_33 d_NetWires_launchThroughNoise_77 ?_
        refine xg_Noise_spread (v := x.1 14) hC hw fl_NetWires_231 d_NetWires_launchThroughNoise_80 rfl ?_
        refine lv_iconst (v := 1) hx hb d_NetWires_launchThroughNoise_83 (by decide) ?_
        refine lv_iadd hx hb d_NetWires_launchThroughNoise_84 ?_
        refine ga_asi (v := nI (sp + 1)) (by rw [hsp]; exact nI_1 sp) ?_
        refine ga_Vi (As := [.int (nI (sp + 1))]) (rest := []) hC hw (c_Noise_drawBelow l k (xa_sD (xa_sD x d_7) d_39) (nI (sp + 1)) _) m_Noise_drawBelow ml_NetWires_222 (ga_recv hw (q0 := 7) rfl rfl) rfl rfl ⟨Nat.le_of_ble_eq_true rfl, Nat.le_of_ble_eq_true rfl⟩ rfl hl.1 rfl (Nat.le_of_ble_eq_true rfl) d_NetWires_launchThroughNoise_85 ⟨Nat.le_of_ble_eq_true rfl, Nat.le_of_ble_eq_true rfl⟩ (fun r u H locs hp hw => ?_)
        obtain ⟨rfl, hp⟩ := hp
        obtain ⟨d_85, ed_85⟩ : ∃ z, z = xa_lcg (xa_D (xa_sD (xa_sD x d_7) d_39)) := ⟨_, rfl⟩
        rw [← ed_85] at hw hp
        have f_85 : d_85 = xa_lcg d_39 := ed_85
        have e_85 := xa_drw (xa_posn sp hsp2) hp
        subst e_85
        refine lv_istore (lv' := [(7, .int (xa_draw d_85 (nI (sp + 1)))), (6, .int 0), (5, .int 0), (4, .int 1), (0, .ref (xa_a k 0)), (1, .int fr), (2, .int to), (3, .ref b)]) hx hb d_NetWires_launchThroughNoise_88 hl (by decide) rfl (fun ls hl => ?_)
        refine lv_iload hx hb d_NetWires_launchThroughNoise_90 (lv_at hl 2 rfl) ?_
        refine lv_aload_n hx hb d_NetWires_launchThroughNoise_92 rfl (lv_at hl 4 rfl) ?_
        refine lv_iload_n hx hb d_NetWires_launchThroughNoise_93 rfl (lv_at hl 5 rfl) ?_
        refine lv_iload_n hx hb d_NetWires_launchThroughNoise_94 rfl (lv_at hl 6 rfl) ?_
        refine lv_iload hx hb d_NetWires_launchThroughNoise_95 (lv_at hl 0 rfl) ?_
        refine lv_aload_n hx hb d_NetWires_launchThroughNoise_97 rfl (lv_at hl 7 rfl) ?_
        refine ga_Vi (As := [.int fr, .int to, .int (xa_draw d_85 (nI (sp + 1))), .ref b]) (rest := [.int 0]) hC hw (c_NetWires_launch l k (xa_sD (xa_sD (xa_sD x d_7) d_39) d_85) fr to (xa_draw d_85 (nI (sp + 1))) b n i9 j9 (show xa_R0 _ n from h0) hfr9 hi9 hto9 hj9 hn _) m_NetWires_launch ml_NetWires_116 (ga_recv hw (q0 := 0) rfl rfl) rfl rfl ⟨Nat.le_of_ble_eq_true rfl, Nat.le_of_ble_eq_true rfl⟩ rfl hl.1 rfl (Nat.le_of_ble_eq_true rfl) d_NetWires_launchThroughNoise_98 ⟨Nat.le_of_ble_eq_true rfl, Nat.le_of_ble_eq_true rfl⟩ (fun r u H locs hp hw => ?_)
        obtain ⟨n1, hn1, hR1, hI1, h81, hr1⟩ := xa_lau_R0 hp (show xa_R0 _ n from h0) hn
        have hp1 := hp
        obtain ⟨r1, er1⟩ : ∃ z, z = r := ⟨_, rfl⟩
        subst er1
        obtain ⟨u1, eu1⟩ : ∃ z, z = u := ⟨_, rfl⟩
        subst eu1
        have hs1 : u1.1 14 = nI sp := (hI1 14 (by decide) (by decide) (by decide) (by decide) (by decide)).trans hsp
        refine lv_iadd hx hb d_NetWires_launchThroughNoise_101 ?_
        refine lv_istore (lv' := [(5, .int (0 + r1)), (7, .int (xa_draw d_85 (nI (sp + 1)))), (6, .int 0), (4, .int 1), (0, .ref (xa_a k 0)), (1, .int fr), (2, .int to), (3, .ref b)]) hx hb d_NetWires_launchThroughNoise_102 hl (by decide) rfl (fun ls hl => ?_)
        refine lv_iinc (v := 1) (lv' := [(6, .int 1), (5, .int (0 + r1)), (7, .int (xa_draw d_85 (nI (sp + 1)))), (4, .int 1), (0, .ref (xa_a k 0)), (1, .int fr), (2, .int to), (3, .ref b)]) hx hb d_NetWires_launchThroughNoise_104 hl (k := 2) rfl (rfl) (by decide) rfl (fun ls hl => ?_)
        refine lv_goto (tgt := 65) hx hb d_NetWires_launchThroughNoise_107 (by decide) ?_
        refine lv_iload hx hb d_NetWires_launchThroughNoise_65 (lv_at hl 0 rfl) ?_
        refine lv_iload hx hb d_NetWires_launchThroughNoise_67 (lv_at hl 3 rfl) ?_
        refine lv_icmp_ge (tgt := 110) hx hb d_NetWires_launchThroughNoise_69 (by decide) (fun c_69 => ?_) (fun c_69 => ?_)
        · refine lv_iload hx hb d_NetWires_launchThroughNoise_110 (lv_at hl 1 rfl) ?_
          exact ga_iret (u := u1) hC hr hlocks hw (by unfold xa_noi; rw [← f_7, ← f_39, ← f_85]; exact Or.inr ⟨Int32.not_lt.mpr c_17, r1, u1, hp1, Or.inl ⟨Int32.not_lt.mpr c_49, rfl, rfl⟩⟩) (Nat.le_of_ble_eq_true rfl) (Nat.le_of_ble_eq_true rfl) d_NetWires_launchThroughNoise_112
        · exact absurd c_69 (by decide)
    · refine lv_iconst (v := 2) hx hb d_NetWires_launchThroughNoise_52 (by decide) ?_
      refine lv_goto (tgt := 57) hx hb d_NetWires_launchThroughNoise_53 (by decide) ?_
      refine lv_istore (lv' := [(4, .int 2), (0, .ref (xa_a k 0)), (1, .int fr), (2, .int to), (3, .ref b)]) hx hb d_NetWires_launchThroughNoise_57 hl (by decide) rfl (fun ls hl => ?_)
      refine lv_iconst (v := 0) hx hb d_NetWires_launchThroughNoise_59 (by decide) ?_
      refine lv_istore (lv' := [(5, .int 0), (4, .int 2), (0, .ref (xa_a k 0)), (1, .int fr), (2, .int to), (3, .ref b)]) hx hb d_NetWires_launchThroughNoise_60 hl (by decide) rfl (fun ls hl => ?_)
      refine lv_iconst (v := 0) hx hb d_NetWires_launchThroughNoise_62 (by decide) ?_
      refine lv_istore (lv' := [(6, .int 0), (5, .int 0), (4, .int 2), (0, .ref (xa_a k 0)), (1, .int fr), (2, .int to), (3, .ref b)]) hx hb d_NetWires_launchThroughNoise_63 hl (by decide) rfl (fun ls hl => ?_)
      refine lv_iload hx hb d_NetWires_launchThroughNoise_65 (lv_at hl 0 rfl) ?_
      refine lv_iload hx hb d_NetWires_launchThroughNoise_67 (lv_at hl 2 rfl) ?_
      refine lv_icmp_ge (tgt := 110) hx hb d_NetWires_launchThroughNoise_69 (by decide) (fun c_69 => ?_) (fun c_69 => ?_)
      · exact absurd c_69 (by decide)
      · refine lv_aload_n hx hb d_NetWires_launchThroughNoise_72 rfl (lv_at hl 3 rfl) ?_
        refine xg_NetWires_disturbance hC hw fl_NetWires_33 d_NetWires_launchThroughNoise_73 ?_
        refine lv_aload_n hx hb d_NetWires_launchThroughNoise_76 rfl (lv_at hl 3 rfl) ?_
        refine xg_NetWires_disturbance hC hw fl_NetWires_33 d_NetWires_launchThroughNoise_77 ?_
        refine xg_Noise_spread (v := x.1 14) hC hw fl_NetWires_231 d_NetWires_launchThroughNoise_80 rfl ?_
        refine lv_iconst (v := 1) hx hb d_NetWires_launchThroughNoise_83 (by decide) ?_
        refine lv_iadd hx hb d_NetWires_launchThroughNoise_84 ?_
        refine ga_asi (v := nI (sp + 1)) (by rw [hsp]; exact nI_1 sp) ?_
        refine ga_Vi (As := [.int (nI (sp + 1))]) (rest := []) hC hw (c_Noise_drawBelow l k (xa_sD (xa_sD x d_7) d_39) (nI (sp + 1)) _) m_Noise_drawBelow ml_NetWires_222 (ga_recv hw (q0 := 7) rfl rfl) rfl rfl ⟨Nat.le_of_ble_eq_true rfl, Nat.le_of_ble_eq_true rfl⟩ rfl hl.1 rfl (Nat.le_of_ble_eq_true rfl) d_NetWires_launchThroughNoise_85 ⟨Nat.le_of_ble_eq_true rfl, Nat.le_of_ble_eq_true rfl⟩ (fun r u H locs hp hw => ?_)
        obtain ⟨rfl, hp⟩ := hp
        obtain ⟨d_85, ed_85⟩ : ∃ z, z = xa_lcg (xa_D (xa_sD (xa_sD x d_7) d_39)) := ⟨_, rfl⟩
        rw [← ed_85] at hw hp
        have f_85 : d_85 = xa_lcg d_39 := ed_85
        have e_85 := xa_drw (xa_posn sp hsp2) hp
        subst e_85
        refine lv_istore (lv' := [(7, .int (xa_draw d_85 (nI (sp + 1)))), (6, .int 0), (5, .int 0), (4, .int 2), (0, .ref (xa_a k 0)), (1, .int fr), (2, .int to), (3, .ref b)]) hx hb d_NetWires_launchThroughNoise_88 hl (by decide) rfl (fun ls hl => ?_)
        refine lv_iload hx hb d_NetWires_launchThroughNoise_90 (lv_at hl 2 rfl) ?_
        refine lv_aload_n hx hb d_NetWires_launchThroughNoise_92 rfl (lv_at hl 4 rfl) ?_
        refine lv_iload_n hx hb d_NetWires_launchThroughNoise_93 rfl (lv_at hl 5 rfl) ?_
        refine lv_iload_n hx hb d_NetWires_launchThroughNoise_94 rfl (lv_at hl 6 rfl) ?_
        refine lv_iload hx hb d_NetWires_launchThroughNoise_95 (lv_at hl 0 rfl) ?_
        refine lv_aload_n hx hb d_NetWires_launchThroughNoise_97 rfl (lv_at hl 7 rfl) ?_
        refine ga_Vi (As := [.int fr, .int to, .int (xa_draw d_85 (nI (sp + 1))), .ref b]) (rest := [.int 0]) hC hw (c_NetWires_launch l k (xa_sD (xa_sD (xa_sD x d_7) d_39) d_85) fr to (xa_draw d_85 (nI (sp + 1))) b n i9 j9 (show xa_R0 _ n from h0) hfr9 hi9 hto9 hj9 hn _) m_NetWires_launch ml_NetWires_116 (ga_recv hw (q0 := 0) rfl rfl) rfl rfl ⟨Nat.le_of_ble_eq_true rfl, Nat.le_of_ble_eq_true rfl⟩ rfl hl.1 rfl (Nat.le_of_ble_eq_true rfl) d_NetWires_launchThroughNoise_98 ⟨Nat.le_of_ble_eq_true rfl, Nat.le_of_ble_eq_true rfl⟩ (fun r u H locs hp hw => ?_)
        obtain ⟨n1, hn1, hR1, hI1, h81, hr1⟩ := xa_lau_R0 hp (show xa_R0 _ n from h0) hn
        have hp1 := hp
        obtain ⟨r1, er1⟩ : ∃ z, z = r := ⟨_, rfl⟩
        subst er1
        obtain ⟨u1, eu1⟩ : ∃ z, z = u := ⟨_, rfl⟩
        subst eu1
        have hs1 : u1.1 14 = nI sp := (hI1 14 (by decide) (by decide) (by decide) (by decide) (by decide)).trans hsp
        refine lv_iadd hx hb d_NetWires_launchThroughNoise_101 ?_
        refine lv_istore (lv' := [(5, .int (0 + r1)), (7, .int (xa_draw d_85 (nI (sp + 1)))), (6, .int 0), (4, .int 2), (0, .ref (xa_a k 0)), (1, .int fr), (2, .int to), (3, .ref b)]) hx hb d_NetWires_launchThroughNoise_102 hl (by decide) rfl (fun ls hl => ?_)
        refine lv_iinc (v := 1) (lv' := [(6, .int 1), (5, .int (0 + r1)), (7, .int (xa_draw d_85 (nI (sp + 1)))), (4, .int 2), (0, .ref (xa_a k 0)), (1, .int fr), (2, .int to), (3, .ref b)]) hx hb d_NetWires_launchThroughNoise_104 hl (k := 2) rfl (rfl) (by decide) rfl (fun ls hl => ?_)
        refine lv_goto (tgt := 65) hx hb d_NetWires_launchThroughNoise_107 (by decide) ?_
        refine lv_iload hx hb d_NetWires_launchThroughNoise_65 (lv_at hl 0 rfl) ?_
        refine lv_iload hx hb d_NetWires_launchThroughNoise_67 (lv_at hl 3 rfl) ?_
        refine lv_icmp_ge (tgt := 110) hx hb d_NetWires_launchThroughNoise_69 (by decide) (fun c_69 => ?_) (fun c_69 => ?_)
        · exact absurd c_69 (by decide)
        · refine lv_aload_n hx hb d_NetWires_launchThroughNoise_72 rfl (lv_at hl 4 rfl) ?_
          refine xg_NetWires_disturbance hC hw fl_NetWires_33 d_NetWires_launchThroughNoise_73 ?_
          refine lv_aload_n hx hb d_NetWires_launchThroughNoise_76 rfl (lv_at hl 4 rfl) ?_
          refine xg_NetWires_disturbance hC hw fl_NetWires_33 d_NetWires_launchThroughNoise_77 ?_
          refine xg_Noise_spread (v := u1.1 14) hC hw fl_NetWires_231 d_NetWires_launchThroughNoise_80 rfl ?_
          refine lv_iconst (v := 1) hx hb d_NetWires_launchThroughNoise_83 (by decide) ?_
          refine lv_iadd hx hb d_NetWires_launchThroughNoise_84 ?_
          refine ga_asi (v := nI (sp + 1)) (by rw [hs1]; exact nI_1 sp) ?_
          refine ga_Vi (As := [.int (nI (sp + 1))]) (rest := []) hC hw (c_Noise_drawBelow l k u1 (nI (sp + 1)) _) m_Noise_drawBelow ml_NetWires_222 (ga_recv hw (q0 := 7) rfl rfl) rfl rfl ⟨Nat.le_of_ble_eq_true rfl, Nat.le_of_ble_eq_true rfl⟩ rfl hl.1 rfl (Nat.le_of_ble_eq_true rfl) d_NetWires_launchThroughNoise_85 ⟨Nat.le_of_ble_eq_true rfl, Nat.le_of_ble_eq_true rfl⟩ (fun r u H locs hp hw => ?_)
          obtain ⟨rfl, hp⟩ := hp
          obtain ⟨d_85b, ed_85b⟩ : ∃ z, z = xa_lcg (xa_D u1) := ⟨_, rfl⟩
          rw [← ed_85b] at hw hp
          have f_85b : d_85b = xa_lcg (xa_D u1) := ed_85b
          have e_85b := xa_drw (xa_posn sp hsp2) hp
          subst e_85b
          refine lv_istore (lv' := [(7, .int (xa_draw d_85b (nI (sp + 1)))), (6, .int 1), (5, .int (0 + r1)), (4, .int 2), (0, .ref (xa_a k 0)), (1, .int fr), (2, .int to), (3, .ref b)]) hx hb d_NetWires_launchThroughNoise_88 hl (by decide) rfl (fun ls hl => ?_)
          refine lv_iload hx hb d_NetWires_launchThroughNoise_90 (lv_at hl 2 rfl) ?_
          refine lv_aload_n hx hb d_NetWires_launchThroughNoise_92 rfl (lv_at hl 4 rfl) ?_
          refine lv_iload_n hx hb d_NetWires_launchThroughNoise_93 rfl (lv_at hl 5 rfl) ?_
          refine lv_iload_n hx hb d_NetWires_launchThroughNoise_94 rfl (lv_at hl 6 rfl) ?_
          refine lv_iload hx hb d_NetWires_launchThroughNoise_95 (lv_at hl 0 rfl) ?_
          refine lv_aload_n hx hb d_NetWires_launchThroughNoise_97 rfl (lv_at hl 7 rfl) ?_
          refine ga_Vi (As := [.int fr, .int to, .int (xa_draw d_85b (nI (sp + 1))), .ref b]) (rest := [.int (0 + r1)]) hC hw (c_NetWires_launch l k (xa_sD u1 d_85b) fr to (xa_draw d_85b (nI (sp + 1))) b n1 i9 j9 (show xa_R0 _ n1 from hR1) hfr9 hi9 hto9 hj9 (fun h => xa_second hn hn2 hn1 h81 h) _) m_NetWires_launch ml_NetWires_116 (ga_recv hw (q0 := 0) rfl rfl) rfl rfl ⟨Nat.le_of_ble_eq_true rfl, Nat.le_of_ble_eq_true rfl⟩ rfl hl.1 rfl (Nat.le_of_ble_eq_true rfl) d_NetWires_launchThroughNoise_98 ⟨Nat.le_of_ble_eq_true rfl, Nat.le_of_ble_eq_true rfl⟩ (fun r u H locs hp hw => ?_)
          have hp2 := hp
          refine lv_iadd hx hb d_NetWires_launchThroughNoise_101 ?_
          refine lv_istore (lv' := [(5, .int ((0 + r1) + r)), (7, .int (xa_draw d_85b (nI (sp + 1)))), (6, .int 1), (4, .int 2), (0, .ref (xa_a k 0)), (1, .int fr), (2, .int to), (3, .ref b)]) hx hb d_NetWires_launchThroughNoise_102 hl (by decide) rfl (fun ls hl => ?_)
          refine lv_iinc (v := 2) (lv' := [(6, .int 2), (5, .int ((0 + r1) + r)), (7, .int (xa_draw d_85b (nI (sp + 1)))), (4, .int 2), (0, .ref (xa_a k 0)), (1, .int fr), (2, .int to), (3, .ref b)]) hx hb d_NetWires_launchThroughNoise_104 hl (k := 2) rfl (rfl) (by decide) rfl (fun ls hl => ?_)
          refine lv_goto (tgt := 65) hx hb d_NetWires_launchThroughNoise_107 (by decide) ?_
          refine lv_iload hx hb d_NetWires_launchThroughNoise_65 (lv_at hl 0 rfl) ?_
          refine lv_iload hx hb d_NetWires_launchThroughNoise_67 (lv_at hl 3 rfl) ?_
          refine lv_icmp_ge (tgt := 110) hx hb d_NetWires_launchThroughNoise_69 (by decide) (fun c_69 => ?_) (fun c_69 => ?_)
          · refine lv_iload hx hb d_NetWires_launchThroughNoise_110 (lv_at hl 1 rfl) ?_
            exact ga_iret (u := u) hC hr hlocks hw (by unfold xa_noi; rw [← f_7, ← f_39, ← f_85]; exact Or.inr ⟨Int32.not_lt.mpr c_17, r1, u1, hp1, Or.inr ⟨Int32.not_le.mp c_49, n1, r, hn1, by rw [← f_85b]; exact hp2, rfl⟩⟩) (Nat.le_of_ble_eq_true rfl) (Nat.le_of_ble_eq_true rfl) d_NetWires_launchThroughNoise_112
          · exact absurd c_69 (by decide)
  · refine lv_aload_n hx hb d_NetWires_launchThroughNoise_20 rfl (lv_at hl 0 rfl) ?_
    refine lv_dup hx hb d_NetWires_launchThroughNoise_21 rfl ?_
    refine xg_NetWires_lost (v := x.1 5) hC hw fl_NetWires_63 d_NetWires_launchThroughNoise_22 rfl ?_
    refine lv_iconst (v := 1) hx hb d_NetWires_launchThroughNoise_25 (by decide) ?_
    refine lv_iadd hx hb d_NetWires_launchThroughNoise_26 ?_
    refine xp_NetWires_lost hC hw fl_NetWires_63 d_NetWires_launchThroughNoise_27 (fun H locs hw => ?_)
    refine lv_iconst (v := 0) hx hb d_NetWires_launchThroughNoise_30 (by decide) ?_
    exact ga_iret (u := xa_sI (xa_sD x d_7) 5 ((x.1 5) + 1)) hC hr hlocks hw (by unfold xa_noi; rw [← f_7]; exact Or.inl ⟨Int32.not_le.mp c_17, rfl, rfl⟩) (Nat.le_of_ble_eq_true rfl) (Nat.le_of_ble_eq_true rfl) d_NetWires_launchThroughNoise_31

set_option maxHeartbeats 4000000 in
set_option maxRecDepth 100000 in
theorem c_NetWires_send (l : Launch) (k : xa_k) (hst : l.stackTraces = false) (x : XS) (fr to : Int32) (n t sp : Nat) (h0 : xa_R0 x n) (ht : x.1 6 = nI t) (ht2 : t ≤ 2048) (hfit : ∀ j, j < 2048 → fits .byte (.int (xa_T x j)) = true) (hsp : x.1 14 = nI sp) (hsp2 : sp ≤ 1000) (hn : x.1 8 < 200 → n < 232) (hn2 : x.1 8 + 1 < 200 → n + 1 < 232) (sz : Nat) : vx_Met l y_NetWires_send (Cond.code y_NetWires_send b_NetWires_send 4 (some .int) :: ga_T) ({ frames := 7, cells := 5, slots := 2072, locals := 141 }) (va_Pc [.ref (xa_a k 0), .int fr, .int to] (ga_pre (xa_K k) (xa_W k x) sz)) (va_Qi (fun (r : Int32) (u : XS) => ∃ b f P2, xa_ext (xa_P x) P2 ∧ xa_isB k P2 b t f ∧ (∀ j, j < t → f j = xa_T x j) ∧ ∃ i9 j9, i9 < 16 ∧ fr = nI i9 ∧ j9 < 16 ∧ to = nI j9 ∧ ((xa_par x fr to ∧ r = 0 ∧ u = xa_sI (xa_sI (xa_sP x P2) 6 0) 5 (x.1 5 + 1)) ∨ (¬ xa_par x fr to ∧ (x.1 12 = 0 ∧ x.1 13 = 0 ∧ x.1 14 = 0) ∧ xa_lau (xa_sI (xa_sP x P2) 6 0) n i9 j9 fr to 0 b r u) ∨ (¬ xa_par x fr to ∧ ¬ (x.1 12 = 0 ∧ x.1 13 = 0 ∧ x.1 14 = 0) ∧ xa_noi (xa_sI (xa_sP x P2) 6 0) n i9 j9 sp fr to b r u))) (ga_post (xa_K k) (xa_W k x) sz (xa_W k)) (va_A (xa_W k x) sz)) (ga_XC (xa_K k) (xa_W k x) sz (xa_W k) (fun E u => E = ga_IOB ∧ (∃ P2, xa_ext (xa_P x) P2 ∧ u = xa_sI (xa_sP x P2) 6 0) ∧ (fr < 0 ∨ 15 < fr ∨ to < 0 ∨ 15 < to))) 5 2072 (va_A (xa_W k x) sz) := by
  refine ga_MetX (by decide) (Nat.le_of_ble_eq_true rfl) ?_
  intro p e s m below meth c hC hr hlocks hT hw ls hl
  have hx := hC.1
  have hb := hC.2.1
  have hl : lv_has ls 4 [(0, .ref (xa_a k 0)), (1, .int fr), (2, .int to)] := hl
  refine lv_aload_n hx hb d_NetWires_send_0 rfl (lv_at hl 0 rfl) ?_
  refine xg_NetWires_tape hC hw fl_NetWires_12 d_NetWires_send_1 ?_
  refine ga_Vq (As := []) (rest := []) hC hw (c_Tape_takeAll l k x t ht ht2 hfit _) m_Tape_takeAll ml_NetWires_96 (ga_recv hw (q0 := 1) rfl rfl) rfl rfl ⟨Nat.le_of_ble_eq_true rfl, Nat.le_of_ble_eq_true rfl⟩ rfl hl.1 rfl (Nat.le_of_ble_eq_true rfl) d_NetWires_send_4 ⟨Nat.le_of_ble_eq_true rfl, Nat.le_of_ble_eq_true rfl⟩ (fun r u H locs hp hw => ?_)
  obtain ⟨b, f, P2, rfl, hext, hB, hbf, rfl⟩ := hp
  refine lv_astore_n (lv' := [(3, .ref b), (0, .ref (xa_a k 0)), (1, .int fr), (2, .int to)]) hx hb d_NetWires_send_7 rfl hl (by decide) rfl (fun ls hl => ?_)
  refine lv_iload_n hx hb d_NetWires_send_8 rfl (lv_at hl 2 rfl) ?_
  refine ga_Sxv (As := [.int fr]) (rest := []) hC hw (c_NetWires_demandEndpoint l k hst (xa_sI (xa_sP x P2) 6 0) fr _) m_NetWires_demandEndpoint ml_NetWires_100 rfl rfl ⟨Nat.le_of_ble_eq_true rfl, Nat.le_of_ble_eq_true rfl⟩ rfl hl.1 rfl (Nat.le_of_ble_eq_true rfl) d_NetWires_send_9 ⟨Nat.le_of_ble_eq_true rfl, Nat.le_of_ble_eq_true rfl⟩ (fun E ce q9 u H locs hp hw g1 g2 g3 => ?_) (fun u H locs hp hw => ?_)
  · obtain ⟨rfl, rfl, h_9⟩ := hp
    exact ga_out hT hlocks hw ⟨rfl, ⟨P2, hext, rfl⟩, h_9.elim Or.inl (fun h => Or.inr (Or.inl h))⟩ g1 g2 g3 (Nat.le_of_ble_eq_true rfl) (Nat.le_of_ble_eq_true rfl)
  · obtain ⟨rfl, h_9, g_9⟩ := hp
    refine lv_iload_n hx hb d_NetWires_send_12 rfl (lv_at hl 3 rfl) ?_
    refine ga_Sxv (As := [.int to]) (rest := []) hC hw (c_NetWires_demandEndpoint l k hst (xa_sI (xa_sP x P2) 6 0) to _) m_NetWires_demandEndpoint ml_NetWires_100 rfl rfl ⟨Nat.le_of_ble_eq_true rfl, Nat.le_of_ble_eq_true rfl⟩ rfl hl.1 rfl (Nat.le_of_ble_eq_true rfl) d_NetWires_send_13 ⟨Nat.le_of_ble_eq_true rfl, Nat.le_of_ble_eq_true rfl⟩ (fun E ce q9 u H locs hp hw g1 g2 g3 => ?_) (fun u H locs hp hw => ?_)
    · obtain ⟨rfl, rfl, h_13⟩ := hp
      exact ga_out hT hlocks hw ⟨rfl, ⟨P2, hext, rfl⟩, Or.inr (Or.inr h_13)⟩ g1 g2 g3 (Nat.le_of_ble_eq_true rfl) (Nat.le_of_ble_eq_true rfl)
    · obtain ⟨rfl, h_13, g_13⟩ := hp
      obtain ⟨i9, hi9, ei9⟩ := xa_16 h_9 g_9
      obtain ⟨j9, hj9, ej9⟩ := xa_16 h_13 g_13
      have h0e := (h0.ext hext).1
      refine lv_aload_n hx hb d_NetWires_send_16 rfl (lv_at hl 1 rfl) ?_
      refine lv_iload_n hx hb d_NetWires_send_17 rfl (lv_at hl 2 rfl) ?_
      refine lv_iload_n hx hb d_NetWires_send_18 rfl (lv_at hl 3 rfl) ?_
      refine ga_Vi (As := [.int fr, .int to]) (rest := []) hC hw (c_NetWires_areParted l k (xa_sI (xa_sP x P2) 6 0) fr to _) m_NetWires_areParted ml_NetWires_104 (ga_recv hw (q0 := 0) rfl rfl) rfl rfl ⟨Nat.le_of_ble_eq_true rfl, Nat.le_of_ble_eq_true rfl⟩ rfl hl.1 rfl (Nat.le_of_ble_eq_true rfl) d_NetWires_send_19 ⟨Nat.le_of_ble_eq_true rfl, Nat.le_of_ble_eq_true rfl⟩ (fun r u H locs hp hw => ?_)
      obtain ⟨rfl, hp⟩ := hp
      rcases hp with ⟨rfl, h_19⟩ | ⟨rfl, h_19⟩
      · refine lv_if_eq (tgt := 37) hx hb d_NetWires_send_22 (by decide) (fun c_22 => ?_) (fun c_22 => ?_)
        · exact absurd c_22 (by decide)
        · refine lv_aload_n hx hb d_NetWires_send_25 rfl (lv_at hl 1 rfl) ?_
          refine lv_dup hx hb d_NetWires_send_26 rfl ?_
          refine xg_NetWires_lost (v := (xa_sI (xa_sP x P2) 6 0).1 5) hC hw fl_NetWires_63 d_NetWires_send_27 rfl ?_
          refine lv_iconst (v := 1) hx hb d_NetWires_send_30 (by decide) ?_
          refine lv_iadd hx hb d_NetWires_send_31 ?_
          refine xp_NetWires_lost hC hw fl_NetWires_63 d_NetWires_send_32 (fun H locs hw => ?_)
          refine lv_iconst (v := 0) hx hb d_NetWires_send_35 (by decide) ?_
          exact vx_ret (ga_iret (u := xa_sI (xa_sI (xa_sP x P2) 6 0) 5 (((xa_sI (xa_sP x P2) 6 0).1 5) + 1)) hC hr hlocks hw ⟨b, f, P2, hext, hB, hbf, i9, j9, hi9, ei9, hj9, ej9, Or.inl ⟨h_19, rfl, rfl⟩⟩ (Nat.le_of_ble_eq_true rfl) (Nat.le_of_ble_eq_true rfl) d_NetWires_send_36)
      · refine lv_if_eq (tgt := 37) hx hb d_NetWires_send_22 (by decide) (fun c_22 => ?_) (fun c_22 => ?_)
        · refine lv_aload_n hx hb d_NetWires_send_37 rfl (lv_at hl 1 rfl) ?_
          refine xg_NetWires_disturbance hC hw fl_NetWires_33 d_NetWires_send_38 ?_
          refine ga_Vi (As := []) (rest := []) hC hw (c_Noise_isOn l k (xa_sI (xa_sP x P2) 6 0) _) m_Noise_isOn ml_NetWires_108 (ga_recv hw (q0 := 7) rfl rfl) rfl rfl ⟨Nat.le_of_ble_eq_true rfl, Nat.le_of_ble_eq_true rfl⟩ rfl hl.1 rfl (Nat.le_of_ble_eq_true rfl) d_NetWires_send_41 ⟨Nat.le_of_ble_eq_true rfl, Nat.le_of_ble_eq_true rfl⟩ (fun r u H locs hp hw => ?_)
          obtain ⟨rfl, hp⟩ := hp
          rcases hp with ⟨rfl, h_41⟩ | ⟨rfl, h_41⟩
          · refine lv_if_eq (tgt := 55) hx hb d_NetWires_send_44 (by decide) (fun c_44 => ?_) (fun c_44 => ?_)
            · exact absurd c_44 (by decide)
            · refine lv_aload_n hx hb d_NetWires_send_47 rfl (lv_at hl 1 rfl) ?_
              refine lv_iload_n hx hb d_NetWires_send_48 rfl (lv_at hl 2 rfl) ?_
              refine lv_iload_n hx hb d_NetWires_send_49 rfl (lv_at hl 3 rfl) ?_
              refine lv_aload_n hx hb d_NetWires_send_50 rfl (lv_at hl 0 rfl) ?_
              refine ga_Vi (As := [.int fr, .int to, .ref b]) (rest := []) hC hw (c_NetWires_launchThroughNoise l k (xa_sI (xa_sP x P2) 6 0) fr to b n i9 j9 sp (show xa_R0 _ n from h0e) ei9 hi9 ej9 hj9 hsp hsp2 hn hn2 _) m_NetWires_launchThroughNoise ml_NetWires_112 (ga_recv hw (q0 := 0) rfl rfl) rfl rfl ⟨Nat.le_of_ble_eq_true rfl, Nat.le_of_ble_eq_true rfl⟩ rfl hl.1 rfl (Nat.le_of_ble_eq_true rfl) d_NetWires_send_51 ⟨Nat.le_of_ble_eq_true rfl, Nat.le_of_ble_eq_true rfl⟩ (fun r u H locs hp hw => ?_)
              have hp_51 := hp
              exact vx_ret (ga_iret (u := u) hC hr hlocks hw ⟨b, f, P2, hext, hB, hbf, i9, j9, hi9, ei9, hj9, ej9, Or.inr (Or.inr ⟨h_19, h_41, hp_51⟩)⟩ (Nat.le_of_ble_eq_true rfl) (Nat.le_of_ble_eq_true rfl) d_NetWires_send_54)
          · refine lv_if_eq (tgt := 55) hx hb d_NetWires_send_44 (by decide) (fun c_44 => ?_) (fun c_44 => ?_)
            · refine lv_aload_n hx hb d_NetWires_send_55 rfl (lv_at hl 1 rfl) ?_
              refine lv_iload_n hx hb d_NetWires_send_56 rfl (lv_at hl 2 rfl) ?_
              refine lv_iload_n hx hb d_NetWires_send_57 rfl (lv_at hl 3 rfl) ?_
              refine lv_iconst (v := 0) hx hb d_NetWires_send_58 (by decide) ?_
              refine lv_aload_n hx hb d_NetWires_send_59 rfl (lv_at hl 0 rfl) ?_
              refine ga_Vi (As := [.int fr, .int to, .int 0, .ref b]) (rest := []) hC hw (c_NetWires_launch l k (xa_sI (xa_sP x P2) 6 0) fr to 0 b n i9 j9 (show xa_R0 _ n from h0e) ei9 hi9 ej9 hj9 hn _) m_NetWires_launch ml_NetWires_116 (ga_recv hw (q0 := 0) rfl rfl) rfl rfl ⟨Nat.le_of_ble_eq_true rfl, Nat.le_of_ble_eq_true rfl⟩ rfl hl.1 rfl (Nat.le_of_ble_eq_true rfl) d_NetWires_send_60 ⟨Nat.le_of_ble_eq_true rfl, Nat.le_of_ble_eq_true rfl⟩ (fun r u H locs hp hw => ?_)
              have hp_60 := hp
              exact vx_ret (ga_iret (u := u) hC hr hlocks hw ⟨b, f, P2, hext, hB, hbf, i9, j9, hi9, ei9, hj9, ej9, Or.inr (Or.inl ⟨h_19, h_41, hp_60⟩)⟩ (Nat.le_of_ble_eq_true rfl) (Nat.le_of_ble_eq_true rfl) d_NetWires_send_63)
            · exact absurd c_44 (by decide)
        · exact absurd c_22 (by decide)
