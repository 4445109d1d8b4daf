set_option maxHeartbeats 4000000 in
set_option maxRecDepth 100000 in
theorem c_NetWires_alarm (l : Launch) (k : xa_k) (hst : l.stackTraces = false) (x : XS) (ep ti : Int32) (n : Nat) (h0 : xa_R0 x n) (hn0 : ¬ ep < 0 → ¬ 15 < ep → (∀ t, t < n → ¬ xa_mt x t 32 ep) → n < 232) (sz : Nat) : vx_Met l y_NetWires_alarm (Cond.code y_NetWires_alarm b_NetWires_alarm 3 (some .boolean) :: ga_T) ({ frames := 7, cells := 3, slots := 18, locals := 103 }) (va_Pc [.ref (xa_a k 0), .int ep, .int ti] (ga_pre (xa_K k) (xa_W k x) sz)) (va_Qi (fun (r : Int32) (u : XS) => (¬ ep < 0 ∧ ¬ 15 < ep) ∧ (¬ ti < 0 ∧ ¬ 100000 < ti) ∧ xa_tim k x n 32 ep ti r u) (ga_post (xa_K k) (xa_W k x) sz (xa_W k)) (va_A (xa_W k x) sz)) (ga_XC (xa_K k) (xa_W k x) sz (xa_W k) (fun E u => (E = ga_IOB ∧ x = u ∧ (ep < 0 ∨ 15 < ep)) ∨ (E = ga_IAE ∧ x = u ∧ (¬ ep < 0 ∧ ¬ 15 < ep) ∧ (ti < 0 ∨ 100000 < ti)))) 3 18 (va_A (xa_W k x) sz) := by
  refine ga_MetX (by decide) (Nat.le_of_ble_eq_true rfl) ?_
  intro p e s m below meth c hC hr hlocks hT hw ls hl
  have hx := hC.1
  have hb := hC.2.1
  have hl : lv_has ls 3 [(0, .ref (xa_a k 0)), (1, .int ep), (2, .int ti)] := hl
  refine lv_iload_n hx hb d_NetWires_alarm_0 rfl (lv_at hl 1 rfl) ?_
  refine ga_Sxv (As := [.int ep]) (rest := []) hC hw (c_NetWires_demandEndpoint l k hst x ep _) m_NetWires_demandEndpoint ml_NetWires_100 rfl rfl ⟨Nat.le_of_ble_eq_true rfl, Nat.le_of_ble_eq_true rfl⟩ rfl hl.1 rfl (Nat.le_of_ble_eq_true rfl) d_NetWires_alarm_1 ⟨Nat.le_of_ble_eq_true rfl, Nat.le_of_ble_eq_true rfl⟩ (fun E ce q9 u H locs hp hw g1 g2 g3 => ?_) (fun u H locs hp hw => ?_)
  · obtain ⟨rfl, rfl, h_1⟩ := hp
    exact ga_out hT hlocks hw (Or.inl ⟨rfl, rfl, h_1⟩) g1 g2 g3 (Nat.le_of_ble_eq_true rfl) (Nat.le_of_ble_eq_true rfl)
  · obtain ⟨rfl, h_1, g_1⟩ := hp
    refine lv_iload_n hx hb d_NetWires_alarm_4 rfl (lv_at hl 2 rfl) ?_
    refine lv_ldc (v := 100000) hx hb hC.2.2.2.1 (hC.2.2.2.2 _ kc_NetWires_120) d_NetWires_alarm_5 ?_
    refine ga_Sxv (As := [.int ti, .int 100000]) (rest := []) hC hw (c_NetWires_demandTicks l k hst x ti 100000 _) m_NetWires_demandTicks ml_NetWires_121 rfl rfl ⟨Nat.le_of_ble_eq_true rfl, Nat.le_of_ble_eq_true rfl⟩ rfl hl.1 rfl (Nat.le_of_ble_eq_true rfl) d_NetWires_alarm_7 ⟨Nat.le_of_ble_eq_true rfl, Nat.le_of_ble_eq_true rfl⟩ (fun E ce q9 u H locs hp hw g1 g2 g3 => ?_) (fun u H locs hp hw => ?_)
    · obtain ⟨rfl, rfl, h_7⟩ := hp
      exact ga_out hT hlocks hw (Or.inr ⟨rfl, rfl, ⟨h_1, g_1⟩, h_7⟩) g1 g2 g3 (Nat.le_of_ble_eq_true rfl) (Nat.le_of_ble_eq_true rfl)
    · obtain ⟨rfl, h_7, g_7⟩ := hp
      refine lv_aload_n hx hb d_NetWires_alarm_10 rfl (lv_at hl 0 rfl) ?_
      refine lv_bipush (v := 32) hx hb d_NetWires_alarm_11 (by decide) ?_
      refine lv_iload_n hx hb d_NetWires_alarm_13 rfl (lv_at hl 1 rfl) ?_
      refine lv_iload_n hx hb d_NetWires_alarm_14 rfl (lv_at hl 2 rfl) ?_
      refine ga_Vi (As := [.int 32, .int ep, .int ti]) (rest := []) hC hw (c_NetWires_setTimer l k x 32 ep ti n h0 (hn0 h_1 g_1) _) m_NetWires_setTimer ml_NetWires_125 (ga_recv hw (q0 := 0) rfl rfl) rfl rfl ⟨Nat.le_of_ble_eq_true rfl, Nat.le_of_ble_eq_true rfl⟩ rfl hl.1 rfl (Nat.le_of_ble_eq_true rfl) d_NetWires_alarm_15 ⟨Nat.le_of_ble_eq_true rfl, Nat.le_of_ble_eq_true rfl⟩ (fun r u H locs hp hw => ?_)
      have hp_15 := hp
      exact vx_ret (ga_zret (u := u) hC hr hlocks hw (xa_tim_b hp_15) ⟨⟨h_1, g_1⟩, ⟨h_7, g_7⟩, hp_15⟩ (Nat.le_of_ble_eq_true rfl) (Nat.le_of_ble_eq_true rfl) d_NetWires_alarm_18)

set_option maxHeartbeats 4000000 in
set_option maxRecDepth 100000 in
theorem c_NetWires_sync (l : Launch) (k : xa_k) (hst : l.stackTraces = false) (x : XS) (ep ti : Int32) (n : Nat) (h0 : xa_R0 x n) (hn0 : ¬ ep < 0 → ¬ 15 < ep → (∀ t, t < n → ¬ xa_mt x t 48 ep) → n < 232) (sz : Nat) : vx_Met l y_NetWires_sync (Cond.code y_NetWires_sync b_NetWires_sync 3 (some .boolean) :: ga_T) ({ frames := 7, cells := 3, slots := 18, locals := 103 }) (va_Pc [.ref (xa_a k 0), .int ep, .int ti] (ga_pre (xa_K k) (xa_W k x) sz)) (va_Qi (fun (r : Int32) (u : XS) => (¬ ep < 0 ∧ ¬ 15 < ep) ∧ (¬ ti < 0 ∧ ¬ 100000 < ti) ∧ xa_tim k x n 48 ep ti r u) (ga_post (xa_K k) (xa_W k x) sz (xa_W k)) (va_A (xa_W k x) sz)) (ga_XC (xa_K k) (xa_W k x) sz (xa_W k) (fun E u => (E = ga_IOB ∧ x = u ∧ (ep < 0 ∨ 15 < ep)) ∨ (E = ga_IAE ∧ x = u ∧ (¬ ep < 0 ∧ ¬ 15 < ep) ∧ (ti < 0 ∨ 100000 < ti)))) 3 18 (va_A (xa_W k x) sz) := by
  refine ga_MetX (by decide) (Nat.le_of_ble_eq_true rfl) ?_
  intro p e s m below meth c hC hr hlocks hT hw ls hl
  have hx := hC.1
  have hb := hC.2.1
  have hl : lv_has ls 3 [(0, .ref (xa_a k 0)), (1, .int ep), (2, .int ti)] := hl
  refine lv_iload_n hx hb d_NetWires_sync_0 rfl (lv_at hl 1 rfl) ?_
  refine ga_Sxv (As := [.int ep]) (rest := []) hC hw (c_NetWires_demandEndpoint l k hst x ep _) m_NetWires_demandEndpoint ml_NetWires_100 rfl rfl ⟨Nat.le_of_ble_eq_true rfl, Nat.le_of_ble_eq_true rfl⟩ rfl hl.1 rfl (Nat.le_of_ble_eq_true rfl) d_NetWires_sync_1 ⟨Nat.le_of_ble_eq_true rfl, Nat.le_of_ble_eq_true rfl⟩ (fun E ce q9 u H locs hp hw g1 g2 g3 => ?_) (fun u H locs hp hw => ?_)
  · obtain ⟨rfl, rfl, h_1⟩ := hp
    exact ga_out hT hlocks hw (Or.inl ⟨rfl, rfl, h_1⟩) g1 g2 g3 (Nat.le_of_ble_eq_true rfl) (Nat.le_of_ble_eq_true rfl)
  · obtain ⟨rfl, h_1, g_1⟩ := hp
    refine lv_iload_n hx hb d_NetWires_sync_4 rfl (lv_at hl 2 rfl) ?_
    refine lv_ldc (v := 100000) hx hb hC.2.2.2.1 (hC.2.2.2.2 _ kc_NetWires_120) d_NetWires_sync_5 ?_
    refine ga_Sxv (As := [.int ti, .int 100000]) (rest := []) hC hw (c_NetWires_demandTicks l k hst x ti 100000 _) m_NetWires_demandTicks ml_NetWires_121 rfl rfl ⟨Nat.le_of_ble_eq_true rfl, Nat.le_of_ble_eq_true rfl⟩ rfl hl.1 rfl (Nat.le_of_ble_eq_true rfl) d_NetWires_sync_7 ⟨Nat.le_of_ble_eq_true rfl, Nat.le_of_ble_eq_true rfl⟩ (fun E ce q9 u H locs hp hw g1 g2 g3 => ?_) (fun u H locs hp hw => ?_)
    · obtain ⟨rfl, rfl, h_7⟩ := hp
      exact ga_out hT hlocks hw (Or.inr ⟨rfl, rfl, ⟨h_1, g_1⟩, h_7⟩) g1 g2 g3 (Nat.le_of_ble_eq_true rfl) (Nat.le_of_ble_eq_true rfl)
    · obtain ⟨rfl, h_7, g_7⟩ := hp
      refine lv_aload_n hx hb d_NetWires_sync_10 rfl (lv_at hl 0 rfl) ?_
      refine lv_bipush (v := 48) hx hb d_NetWires_sync_11 (by decide) ?_
      refine lv_iload_n hx hb d_NetWires_sync_13 rfl (lv_at hl 1 rfl) ?_
      refine lv_iload_n hx hb d_NetWires_sync_14 rfl (lv_at hl 2 rfl) ?_
      refine ga_Vi (As := [.int 48, .int ep, .int ti]) (rest := []) hC hw (c_NetWires_setTimer l k x 48 ep ti n h0 (hn0 h_1 g_1) _) m_NetWires_setTimer ml_NetWires_125 (ga_recv hw (q0 := 0) rfl rfl) rfl rfl ⟨Nat.le_of_ble_eq_true rfl, Nat.le_of_ble_eq_true rfl⟩ rfl hl.1 rfl (Nat.le_of_ble_eq_true rfl) d_NetWires_sync_15 ⟨Nat.le_of_ble_eq_true rfl, Nat.le_of_ble_eq_true rfl⟩ (fun r u H locs hp hw => ?_)
      have hp_15 := hp
      exact vx_ret (ga_zret (u := u) hC hr hlocks hw (xa_tim_b hp_15) ⟨⟨h_1, g_1⟩, ⟨h_7, g_7⟩, hp_15⟩ (Nat.le_of_ble_eq_true rfl) (Nat.le_of_ble_eq_true rfl) d_NetWires_sync_18)

set_option maxHeartbeats 4000000 in
set_option maxRecDepth 100000 in
theorem c_NetWires_noAlarm (l : Launch) (k : xa_k) (hst : l.stackTraces = false) (x : XS) (ep : Int32) (n : Nat) (h0 : xa_R0 x n) (sz : Nat) : vx_Met l y_NetWires_noAlarm (Cond.code y_NetWires_noAlarm b_NetWires_noAlarm 2 (some .boolean) :: ga_T) ({ frames := 7, cells := 1, slots := 6, locals := 102 }) (va_Pc [.ref (xa_a k 0), .int ep] (ga_pre (xa_K k) (xa_W k x) sz)) (va_Qi (fun (r : Int32) (u : XS) => (¬ ep < 0 ∧ ¬ 15 < ep) ∧ xa_drp x n 32 ep r u) (ga_post (xa_K k) (xa_W k x) sz (xa_W k)) (va_A (xa_W k x) sz)) (ga_XC (xa_K k) (xa_W k x) sz (xa_W k) (fun E u => E = ga_IOB ∧ x = u ∧ (ep < 0 ∨ 15 < ep))) 1 6 (va_A (xa_W k x) sz) := by
  refine ga_MetX (by decide) (Nat.le_of_ble_eq_true rfl) ?_
  intro p e s m below meth c hC hr hlocks hT hw ls hl
  have hx := hC.1
  have hb := hC.2.1
  have hl : lv_has ls 2 [(0, .ref (xa_a k 0)), (1, .int ep)] := hl
  refine lv_iload_n hx hb d_NetWires_noAlarm_0 rfl (lv_at hl 1 rfl) ?_
  refine ga_Sxv (As := [.int ep]) (rest := []) hC hw (c_NetWires_demandEndpoint l k hst x ep _) m_NetWires_demandEndpoint ml_NetWires_100 rfl rfl ⟨Nat.le_of_ble_eq_true rfl, Nat.le_of_ble_eq_true rfl⟩ rfl hl.1 rfl (Nat.le_of_ble_eq_true rfl) d_NetWires_noAlarm_1 ⟨Nat.le_of_ble_eq_true rfl, Nat.le_of_ble_eq_true rfl⟩ (fun E ce q9 u H locs hp hw g1 g2 g3 => ?_) (fun u H locs hp hw => ?_)
  · obtain ⟨rfl, rfl, h_1⟩ := hp
    exact ga_out hT hlocks hw ⟨rfl, rfl, h_1⟩ g1 g2 g3 (Nat.le_of_ble_eq_true rfl) (Nat.le_of_ble_eq_true rfl)
  · obtain ⟨rfl, h_1, g_1⟩ := hp
    refine lv_aload_n hx hb d_NetWires_noAlarm_4 rfl (lv_at hl 0 rfl) ?_
    refine lv_bipush (v := 32) hx hb d_NetWires_noAlarm_5 (by decide) ?_
    refine lv_iload_n hx hb d_NetWires_noAlarm_7 rfl (lv_at hl 1 rfl) ?_
    refine ga_Vi (As := [.int 32, .int ep]) (rest := []) hC hw (c_NetWires_dropTimer l k x 32 ep n h0 _) m_NetWires_dropTimer ml_NetWires_129 (ga_recv hw (q0 := 0) rfl rfl) rfl rfl ⟨Nat.le_of_ble_eq_true rfl, Nat.le_of_ble_eq_true rfl⟩ rfl hl.1 rfl (Nat.le_of_ble_eq_true rfl) d_NetWires_noAlarm_8 ⟨Nat.le_of_ble_eq_true rfl, Nat.le_of_ble_eq_true rfl⟩ (fun r u H locs hp hw => ?_)
    have hp_8 := hp
    exact vx_ret (ga_zret (u := u) hC hr hlocks hw (xa_drp_b hp_8) ⟨⟨h_1, g_1⟩, hp_8⟩ (Nat.le_of_ble_eq_true rfl) (Nat.le_of_ble_eq_true rfl) d_NetWires_noAlarm_11)

set_option maxHeartbeats 4000000 in
set_option maxRecDepth 100000 in
theorem c_NetWires_noSync (l : Launch) (k : xa_k) (hst : l.stackTraces = false) (x : XS) (ep : Int32) (n : Nat) (h0 : xa_R0 x n) (sz : Nat) : vx_Met l y_NetWires_noSync (Cond.code y_NetWires_noSync b_NetWires_noSync 2 (some .boolean) :: ga_T) ({ frames := 7, cells := 1, slots := 6, locals := 102 }) (va_Pc [.ref (xa_a k 0), .int ep] (ga_pre (xa_K k) (xa_W k x) sz)) (va_Qi (fun (r : Int32) (u : XS) => (¬ ep < 0 ∧ ¬ 15 < ep) ∧ xa_drp x n 48 ep r u) (ga_post (xa_K k) (xa_W k x) sz (xa_W k)) (va_A (xa_W k x) sz)) (ga_XC (xa_K k) (xa_W k x) sz (xa_W k) (fun E u => E = ga_IOB ∧ x = u ∧ (ep < 0 ∨ 15 < ep))) 1 6 (va_A (xa_W k x) sz) := by
  refine ga_MetX (by decide) (Nat.le_of_ble_eq_true rfl) ?_
  intro p e s m below meth c hC hr hlocks hT hw ls hl
  have hx := hC.1
  have hb := hC.2.1
  have hl : lv_has ls 2 [(0, .ref (xa_a k 0)), (1, .int ep)] := hl
  refine lv_iload_n hx hb d_NetWires_noSync_0 rfl (lv_at hl 1 rfl) ?_
  refine ga_Sxv (As := [.int ep]) (rest := []) hC hw (c_NetWires_demandEndpoint l k hst x ep _) m_NetWires_demandEndpoint ml_NetWires_100 rfl rfl ⟨Nat.le_of_ble_eq_true rfl, Nat.le_of_ble_eq_true rfl⟩ rfl hl.1 rfl (Nat.le_of_ble_eq_true rfl) d_NetWires_noSync_1 ⟨Nat.le_of_ble_eq_true rfl, Nat.le_of_ble_eq_true rfl⟩ (fun E ce q9 u H locs hp hw g1 g2 g3 => ?_) (fun u H locs hp hw => ?_)
  · obtain ⟨rfl, rfl, h_1⟩ := hp
    exact ga_out hT hlocks hw ⟨rfl, rfl, h_1⟩ g1 g2 g3 (Nat.le_of_ble_eq_true rfl) (Nat.le_of_ble_eq_true rfl)
  · obtain ⟨rfl, h_1, g_1⟩ := hp
    refine lv_aload_n hx hb d_NetWires_noSync_4 rfl (lv_at hl 0 rfl) ?_
    refine lv_bipush (v := 48) hx hb d_NetWires_noSync_5 (by decide) ?_
    refine lv_iload_n hx hb d_NetWires_noSync_7 rfl (lv_at hl 1 rfl) ?_
    refine ga_Vi (As := [.int 48, .int ep]) (rest := []) hC hw (c_NetWires_dropTimer l k x 48 ep n h0 _) m_NetWires_dropTimer ml_NetWires_129 (ga_recv hw (q0 := 0) rfl rfl) rfl rfl ⟨Nat.le_of_ble_eq_true rfl, Nat.le_of_ble_eq_true rfl⟩ rfl hl.1 rfl (Nat.le_of_ble_eq_true rfl) d_NetWires_noSync_8 ⟨Nat.le_of_ble_eq_true rfl, Nat.le_of_ble_eq_true rfl⟩ (fun r u H locs hp hw => ?_)
    have hp_8 := hp
    exact vx_ret (ga_zret (u := u) hC hr hlocks hw (xa_drp_b hp_8) ⟨⟨h_1, g_1⟩, hp_8⟩ (Nat.le_of_ble_eq_true rfl) (Nat.le_of_ble_eq_true rfl) d_NetWires_noSync_11)

set_option maxHeartbeats 4000000 in
set_option maxRecDepth 100000 in
theorem c_NetWires_step (l : Launch) (k : xa_k) (x : XS) (n w kp : Nat) (h0 : xa_R0 x n) (hw9 : x.1 9 = nI w) (hw2 : w < 32) (hk9 : x.1 10 = nI kp) (hk2 : kp ≤ 32) (sz : Nat) : Met l y_NetWires_step (Cond.code y_NetWires_step b_NetWires_step 2 (some .int) :: ga_T) ({ frames := 4, cells := 0, slots := 0, locals := 87 }) (va_Pc [.ref (xa_a k 0)] (ga_pre (xa_K k) (xa_W k x) sz)) (va_Qi (fun (r : Int32) (u : XS) => (r = -1 ∧ x = u ∧ n = 0) ∨ (0 < n ∧ ∃ y, xa_hap (xa_take x n 0) (xa_v (xa_P x) (xa_ad x 0)) (xa_b (xa_P x) (xa_ad x 0)) y r ∧ u = xa_rmb y r (xa_v (xa_P x) (xa_ad x 0)) w kp)) (ga_post (xa_K k) (xa_W k x) sz (xa_W k)) (va_A (xa_W k x) sz)) 0 0 (va_A (xa_W k x) sz) := by
  refine ga_Met (by decide) (Nat.le_of_ble_eq_true rfl) ?_
  intro p e s m below meth c hC hr hlocks _ hw ls hl
  have hx := hC.1
  have hb := hC.2.1
  have hl : lv_has ls 2 [(0, .ref (xa_a k 0))] := hl
  refine lv_aload_n hx hb d_NetWires_step_0 rfl (lv_at hl 0 rfl) ?_
  refine xg_NetWires_agenda hC hw fl_NetWires_19 d_NetWires_step_1 ?_
  refine lv_iconst (v := 0) hx hb d_NetWires_step_4 (by decide) ?_
  refine ga_Vq (As := [.int 0]) (rest := []) hC hw (c_Agenda_takeAt l k x 0 n h0 _) m_Agenda_takeAt ml_NetWires_132 (ga_recv hw (q0 := 3) rfl rfl) rfl rfl ⟨Nat.le_of_ble_eq_true rfl, Nat.le_of_ble_eq_true rfl⟩ rfl hl.1 rfl (Nat.le_of_ble_eq_true rfl) d_NetWires_step_5 ⟨Nat.le_of_ble_eq_true rfl, Nat.le_of_ble_eq_true rfl⟩ (fun r u H locs hp hw => ?_)
  rcases hp with ⟨rfl, rfl, h_5⟩ | ⟨j_5, hj_5, ej_5, rfl, rfl⟩
  · refine lv_astore_nN (lv' := [(1, .null), (0, .ref (xa_a k 0))]) hx hb d_NetWires_step_8 rfl hl (by decide) rfl (fun ls hl => ?_)
    refine lv_aload_nN hx hb d_NetWires_step_9 rfl (lv_at hl 0 rfl) ?_
    refine lv_ifnonnullN hx hb d_NetWires_step_10 ?_
    refine lv_iconst (v := (-1)) hx hb d_NetWires_step_13 (by decide) ?_
    exact ga_iret (u := x) hC hr hlocks hw (Or.inl ⟨rfl, rfl, xa_n0 h0.2.1 h_5⟩) (Nat.le_of_ble_eq_true rfl) (Nat.le_of_ble_eq_true rfl) d_NetWires_step_14
  · obtain rfl : j_5 = 0 := (nI_eq (by have := h0.2.1; omega) (by decide)).mp ej_5.symm
    have hE9 : xa_isE (xa_P (xa_take x n 0)) (xa_ad x 0) (xa_v (xa_P x) (xa_ad x 0)) (xa_b (xa_P x) (xa_ad x 0)) := by rw [xa_take_P]; exact (h0.get hj_5).2
    refine lv_astore_n (lv' := [(1, .ref (xa_ad x 0)), (0, .ref (xa_a k 0))]) hx hb d_NetWires_step_8 rfl hl (by decide) rfl (fun ls hl => ?_)
    refine lv_aload_n hx hb d_NetWires_step_9 rfl (lv_at hl 0 rfl) ?_
    refine lv_ifnonnull (tgt := 15) hx hb d_NetWires_step_10 (by decide) ?_
    refine lv_aload_n hx hb d_NetWires_step_15 rfl (lv_at hl 1 rfl) ?_
    refine lv_aload_n hx hb d_NetWires_step_16 rfl (lv_at hl 0 rfl) ?_
    refine ga_Vi (As := [.ref (xa_ad x 0)]) (rest := []) hC hw (c_NetWires_letHappen l k (xa_take x n 0) (xa_ad x 0) w kp (xa_v (xa_P x) (xa_ad x 0)) (xa_b (xa_P x) (xa_ad x 0)) hE9 (by rw [xa_take_I _ _ _ _ (by decide) (by decide)]; exact hw9) hw2 (by rw [xa_take_I _ _ _ _ (by decide) (by decide)]; exact hk9) hk2 _) m_NetWires_letHappen ml_NetWires_136 (ga_recv hw (q0 := 0) rfl rfl) rfl rfl ⟨Nat.le_of_ble_eq_true rfl, Nat.le_of_ble_eq_true rfl⟩ rfl hl.1 rfl (Nat.le_of_ble_eq_true rfl) d_NetWires_step_17 ⟨Nat.le_of_ble_eq_true rfl, Nat.le_of_ble_eq_true rfl⟩ (fun r u H locs hp hw => ?_)
    have hp_17 := hp
    exact ga_iret (u := u) hC hr hlocks hw (Or.inr ⟨hj_5, hp_17⟩) (Nat.le_of_ble_eq_true rfl) (Nat.le_of_ble_eq_true rfl) d_NetWires_step_20

set_option maxHeartbeats 4000000 in
set_option maxRecDepth 100000 in
theorem c_NetWires_delay (l : Launch) (k : xa_k) (hst : l.stackTraces = false) (x : XS) (fr to ti : Int32)  (sz : Nat) : vx_Met l y_NetWires_delay (Cond.code y_NetWires_delay b_NetWires_delay 6 (some .int) :: ga_T) ({ frames := 7, cells := 3, slots := 18, locals := 103 }) (va_Pc [.ref (xa_a k 0), .int fr, .int to, .int ti] (ga_pre (xa_K k) (xa_W k x) sz)) (va_Qi (fun (r : Int32) (u : XS) => (¬ ti < 0 ∧ ¬ 1000 < ti) ∧ ∃ i j, i < 16 ∧ fr = nI i ∧ j < 16 ∧ to = nI j ∧ r = xa_L x (i * 16 + j) ∧ u = xa_sL x (upd (xa_L x) (i * 16 + j) ti)) (ga_post (xa_K k) (xa_W k x) sz (xa_W k)) (va_A (xa_W k x) sz)) (ga_XC (xa_K k) (xa_W k x) sz (xa_W k) (fun E u => (E = ga_IOB ∧ x = u ∧ (fr < 0 ∨ 15 < fr ∨ to < 0 ∨ 15 < to)) ∨ (E = ga_IAE ∧ x = u ∧ (¬ fr < 0 ∧ ¬ 15 < fr ∧ ¬ to < 0 ∧ ¬ 15 < to) ∧ (ti < 0 ∨ 1000 < ti)))) 3 18 (va_A (xa_W k x) sz) := by
  refine ga_MetX (by decide) (Nat.le_of_ble_eq_true rfl) ?_
  intro p e s m below meth c hC hr hlocks hT hw ls hl
  have hx := hC.1
  have hb := hC.2.1
  have hl : lv_has ls 6 [(0, .ref (xa_a k 0)), (1, .int fr), (2, .int to), (3, .int ti)] := hl
  refine lv_iload_n hx hb d_NetWires_delay_0 rfl (lv_at hl 1 rfl) ?_
  refine ga_Sxv (As := [.int fr]) (rest := []) hC hw (c_NetWires_demandEndpoint l k hst x fr _) m_NetWires_demandEndpoint ml_NetWires_100 rfl rfl ⟨Nat.le_of_ble_eq_true rfl, Nat.le_of_ble_eq_true rfl⟩ rfl hl.1 rfl (Nat.le_of_ble_eq_true rfl) d_NetWires_delay_1 ⟨Nat.le_of_ble_eq_true rfl, Nat.le_of_ble_eq_true rfl⟩ (fun E ce q9 u H locs hp hw g1 g2 g3 => ?_) (fun u H locs hp hw => ?_)
  · obtain ⟨rfl, rfl, h_1⟩ := hp
    exact ga_out hT hlocks hw (Or.inl ⟨rfl, rfl, h_1.elim Or.inl (fun h => Or.inr (Or.inl h))⟩) g1 g2 g3 (Nat.le_of_ble_eq_true rfl) (Nat.le_of_ble_eq_true rfl)
  · obtain ⟨rfl, h_1, g_1⟩ := hp
    refine lv_iload_n hx hb d_NetWires_delay_4 rfl (lv_at hl 2 rfl) ?_
    refine ga_Sxv (As := [.int to]) (rest := []) hC hw (c_NetWires_demandEndpoint l k hst x to _) m_NetWires_demandEndpoint ml_NetWires_100 rfl rfl ⟨Nat.le_of_ble_eq_true rfl, Nat.le_of_ble_eq_true rfl⟩ rfl hl.1 rfl (Nat.le_of_ble_eq_true rfl) d_NetWires_delay_5 ⟨Nat.le_of_ble_eq_true rfl, Nat.le_of_ble_eq_true rfl⟩ (fun E ce q9 u H locs hp hw g1 g2 g3 => ?_) (fun u H locs hp hw => ?_)
    · obtain ⟨rfl, rfl, h_5⟩ := hp
      exact ga_out hT hlocks hw (Or.inl ⟨rfl, rfl, Or.inr (Or.inr h_5)⟩) g1 g2 g3 (Nat.le_of_ble_eq_true rfl) (Nat.le_of_ble_eq_true rfl)
    · obtain ⟨rfl, h_5, g_5⟩ := hp
      refine lv_iload_n hx hb d_NetWires_delay_8 rfl (lv_at hl 3 rfl) ?_
      refine lv_sipush (v := 1000) hx hb d_NetWires_delay_9 (by decide) ?_
      refine ga_Sxv (As := [.int ti, .int 1000]) (rest := []) hC hw (c_NetWires_demandTicks l k hst x ti 1000 _) m_NetWires_demandTicks ml_NetWires_121 rfl rfl ⟨Nat.le_of_ble_eq_true rfl, Nat.le_of_ble_eq_true rfl⟩ rfl hl.1 rfl (Nat.le_of_ble_eq_true rfl) d_NetWires_delay_12 ⟨Nat.le_of_ble_eq_true rfl, Nat.le_of_ble_eq_true rfl⟩ (fun E ce q9 u H locs hp hw g1 g2 g3 => ?_) (fun u H locs hp hw => ?_)
      · obtain ⟨rfl, rfl, h_12⟩ := hp
        exact ga_out hT hlocks hw (Or.inr ⟨rfl, rfl, ⟨h_1, g_1, h_5, g_5⟩, h_12⟩) g1 g2 g3 (Nat.le_of_ble_eq_true rfl) (Nat.le_of_ble_eq_true rfl)
      · obtain ⟨rfl, h_12, g_12⟩ := hp
        obtain ⟨i, hi, ei⟩ := xa_16 h_1 g_1
        obtain ⟨j, hj, ej⟩ := xa_16 h_5 g_5
        refine lv_iload_n hx hb d_NetWires_delay_15 rfl (lv_at hl 1 rfl) ?_
        refine lv_iload_n hx hb d_NetWires_delay_16 rfl (lv_at hl 2 rfl) ?_
        refine ga_Si (As := [.int fr, .int to]) (rest := []) hC hw (c_NetWires_linkOf l k x fr to _) m_NetWires_linkOf ml_NetWires_153 rfl rfl ⟨Nat.le_of_ble_eq_true rfl, Nat.le_of_ble_eq_true rfl⟩ rfl hl.1 rfl (Nat.le_of_ble_eq_true rfl) d_NetWires_delay_17 ⟨Nat.le_of_ble_eq_true rfl, Nat.le_of_ble_eq_true rfl⟩ (fun r u H locs hp hw => ?_)
        obtain ⟨rfl, rfl⟩ := hp
        refine ga_asi (v := nI (i * 16 + j)) (by rw [ei, ej]; exact (congrArg (· + nI j) (pk_mul i 16)).trans (nI_add _ _)) ?_
        refine lv_istore (lv' := [(4, .int (nI (i * 16 + j))), (0, .ref (xa_a k 0)), (1, .int fr), (2, .int to), (3, .int ti)]) hx hb d_NetWires_delay_20 hl (by decide) rfl (fun ls hl => ?_)
        refine lv_aload_n hx hb d_NetWires_delay_22 rfl (lv_at hl 1 rfl) ?_
        refine xg_NetWires_delays hC hw fl_NetWires_37 d_NetWires_delay_23 ?_
        refine lv_iload hx hb d_NetWires_delay_26 (lv_at hl 0 rfl) ?_
        refine xr_delays (v := xa_L x (i * 16 + j)) hC hw (vp_in_nI (by omega) (by decide)) d_NetWires_delay_28 (by rw [nI_clamp (by omega)]) ?_
        refine lv_istore (lv' := [(5, .int (xa_L x (i * 16 + j))), (4, .int (nI (i * 16 + j))), (0, .ref (xa_a k 0)), (1, .int fr), (2, .int to), (3, .int ti)]) hx hb d_NetWires_delay_29 hl (by decide) rfl (fun ls hl => ?_)
        refine lv_aload_n hx hb d_NetWires_delay_31 rfl (lv_at hl 2 rfl) ?_
        refine xg_NetWires_delays hC hw fl_NetWires_37 d_NetWires_delay_32 ?_
        refine lv_iload hx hb d_NetWires_delay_35 (lv_at hl 1 rfl) ?_
        refine lv_iload_n hx hb d_NetWires_delay_37 rfl (lv_at hl 5 rfl) ?_
        refine xs_delays hC hw (vp_in_nI (by omega) (by decide)) d_NetWires_delay_38 (fun H locs hw => ?_)
        refine lv_iload hx hb d_NetWires_delay_39 (lv_at hl 0 rfl) ?_
        exact vx_ret (ga_iret (u := xa_sL x (upd (xa_L x) (nI (i * 16 + j)).toNatClampNeg ti)) hC hr hlocks hw ⟨⟨h_12, g_12⟩, i, j, hi, ei, hj, ej, rfl, by rw [nI_clamp (by omega)]⟩ (Nat.le_of_ble_eq_true rfl) (Nat.le_of_ble_eq_true rfl) d_NetWires_delay_41)

set_option maxHeartbeats 4000000 in
set_option maxRecDepth 100000 in
theorem c_NetWires_part (l : Launch) (k : xa_k) (hst : l.stackTraces = false) (x : XS) (set : Int32)  (sz : Nat) : vx_Met l y_NetWires_part (Cond.code y_NetWires_part b_NetWires_part 3 (some .int) :: ga_T) ({ frames := 7, cells := 1, slots := 6, locals := 102 }) (va_Pc [.ref (xa_a k 0), .int set] (ga_pre (xa_K k) (xa_W k x) sz)) (va_Qi (fun (r : Int32) (u : XS) => (¬ set < 0 ∧ ¬ 65535 < set) ∧ r = x.1 2 ∧ u = xa_sI x 2 set) (ga_post (xa_K k) (xa_W k x) sz (xa_W k)) (va_A (xa_W k x) sz)) (ga_XC (xa_K k) (xa_W k x) sz (xa_W k) (fun E u => E = ga_IAE ∧ x = u ∧ (set < 0 ∨ 65535 < set))) 1 6 (va_A (xa_W k x) sz) := by
  refine ga_MetX (by decide) (Nat.le_of_ble_eq_true rfl) ?_
  intro p e s m below meth c hC hr hlocks hT hw ls hl
  have hx := hC.1
  have hb := hC.2.1
  have hl : lv_has ls 3 [(0, .ref (xa_a k 0)), (1, .int set)] := hl
  refine lv_iload_n hx hb d_NetWires_part_0 rfl (lv_at hl 1 rfl) ?_
  refine ga_Sxv (As := [.int set]) (rest := []) hC hw (c_NetWires_demandSet l k hst x set _) m_NetWires_demandSet ml_NetWires_157 rfl rfl ⟨Nat.le_of_ble_eq_true rfl, Nat.le_of_ble_eq_true rfl⟩ rfl hl.1 rfl (Nat.le_of_ble_eq_true rfl) d_NetWires_part_1 ⟨Nat.le_of_ble_eq_true rfl, Nat.le_of_ble_eq_true rfl⟩ (fun E ce q9 u H locs hp hw g1 g2 g3 => ?_) (fun u H locs hp hw => ?_)
  · obtain ⟨rfl, rfl, h_1⟩ := hp
    exact ga_out hT hlocks hw ⟨rfl, rfl, h_1⟩ g1 g2 g3 (Nat.le_of_ble_eq_true rfl) (Nat.le_of_ble_eq_true rfl)
  · obtain ⟨rfl, h_1, g_1⟩ := hp
    refine lv_aload_n hx hb d_NetWires_part_4 rfl (lv_at hl 0 rfl) ?_
    refine xg_NetWires_partedSet (v := x.1 2) hC hw fl_NetWires_54 d_NetWires_part_5 rfl ?_
    refine lv_istore_n (lv' := [(2, .int (x.1 2)), (0, .ref (xa_a k 0)), (1, .int set)]) hx hb d_NetWires_part_8 rfl hl (by decide) rfl (fun ls hl => ?_)
    refine lv_aload_n hx hb d_NetWires_part_9 rfl (lv_at hl 1 rfl) ?_
    refine lv_iload_n hx hb d_NetWires_part_10 rfl (lv_at hl 2 rfl) ?_
    refine xp_NetWires_partedSet hC hw fl_NetWires_54 d_NetWires_part_11 (fun H locs hw => ?_)
    refine lv_iload_n hx hb d_NetWires_part_14 rfl (lv_at hl 0 rfl) ?_
    exact vx_ret (ga_iret (u := xa_sI x 2 set) hC hr hlocks hw ⟨⟨h_1, g_1⟩, rfl, rfl⟩ (Nat.le_of_ble_eq_true rfl) (Nat.le_of_ble_eq_true rfl) d_NetWires_part_15)

set_option maxHeartbeats 4000000 in
set_option maxRecDepth 100000 in
theorem c_NetWires_down (l : Launch) (k : xa_k) (hst : l.stackTraces = false) (x : XS) (set : Int32)  (sz : Nat) : vx_Met l y_NetWires_down (Cond.code y_NetWires_down b_NetWires_down 3 (some .int) :: ga_T) ({ frames := 7, cells := 1, slots := 6, locals := 102 }) (va_Pc [.ref (xa_a k 0), .int set] (ga_pre (xa_K k) (xa_W k x) sz)) (va_Qi (fun (r : Int32) (u : XS) => (¬ set < 0 ∧ ¬ 65535 < set) ∧ r = x.1 3 ∧ u = xa_sI x 3 set) (ga_post (xa_K k) (xa_W k x) sz (xa_W k)) (va_A (xa_W k x) sz)) (ga_XC (xa_K k) (xa_W k x) sz (xa_W k) (fun E u => E = ga_IAE ∧ x = u ∧ (set < 0 ∨ 65535 < set))) 1 6 (va_A (xa_W k x) sz) := by
  refine ga_MetX (by decide) (Nat.le_of_ble_eq_true rfl) ?_
  intro p e s m below meth c hC hr hlocks hT hw ls hl
  have hx := hC.1
  have hb := hC.2.1
  have hl : lv_has ls 3 [(0, .ref (xa_a k 0)), (1, .int set)] := hl
  refine lv_iload_n hx hb d_NetWires_down_0 rfl (lv_at hl 1 rfl) ?_
  refine ga_Sxv (As := [.int set]) (rest := []) hC hw (c_NetWires_demandSet l k hst x set _) m_NetWires_demandSet ml_NetWires_157 rfl rfl ⟨Nat.le_of_ble_eq_true rfl, Nat.le_of_ble_eq_true rfl⟩ rfl hl.1 rfl (Nat.le_of_ble_eq_true rfl) d_NetWires_down_1 ⟨Nat.le_of_ble_eq_true rfl, Nat.le_of_ble_eq_true rfl⟩ (fun E ce q9 u H locs hp hw g1 g2 g3 => ?_) (fun u H locs hp hw => ?_)
  · obtain ⟨rfl, rfl, h_1⟩ := hp
    exact ga_out hT hlocks hw ⟨rfl, rfl, h_1⟩ g1 g2 g3 (Nat.le_of_ble_eq_true rfl) (Nat.le_of_ble_eq_true rfl)
  · obtain ⟨rfl, h_1, g_1⟩ := hp
    refine lv_aload_n hx hb d_NetWires_down_4 rfl (lv_at hl 0 rfl) ?_
    refine xg_NetWires_downSet (v := x.1 3) hC hw fl_NetWires_57 d_NetWires_down_5 rfl ?_
    refine lv_istore_n (lv' := [(2, .int (x.1 3)), (0, .ref (xa_a k 0)), (1, .int set)]) hx hb d_NetWires_down_8 rfl hl (by decide) rfl (fun ls hl => ?_)
    refine lv_aload_n hx hb d_NetWires_down_9 rfl (lv_at hl 1 rfl) ?_
    refine lv_iload_n hx hb d_NetWires_down_10 rfl (lv_at hl 2 rfl) ?_
    refine xp_NetWires_downSet hC hw fl_NetWires_57 d_NetWires_down_11 (fun H locs hw => ?_)
    refine lv_iload_n hx hb d_NetWires_down_14 rfl (lv_at hl 0 rfl) ?_
    exact vx_ret (ga_iret (u := xa_sI x 3 set) hC hr hlocks hw ⟨⟨h_1, g_1⟩, rfl, rfl⟩ (Nat.le_of_ble_eq_true rfl) (Nat.le_of_ble_eq_true rfl) d_NetWires_down_15)

set_option maxHeartbeats 4000000 in
set_option maxRecDepth 100000 in
theorem c_NetWires_noise (l : Launch) (k : xa_k) (hst : l.stackTraces = false) (x : XS) (a b c9 : Int32) (d9 : Int64)  (sz : Nat) : vx_Met l y_NetWires_noise (Cond.code y_NetWires_noise b_NetWires_noise 6 none :: ga_T) ({ frames := 6, cells := 1, slots := 6, locals := 82 }) (va_Pc [.ref (xa_a k 0), .int a, .int b, .int c9, .long d9] (ga_pre (xa_K k) (xa_W k x) sz)) (va_Qv (fun (u : XS) => (¬ a < 0 ∧ ¬ 1000 < a ∧ ¬ b < 0 ∧ ¬ 1000 < b ∧ ¬ c9 < 0 ∧ ¬ 1000 < c9) ∧ u = xa_sD (xa_sI (xa_sI (xa_sI x 12 a) 13 b) 14 c9) d9) (ga_post (xa_K k) (xa_W k x) sz (xa_W k)) (va_A (xa_W k x) sz)) (ga_XC (xa_K k) (xa_W k x) sz (xa_W k) (fun E u => E = ga_IAE ∧ x = u ∧ ¬ (¬ a < 0 ∧ ¬ 1000 < a ∧ ¬ b < 0 ∧ ¬ 1000 < b ∧ ¬ c9 < 0 ∧ ¬ 1000 < c9))) 1 6 (va_A (xa_W k x) sz) := by
  refine ga_MetX (by decide) (Nat.le_of_ble_eq_true rfl) ?_
  intro p e s m below meth c hC hr hlocks hT hw ls hl
  have hx := hC.1
  have hb := hC.2.1
  have hl : lv_has ls 6 [(0, .ref (xa_a k 0)), (1, .int a), (2, .int b), (3, .int c9), (4, .long d9)] := hl
  refine lv_iload_n hx hb d_NetWires_noise_0 rfl (lv_at hl 1 rfl) ?_
  refine lv_iconst (v := 0) hx hb d_NetWires_noise_1 (by decide) ?_
  refine lv_sipush (v := 1000) hx hb d_NetWires_noise_2 (by decide) ?_
  refine ga_Si (As := [.int a, .int 0, .int 1000]) (rest := []) hC hw (c_NetWires_isWithin l k x a 0 1000 _) m_NetWires_isWithin ml_NetWires_140 rfl rfl ⟨Nat.le_of_ble_eq_true rfl, Nat.le_of_ble_eq_true rfl⟩ rfl hl.1 rfl (Nat.le_of_ble_eq_true rfl) d_NetWires_noise_5 ⟨Nat.le_of_ble_eq_true rfl, Nat.le_of_ble_eq_true rfl⟩ (fun r u H locs hp hw => ?_)
  obtain ⟨rfl, hp⟩ := hp
  rcases hp with ⟨rfl, ⟨h_5, g_5⟩⟩ | ⟨rfl, h_5⟩
  · refine lv_if_eq (tgt := 33) hx hb d_NetWires_noise_8 (by decide) (fun c_8 => ?_) (fun c_8 => ?_)
    · exact absurd c_8 (by decide)
    · refine lv_iload_n hx hb d_NetWires_noise_11 rfl (lv_at hl 2 rfl) ?_
      refine lv_iconst (v := 0) hx hb d_NetWires_noise_12 (by decide) ?_
      refine lv_sipush (v := 1000) hx hb d_NetWires_noise_13 (by decide) ?_
      refine ga_Si (As := [.int b, .int 0, .int 1000]) (rest := []) hC hw (c_NetWires_isWithin l k x b 0 1000 _) m_NetWires_isWithin ml_NetWires_140 rfl rfl ⟨Nat.le_of_ble_eq_true rfl, Nat.le_of_ble_eq_true rfl⟩ rfl hl.1 rfl (Nat.le_of_ble_eq_true rfl) d_NetWires_noise_16 ⟨Nat.le_of_ble_eq_true rfl, Nat.le_of_ble_eq_true rfl⟩ (fun r u H locs hp hw => ?_)
      obtain ⟨rfl, hp⟩ := hp
      rcases hp with ⟨rfl, ⟨h_16, g_16⟩⟩ | ⟨rfl, h_16⟩
      · refine lv_if_eq (tgt := 33) hx hb d_NetWires_noise_19 (by decide) (fun c_19 => ?_) (fun c_19 => ?_)
        · exact absurd c_19 (by decide)
        · refine lv_iload_n hx hb d_NetWires_noise_22 rfl (lv_at hl 3 rfl) ?_
          refine lv_iconst (v := 0) hx hb d_NetWires_noise_23 (by decide) ?_
          refine lv_sipush (v := 1000) hx hb d_NetWires_noise_24 (by decide) ?_
          refine ga_Si (As := [.int c9, .int 0, .int 1000]) (rest := []) hC hw (c_NetWires_isWithin l k x c9 0 1000 _) m_NetWires_isWithin ml_NetWires_140 rfl rfl ⟨Nat.le_of_ble_eq_true rfl, Nat.le_of_ble_eq_true rfl⟩ rfl hl.1 rfl (Nat.le_of_ble_eq_true rfl) d_NetWires_noise_27 ⟨Nat.le_of_ble_eq_true rfl, Nat.le_of_ble_eq_true rfl⟩ (fun r u H locs hp hw => ?_)
          obtain ⟨rfl, hp⟩ := hp
          rcases hp with ⟨rfl, ⟨h_27, g_27⟩⟩ | ⟨rfl, h_27⟩
          · refine lv_if_ne (tgt := 43) hx hb d_NetWires_noise_30 (by decide) (fun c_30 => ?_) (fun c_30 => ?_)
            · refine lv_aload_n hx hb d_NetWires_noise_43 rfl (lv_at hl 0 rfl) ?_
              refine xg_NetWires_disturbance hC hw fl_NetWires_33 d_NetWires_noise_44 ?_
              refine lv_iload_n hx hb d_NetWires_noise_47 rfl (lv_at hl 1 rfl) ?_
              refine lv_iload_n hx hb d_NetWires_noise_48 rfl (lv_at hl 2 rfl) ?_
              refine lv_iload_n hx hb d_NetWires_noise_49 rfl (lv_at hl 3 rfl) ?_
              refine lv_lload hx hb d_NetWires_noise_50 (lv_at hl 4 rfl) ?_
              refine ga_Vv (As := [.int a, .int b, .int c9, .long d9]) (rest := []) hC hw (c_Noise_set l k x a b c9 d9 _) m_Noise_set ml_NetWires_162 (ga_recv hw (q0 := 7) rfl rfl) rfl rfl ⟨Nat.le_of_ble_eq_true rfl, Nat.le_of_ble_eq_true rfl⟩ rfl hl.1 rfl (Nat.le_of_ble_eq_true rfl) d_NetWires_noise_52 ⟨Nat.le_of_ble_eq_true rfl, Nat.le_of_ble_eq_true rfl⟩ (fun u H locs hp hw => ?_)
              subst hp
              exact vx_ret (ga_vret (u := xa_sD (xa_sI (xa_sI (xa_sI x 12 a) 13 b) 14 c9) d9) hC hr hlocks hw ⟨⟨h_5, g_5, h_16, g_16, h_27, g_27⟩, rfl⟩ (Nat.le_of_ble_eq_true rfl) (Nat.le_of_ble_eq_true rfl) d_NetWires_noise_55)
            · exact absurd c_30 (by decide)
          · refine lv_if_ne (tgt := 43) hx hb d_NetWires_noise_30 (by decide) (fun c_30 => ?_) (fun c_30 => ?_)
            · exact absurd c_30 (by decide)
            · exact ga_thIAE (u := x) hst hC hT hlocks hw hl.1 (is := 160) (tx := "loss, twice and spread are not all 0 .. 1000") (by decide +kernel) ⟨rfl, rfl, fun h => h_27.elim h.2.2.2.2.1 h.2.2.2.2.2⟩ d_NetWires_noise_33 d_NetWires_noise_36 d_NetWires_noise_37 d_NetWires_noise_39 d_NetWires_noise_42 (Nat.le_of_ble_eq_true rfl) (Nat.le_of_ble_eq_true rfl) (Nat.le_of_ble_eq_true rfl) (Nat.le_of_ble_eq_true rfl) (Nat.le_of_ble_eq_true rfl) (Nat.le_of_ble_eq_true rfl)
      · refine lv_if_eq (tgt := 33) hx hb d_NetWires_noise_19 (by decide) (fun c_19 => ?_) (fun c_19 => ?_)
        · exact ga_thIAE (u := x) hst hC hT hlocks hw hl.1 (is := 160) (tx := "loss, twice and spread are not all 0 .. 1000") (by decide +kernel) ⟨rfl, rfl, fun h => h_16.elim h.2.2.1 h.2.2.2.1⟩ d_NetWires_noise_33 d_NetWires_noise_36 d_NetWires_noise_37 d_NetWires_noise_39 d_NetWires_noise_42 (Nat.le_of_ble_eq_true rfl) (Nat.le_of_ble_eq_true rfl) (Nat.le_of_ble_eq_true rfl) (Nat.le_of_ble_eq_true rfl) (Nat.le_of_ble_eq_true rfl) (Nat.le_of_ble_eq_true rfl)
        · exact absurd c_19 (by decide)
  · refine lv_if_eq (tgt := 33) hx hb d_NetWires_noise_8 (by decide) (fun c_8 => ?_) (fun c_8 => ?_)
    · exact ga_thIAE (u := x) hst hC hT hlocks hw hl.1 (is := 160) (tx := "loss, twice and spread are not all 0 .. 1000") (by decide +kernel) ⟨rfl, rfl, fun h => h_5.elim h.1 h.2.1⟩ d_NetWires_noise_33 d_NetWires_noise_36 d_NetWires_noise_37 d_NetWires_noise_39 d_NetWires_noise_42 (Nat.le_of_ble_eq_true rfl) (Nat.le_of_ble_eq_true rfl) (Nat.le_of_ble_eq_true rfl) (Nat.le_of_ble_eq_true rfl) (Nat.le_of_ble_eq_true rfl) (Nat.le_of_ble_eq_true rfl)
    · exact absurd c_8 (by decide)

set_option maxHeartbeats 4000000 in
set_option maxRecDepth 100000 in
theorem c_NetWires_happened (l : Launch) (k : xa_k) (x : XS) (k9 wh : Int32) (w kp : Nat) (hw9 : x.1 9 = nI w) (hw2 : w < 32) (hk9 : x.1 10 = nI kp) (hk2 : kp ≤ 32) (sz : Nat) : Met l y_NetWires_happened (Cond.code y_NetWires_happened b_NetWires_happened 3 (some .int) :: ga_T) ({ frames := 1, cells := 0, slots := 0, locals := 23 }) (va_Pc [.ref (xa_a k 0), .int k9, .int wh] (ga_pre (xa_K k) (xa_W k x) sz)) (va_Qi (fun (r : Int32) (u : XS) => x = u ∧ ((r = -1 ∧ (k9 < 0 ∨ nI kp ≤ k9 ∨ wh < 0 ∨ ¬ wh < 4)) ∨ (∃ i j, i < kp ∧ k9 = nI i ∧ j < 4 ∧ wh = nI j ∧ r = xa_F x ((w + 32 - i) % 32 * 4 + j)))) (ga_post (xa_K k) (xa_W k x) sz (xa_W k)) (va_A (xa_W k x) sz)) 0 0 (va_A (xa_W k x) sz) := by
  refine ga_Met (by decide) (Nat.le_of_ble_eq_true rfl) ?_
  intro p e s m below meth c hC hr hlocks _ hw ls hl
  have hx := hC.1
  have hb := hC.2.1
  have hl : lv_has ls 3 [(0, .ref (xa_a k 0)), (1, .int k9), (2, .int wh)] := hl
  refine lv_aload_n hx hb d_NetWires_happened_0 rfl (lv_at hl 0 rfl) ?_
  refine xg_NetWires_history hC hw fl_NetWires_26 d_NetWires_happened_1 ?_
  refine lv_iload_n hx hb d_NetWires_happened_4 rfl (lv_at hl 1 rfl) ?_
  refine lv_iload_n hx hb d_NetWires_happened_5 rfl (lv_at hl 2 rfl) ?_
  refine ga_Vi (As := [.int k9, .int wh]) (rest := []) hC hw (c_History_fact l k x k9 wh w kp hw9 hw2 hk9 hk2 _) m_History_fact ml_NetWires_198 (ga_recv hw (q0 := 5) rfl rfl) rfl rfl ⟨Nat.le_of_ble_eq_true rfl, Nat.le_of_ble_eq_true rfl⟩ rfl hl.1 rfl (Nat.le_of_ble_eq_true rfl) d_NetWires_happened_6 ⟨Nat.le_of_ble_eq_true rfl, Nat.le_of_ble_eq_true rfl⟩ (fun r u H locs hp hw => ?_)
  obtain ⟨rfl, hp⟩ := hp
  exact ga_iret (u := x) hC hr hlocks hw ⟨rfl, hp⟩ (Nat.le_of_ble_eq_true rfl) (Nat.le_of_ble_eq_true rfl) d_NetWires_happened_9

set_option maxHeartbeats 4000000 in
set_option maxRecDepth 100000 in
theorem c_NetWires_byteAt (l : Launch) (k : xa_k) (hst : l.stackTraces = false) (x : XS) (i9 : Int32) (al : Nat) (af : Nat → Int32) (hA : xa_isB k (xa_P x) (xa_B x) al af) (hal : al < 4000) (sz : Nat) : vx_Met l y_NetWires_byteAt (Cond.code y_NetWires_byteAt b_NetWires_byteAt 2 (some .int) :: ga_T) ({ frames := 6, cells := 1, slots := 6, locals := 82 }) (va_Pc [.ref (xa_a k 0), .int i9] (ga_pre (xa_K k) (xa_W k x) sz)) (va_Qi (fun (r : Int32) (u : XS) => x = u ∧ ∃ j, j < al ∧ i9 = nI j ∧ r = af j &&& 255) (ga_post (xa_K k) (xa_W k x) sz (xa_W k)) (va_A (xa_W k x) sz)) (ga_XC (xa_K k) (xa_W k x) sz (xa_W k) (fun E u => E = ga_IOB ∧ x = u ∧ (i9 < 0 ∨ nI al ≤ i9))) 1 6 (va_A (xa_W k x) sz) := by
  refine ga_MetX (by decide) (Nat.le_of_ble_eq_true rfl) ?_
  intro p e s m below meth c hC hr hlocks hT hw ls hl
  have hx := hC.1
  have hb := hC.2.1
  have hl : lv_has ls 2 [(0, .ref (xa_a k 0)), (1, .int i9)] := hl
  refine lv_iload_n hx hb d_NetWires_byteAt_0 rfl (lv_at hl 1 rfl) ?_
  refine lv_if_lt (tgt := 13) hx hb d_NetWires_byteAt_1 (by decide) (fun c_1 => ?_) (fun c_1 => ?_)
  · exact ga_thIOB (u := x) hst hC hT hlocks hw hl.1 (is := 196) (tx := "no such byte") (by decide +kernel) ⟨rfl, rfl, Or.inl c_1⟩ d_NetWires_byteAt_13 d_NetWires_byteAt_16 d_NetWires_byteAt_17 d_NetWires_byteAt_19 d_NetWires_byteAt_22 (Nat.le_of_ble_eq_true rfl) (Nat.le_of_ble_eq_true rfl) (Nat.le_of_ble_eq_true rfl) (Nat.le_of_ble_eq_true rfl) (Nat.le_of_ble_eq_true rfl) (Nat.le_of_ble_eq_true rfl)
  · refine lv_iload_n hx hb d_NetWires_byteAt_4 rfl (lv_at hl 1 rfl) ?_
    refine lv_aload_n hx hb d_NetWires_byteAt_5 rfl (lv_at hl 0 rfl) ?_
    refine xg_NetWires_arrivedBytes (v := xa_B x) hC hw fl_NetWires_70 d_NetWires_byteAt_6 rfl ?_
    refine xr_len (v := nI al) hC hw hA d_NetWires_byteAt_9 rfl ?_
    refine lv_icmp_lt (tgt := 23) hx hb d_NetWires_byteAt_10 (by decide) (fun c_10 => ?_) (fun c_10 => ?_)
    · obtain ⟨j, hj, ej⟩ := xa_ix2 (n := al) (by omega) c_1 c_10
      refine lv_aload_n hx hb d_NetWires_byteAt_23 rfl (lv_at hl 0 rfl) ?_
      refine xg_NetWires_arrivedBytes (v := xa_B x) hC hw fl_NetWires_70 d_NetWires_byteAt_24 rfl ?_
      refine lv_iload_n hx hb d_NetWires_byteAt_27 rfl (lv_at hl 1 rfl) ?_
      refine xr_byte (v := af i9.toNatClampNeg) hC hw hA (by rw [ej]; exact vp_in_nI hj (by omega)) d_NetWires_byteAt_28 rfl ?_
      refine lv_sipush (v := 255) hx hb d_NetWires_byteAt_29 (by decide) ?_
      refine lv_iand hx hb d_NetWires_byteAt_32 ?_
      exact vx_ret (ga_iret (u := x) hC hr hlocks hw ⟨rfl, j, hj, ej, by rw [ej, nI_clamp (by omega)]⟩ (Nat.le_of_ble_eq_true rfl) (Nat.le_of_ble_eq_true rfl) d_NetWires_byteAt_33)
    · exact ga_thIOB (u := x) hst hC hT hlocks hw hl.1 (is := 196) (tx := "no such byte") (by decide +kernel) ⟨rfl, rfl, Or.inr (Int32.not_lt.mp c_10)⟩ d_NetWires_byteAt_13 d_NetWires_byteAt_16 d_NetWires_byteAt_17 d_NetWires_byteAt_19 d_NetWires_byteAt_22 (Nat.le_of_ble_eq_true rfl) (Nat.le_of_ble_eq_true rfl) (Nat.le_of_ble_eq_true rfl) (Nat.le_of_ble_eq_true rfl) (Nat.le_of_ble_eq_true rfl) (Nat.le_of_ble_eq_true rfl)

set_option maxHeartbeats 4000000 in
set_option maxRecDepth 100000 in
theorem c_NetWires_count (l : Launch) (k : xa_k) (x : XS) (wh : Int32) (al : Nat) (af : Nat → Int32) (hA : xa_isB k (xa_P x) (xa_B x) al af) (sz : Nat) : Met l y_NetWires_count (Cond.code y_NetWires_count b_NetWires_count 2 (some .int) :: ga_T) ({ frames := 0, cells := 0, slots := 0, locals := 0 }) (va_Pc [.ref (xa_a k 0), .int wh] (ga_pre (xa_K k) (xa_W k x) sz)) (va_Qi (fun (r : Int32) (u : XS) => x = u ∧ ((wh = nI 0 ∧ r = x.1 0) ∨ (wh = nI 1 ∧ r = x.1 8) ∨ (wh = nI 2 ∧ r = x.1 4) ∨ (wh = nI 3 ∧ r = x.1 5) ∨ (wh = nI 4 ∧ r = x.1 11) ∨ (wh = nI 5 ∧ r = x.1 1) ∨ (wh = nI 6 ∧ r = x.1 6) ∨ (wh = nI 7 ∧ r = nI al) ∨ ((wh.toInt < 0 ∨ 7 < wh.toInt) ∧ r = -1))) (ga_post (xa_K k) (xa_W k x) sz (xa_W k)) (va_A (xa_W k x) sz)) 0 0 (va_A (xa_W k x) sz) := by
  refine ga_Met (by decide) (Nat.le_of_ble_eq_true rfl) ?_
  intro p e s m below meth c hC hr hlocks _ hw ls hl
  have hx := hC.1
  have hb := hC.2.1
  have hl : lv_has ls 2 [(0, .ref (xa_a k 0)), (1, .int wh)] := hl
  refine lv_iload_n hx hb d_NetWires_count_0 rfl (lv_at hl 1 rfl) ?_
  rcases xa_sw 7 (by decide) wh with ⟨j_1, hj_1, e_1⟩ | h_1
  · rcases (show j_1 = 0 ∨ j_1 = 1 ∨ j_1 = 2 ∨ j_1 = 3 ∨ j_1 = 4 ∨ j_1 = 5 ∨ j_1 = 6 ∨ j_1 = 7 by omega) with rfl | rfl | rfl | rfl | rfl | rfl | rfl | rfl
    · refine ga_asi (v := nI 0) e_1 ?_
      refine lv_tableIn (off := 47) (tgt := 48) hx hb d_NetWires_count_1 (by decide) (by decide) rfl (by decide) ?_
      refine lv_aload_n hx hb d_NetWires_count_48 rfl (lv_at hl 0 rfl) ?_
      refine xg_NetWires_now (v := x.1 0) hC hw fl_NetWires_47 d_NetWires_count_49 rfl ?_
      exact ga_iret (u := x) hC hr hlocks hw ⟨rfl, Or.inl ⟨e_1, rfl⟩⟩ (Nat.le_of_ble_eq_true rfl) (Nat.le_of_ble_eq_true rfl) d_NetWires_count_52
    · refine ga_asi (v := nI 1) e_1 ?_
      refine lv_tableIn (off := 52) (tgt := 53) hx hb d_NetWires_count_1 (by decide) (by decide) rfl (by decide) ?_
      refine lv_aload_n hx hb d_NetWires_count_53 rfl (lv_at hl 0 rfl) ?_
      refine xg_NetWires_agenda hC hw fl_NetWires_19 d_NetWires_count_54 ?_
      refine xg_Agenda_messages (v := x.1 8) hC hw fl_NetWires_206 d_NetWires_count_57 rfl ?_
      exact ga_iret (u := x) hC hr hlocks hw ⟨rfl, Or.inr (Or.inl ⟨e_1, rfl⟩)⟩ (Nat.le_of_ble_eq_true rfl) (Nat.le_of_ble_eq_true rfl) d_NetWires_count_60
    · refine ga_asi (v := nI 2) e_1 ?_
      refine lv_tableIn (off := 60) (tgt := 61) hx hb d_NetWires_count_1 (by decide) (by decide) rfl (by decide) ?_
      refine lv_aload_n hx hb d_NetWires_count_61 rfl (lv_at hl 0 rfl) ?_
      refine xg_NetWires_everOnWay (v := x.1 4) hC hw fl_NetWires_60 d_NetWires_count_62 rfl ?_
      exact ga_iret (u := x) hC hr hlocks hw ⟨rfl, Or.inr (Or.inr (Or.inl ⟨e_1, rfl⟩))⟩ (Nat.le_of_ble_eq_true rfl) (Nat.le_of_ble_eq_true rfl) d_NetWires_count_65
    · refine ga_asi (v := nI 3) e_1 ?_
      refine lv_tableIn (off := 65) (tgt := 66) hx hb d_NetWires_count_1 (by decide) (by decide) rfl (by decide) ?_
      refine lv_aload_n hx hb d_NetWires_count_66 rfl (lv_at hl 0 rfl) ?_
      refine xg_NetWires_lost (v := x.1 5) hC hw fl_NetWires_63 d_NetWires_count_67 rfl ?_
      exact ga_iret (u := x) hC hr hlocks hw ⟨rfl, Or.inr (Or.inr (Or.inr (Or.inl ⟨e_1, rfl⟩)))⟩ (Nat.le_of_ble_eq_true rfl) (Nat.le_of_ble_eq_true rfl) d_NetWires_count_70
    · refine ga_asi (v := nI 4) e_1 ?_
      refine lv_tableIn (off := 70) (tgt := 71) hx hb d_NetWires_count_1 (by decide) (by decide) rfl (by decide) ?_
      refine lv_aload_n hx hb d_NetWires_count_71 rfl (lv_at hl 0 rfl) ?_
      refine xg_NetWires_history hC hw fl_NetWires_26 d_NetWires_count_72 ?_
      refine xg_History_total (v := x.1 11) hC hw fl_NetWires_209 d_NetWires_count_75 rfl ?_
      exact ga_iret (u := x) hC hr hlocks hw ⟨rfl, Or.inr (Or.inr (Or.inr (Or.inr (Or.inl ⟨e_1, rfl⟩))))⟩ (Nat.le_of_ble_eq_true rfl) (Nat.le_of_ble_eq_true rfl) d_NetWires_count_78
    · refine ga_asi (v := nI 5) e_1 ?_
      refine lv_tableIn (off := 78) (tgt := 79) hx hb d_NetWires_count_1 (by decide) (by decide) rfl (by decide) ?_
      refine lv_aload_n hx hb d_NetWires_count_79 rfl (lv_at hl 0 rfl) ?_
      refine xg_NetWires_nextNumber (v := x.1 1) hC hw fl_NetWires_51 d_NetWires_count_80 rfl ?_
      exact ga_iret (u := x) hC hr hlocks hw ⟨rfl, Or.inr (Or.inr (Or.inr (Or.inr (Or.inr (Or.inl ⟨e_1, rfl⟩)))))⟩ (Nat.le_of_ble_eq_true rfl) (Nat.le_of_ble_eq_true rfl) d_NetWires_count_83
    · refine ga_asi (v := nI 6) e_1 ?_
      refine lv_tableIn (off := 83) (tgt := 84) hx hb d_NetWires_count_1 (by decide) (by decide) rfl (by decide) ?_
      refine lv_aload_n hx hb d_NetWires_count_84 rfl (lv_at hl 0 rfl) ?_
      refine xg_NetWires_tape hC hw fl_NetWires_12 d_NetWires_count_85 ?_
      refine xg_Tape_length (v := x.1 6) hC hw fl_NetWires_93 d_NetWires_count_88 rfl ?_
      exact ga_iret (u := x) hC hr hlocks hw ⟨rfl, Or.inr (Or.inr (Or.inr (Or.inr (Or.inr (Or.inr (Or.inl ⟨e_1, rfl⟩))))))⟩ (Nat.le_of_ble_eq_true rfl) (Nat.le_of_ble_eq_true rfl) d_NetWires_count_91
    · refine ga_asi (v := nI 7) e_1 ?_
      refine lv_tableIn (off := 91) (tgt := 92) hx hb d_NetWires_count_1 (by decide) (by decide) rfl (by decide) ?_
      refine lv_aload_n hx hb d_NetWires_count_92 rfl (lv_at hl 0 rfl) ?_
      refine xg_NetWires_arrivedBytes (v := xa_B x) hC hw fl_NetWires_70 d_NetWires_count_93 rfl ?_
      refine xr_len (v := nI al) hC hw hA d_NetWires_count_96 rfl ?_
      exact ga_iret (u := x) hC hr hlocks hw ⟨rfl, Or.inr (Or.inr (Or.inr (Or.inr (Or.inr (Or.inr (Or.inr (Or.inl ⟨e_1, rfl⟩)))))))⟩ (Nat.le_of_ble_eq_true rfl) (Nat.le_of_ble_eq_true rfl) d_NetWires_count_97
  · refine lv_tableOut (tgt := 98) hx hb d_NetWires_count_1 h_1 (by decide) ?_
    refine lv_iconst (v := (-1)) hx hb d_NetWires_count_98 (by decide) ?_
    exact ga_iret (u := x) hC hr hlocks hw ⟨rfl, Or.inr (Or.inr (Or.inr (Or.inr (Or.inr (Or.inr (Or.inr (Or.inr (⟨h_1, rfl⟩))))))))⟩ (Nat.le_of_ble_eq_true rfl) (Nat.le_of_ble_eq_true rfl) d_NetWires_count_99
