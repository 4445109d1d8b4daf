/-- what the wrapper of feed leaves: r says which throw came -/
def lo_feed (x : XS) (e9 : Int64) (n9 : Int32) (t : Nat) (r : Int32) (u : (Nat → Int64) × XS) : Prop := (r = 0 ∧ ∃ v7 : Int32, u.1 0 = v7.toInt64 ∧ (∃ n, 1 ≤ n ∧ n ≤ 8 ∧ n9 = nI n ∧ t + n ≤ 2048 ∧ v7 = nI (t + n) ∧ u.2 = xa_sI (xa_sT x (xa_fd (xa_T x) t e9 n)) 6 (nI (t + n)))) ∨ (r = 1 ∧ (x = u.2 ∧ ((ga_IAE = ga_IAE ∧ (n9 < 1 ∨ ¬ n9 ≤ 8)) ∨ (ga_IAE = ga_ISE ∧ ∃ n, 1 ≤ n ∧ n ≤ 8 ∧ n9 = nI n ∧ 2048 < t + n)))) ∨ (r = 2 ∧ (x = u.2 ∧ ((ga_ISE = ga_IAE ∧ (n9 < 1 ∨ ¬ n9 ≤ 8)) ∨ (ga_ISE = ga_ISE ∧ ∃ n, 1 ≤ n ∧ n ≤ 8 ∧ n9 = nI n ∧ 2048 < t + n))))
set_option maxHeartbeats 4000000 in
set_option maxRecDepth 100000 in
theorem c_L_feed (l : Launch) (k : xa_k) (hst : l.stackTraces = false) (x : XS) (o7 : Nat) (g7 : Nat → Int64) (e9 : Int64) (n9 : Int32) (t : Nat) (ht : x.1 6 = nI t) (ht2 : t ≤ 2048) (sz : Nat) : Met l y_L_feed (Cond.codeWith y_L_feed b_L_feed 6 (some .int) hh_L_feed :: ga_T) ({ frames := 7, cells := 1, slots := 6, locals := 106 }) (va_Pc [.ref (xa_a k 0), .long e9, .int n9, .ref o7] (ga_pre (xa_K k) (la_W k o7 (g7, x)) sz)) (va_Qi (fun (r : Int32) (u : (Nat → Int64) × XS) => lo_feed x e9 n9 t r u) (ga_post (xa_K k) (la_W k o7 (g7, x)) sz (la_W k o7)) (va_A (la_W k o7 (g7, x)) sz)) 1 6 (va_A (la_W k o7 (g7, x)) sz) := by
  refine ga_MetW (by decide) (Nat.le_of_ble_eq_true rfl) ?_
  intro p e s m below meth c hC hr hlocks hT hw ls hl
  have hx := hC.1
  have hb := hC.2.1
  have hl : lv_has ls 6 [(0, .ref (xa_a k 0)), (1, .long e9), (3, .int n9), (4, .ref o7)] := hl
  have hw : ga_w (xa_K k) (xa_W k x ++ [la_o k o7 g7]) (va_A (la_W k o7 (g7, x)) sz) s s.heap [] := hw
  refine lv_aload hx hb d_L_feed_0 (lv_at hl 3 rfl) ?_
  refine lv_iconst (v := 0) hx hb d_L_feed_2 (by decide) ?_
  refine lv_aload_n hx hb d_L_feed_3 rfl (lv_at hl 0 rfl) ?_
  refine lv_lload_n hx hb d_L_feed_4 rfl (lv_at hl 1 rfl) ?_
  refine lv_iload_n hx hb d_L_feed_5 rfl (lv_at hl 2 rfl) ?_
  refine ga_VxiL (As := [.long e9, .int n9]) (rest := [.int 0, .ref o7]) hC hw (c_NetWires_feed l k hst x e9 n9 t ht ht2 _) m_NetWires_feed ml_L_7 (ga_recv (ga_subL hw) (q0 := 0) rfl rfl) rfl rfl ⟨Nat.le_of_ble_eq_true rfl, Nat.le_of_ble_eq_true rfl⟩ rfl hl.1 rfl (Nat.le_of_ble_eq_true rfl) d_L_feed_6 ⟨Nat.le_of_ble_eq_true rfl, Nat.le_of_ble_eq_true rfl⟩ (fun E ce q9 u H locs hp hw g1 g2 g3 => ?_) (fun r u H locs hp hw => ?_)
  · have hE : E = ga_IAE ∨ E = ga_ISE := hp.2.imp And.left And.left
    rcases hE with rfl | rfl
    · refine ga_catch hC hw [] ⟨0, 11, 14, 13⟩ [⟨0, 11, 18, 15⟩] hT (fun z hz => nomatch hz) rfl (by decide) kl_L_13 (by decide) g1 g2 g3 ?_
      refine lv_astore (lv' := [(5, .ref q9), (0, .ref (xa_a k 0)), (1, .long e9), (3, .int n9), (4, .ref o7)]) hx hb d_L_feed_14 hl (by decide) rfl (fun ls hl => ?_)
      refine lv_iconst (v := 1) hx hb d_L_feed_16 (by decide) ?_
      exact ga_iret (u := (g7, u)) hC hr hlocks hw (Or.inr (Or.inl ⟨rfl, hp⟩)) (Nat.le_of_ble_eq_true rfl) (Nat.le_of_ble_eq_true rfl) d_L_feed_17
    · refine ga_catch hC hw [⟨0, 11, 14, 13⟩] ⟨0, 11, 18, 15⟩ [] hT (fun z hz => by rcases List.mem_singleton.mp hz with rfl; exact ⟨by decide, ga_IAE, kl_L_13, (ga_Nc hw).1⟩) rfl (by decide) kl_L_15 (by decide) g1 g2 g3 ?_
      refine lv_astore (lv' := [(5, .ref q9), (0, .ref (xa_a k 0)), (1, .long e9), (3, .int n9), (4, .ref o7)]) hx hb d_L_feed_18 hl (by decide) rfl (fun ls hl => ?_)
      refine lv_iconst (v := 2) hx hb d_L_feed_20 (by decide) ?_
      exact ga_iret (u := (g7, u)) hC hr hlocks hw (Or.inr (Or.inr (⟨rfl, hp⟩))) (Nat.le_of_ble_eq_true rfl) (Nat.le_of_ble_eq_true rfl) d_L_feed_21
  · refine lv_i2l hx hb d_L_feed_9 rfl ?_
    refine la_put hC hw d_L_feed_10 (fun H locs hw => ?_)
    refine lv_goto (tgt := 22) hx hb d_L_feed_11 (by decide) ?_
    refine lv_iconst (v := 0) hx hb d_L_feed_22 (by decide) ?_
    exact ga_iret (u := (vp_updL g7 0 r.toInt64, u)) hC hr hlocks hw (Or.inl ⟨rfl, r, pk_uLs (f := g7) (k := 0) (x := r.toInt64), hp⟩) (Nat.le_of_ble_eq_true rfl) (Nat.le_of_ble_eq_true rfl) d_L_feed_23

/-- what the wrapper of send leaves: r says which throw came -/
def lo_send (k : xa_k) (x : XS) (fr to : Int32) (n t sp : Nat) (r : Int32) (u : (Nat → Int64) × XS) : Prop := (r = 0 ∧ ∃ v7 : Int32, u.1 0 = v7.toInt64 ∧ (∃ b f P2, xa_ext (xa_P x) P2 ∧ xa_isB k P2 b t f ∧ (∀ j, j < t → f j = xa_T x j) ∧ ∃ i9 j9, i9 < 16 ∧ fr = nI i9 ∧ j9 < 16 ∧ to = nI j9 ∧ ((xa_par x fr to ∧ v7 = 0 ∧ u.2 = xa_sI (xa_sI (xa_sP x P2) 6 0) 5 (x.1 5 + 1)) ∨ (¬ xa_par x fr to ∧ (x.1 12 = 0 ∧ x.1 13 = 0 ∧ x.1 14 = 0) ∧ xa_lau (xa_sI (xa_sP x P2) 6 0) n i9 j9 fr to 0 b v7 u.2) ∨ (¬ xa_par x fr to ∧ ¬ (x.1 12 = 0 ∧ x.1 13 = 0 ∧ x.1 14 = 0) ∧ xa_noi (xa_sI (xa_sP x P2) 6 0) n i9 j9 sp fr to b v7 u.2)))) ∨ (r = 1 ∧ (ga_IOB = ga_IOB ∧ (∃ P2, xa_ext (xa_P x) P2 ∧ u.2 = xa_sI (xa_sP x P2) 6 0) ∧ (fr < 0 ∨ 15 < fr ∨ to < 0 ∨ 15 < to)))
set_option maxHeartbeats 4000000 in
set_option maxRecDepth 100000 in
theorem c_L_send (l : Launch) (k : xa_k) (hst : l.stackTraces = false) (x : XS) (o7 : Nat) (g7 : Nat → Int64) (fr to : Int32) (n t sp : Nat) (h0 : xa_R0 x n) (ht : x.1 6 = nI t) (ht2 : t ≤ 2048) (hfit : ∀ j, j < 2048 → fits .byte (.int (xa_T x j)) = true) (hsp : x.1 14 = nI sp) (hsp2 : sp ≤ 1000) (hn : x.1 8 < 200 → n < 232) (hn2 : x.1 8 + 1 < 200 → n + 1 < 232) (sz : Nat) : Met l y_L_send (Cond.codeWith y_L_send b_L_send 5 (some .int) hh_L_send :: ga_T) ({ frames := 8, cells := 5, slots := 2072, locals := 164 }) (va_Pc [.ref (xa_a k 0), .int fr, .int to, .ref o7] (ga_pre (xa_K k) (la_W k o7 (g7, x)) sz)) (va_Qi (fun (r : Int32) (u : (Nat → Int64) × XS) => lo_send k x fr to n t sp r u) (ga_post (xa_K k) (la_W k o7 (g7, x)) sz (la_W k o7)) (va_A (la_W k o7 (g7, x)) sz)) 5 2072 (va_A (la_W k o7 (g7, x)) sz) := by
  refine ga_MetW (by decide) (Nat.le_of_ble_eq_true rfl) ?_
  intro p e s m below meth c hC hr hlocks hT hw ls hl
  have hx := hC.1
  have hb := hC.2.1
  have hl : lv_has ls 5 [(0, .ref (xa_a k 0)), (1, .int fr), (2, .int to), (3, .ref o7)] := hl
  have hw : ga_w (xa_K k) (xa_W k x ++ [la_o k o7 g7]) (va_A (la_W k o7 (g7, x)) sz) s s.heap [] := hw
  refine lv_aload_n hx hb d_L_send_0 rfl (lv_at hl 3 rfl) ?_
  refine lv_iconst (v := 0) hx hb d_L_send_1 (by decide) ?_
  refine lv_aload_n hx hb d_L_send_2 rfl (lv_at hl 0 rfl) ?_
  refine lv_iload_n hx hb d_L_send_3 rfl (lv_at hl 1 rfl) ?_
  refine lv_iload_n hx hb d_L_send_4 rfl (lv_at hl 2 rfl) ?_
  refine ga_VxiL (As := [.int fr, .int to]) (rest := [.int 0, .ref o7]) hC hw (c_NetWires_send l k hst x fr to n t sp h0 ht ht2 hfit hsp hsp2 hn hn2 _) m_NetWires_send ml_L_17 (ga_recv (ga_subL hw) (q0 := 0) rfl rfl) rfl rfl ⟨Nat.le_of_ble_eq_true rfl, Nat.le_of_ble_eq_true rfl⟩ rfl hl.1 rfl (Nat.le_of_ble_eq_true rfl) d_L_send_5 ⟨Nat.le_of_ble_eq_true rfl, Nat.le_of_ble_eq_true rfl⟩ (fun E ce q9 u H locs hp hw g1 g2 g3 => ?_) (fun r u H locs hp hw => ?_)
  · have hE : E = ga_IOB := hp.1
    subst hE
    refine ga_catch hC hw [] ⟨0, 10, 13, 21⟩ [] hT (fun z hz => nomatch hz) rfl (by decide) kl_L_21 (by decide) g1 g2 g3 ?_
    refine lv_astore (lv' := [(4, .ref q9), (0, .ref (xa_a k 0)), (1, .int fr), (2, .int to), (3, .ref o7)]) hx hb d_L_send_13 hl (by decide) rfl (fun ls hl => ?_)
    refine lv_iconst (v := 1) hx hb d_L_send_15 (by decide) ?_
    exact ga_iret (u := (g7, u)) hC hr hlocks hw (Or.inr (⟨rfl, hp⟩)) (Nat.le_of_ble_eq_true rfl) (Nat.le_of_ble_eq_true rfl) d_L_send_16
  · refine lv_i2l hx hb d_L_send_8 rfl ?_
    refine la_put hC hw d_L_send_9 (fun H locs hw => ?_)
    refine lv_goto (tgt := 17) hx hb d_L_send_10 (by decide) ?_
    refine lv_iconst (v := 0) hx hb d_L_send_17 (by decide) ?_
    exact ga_iret (u := (vp_updL g7 0 r.toInt64, u)) hC hr hlocks hw (Or.inl ⟨rfl, r, pk_uLs (f := g7) (k := 0) (x := r.toInt64), hp⟩) (Nat.le_of_ble_eq_true rfl) (Nat.le_of_ble_eq_true rfl) d_L_send_18

/-- what the wrapper of alarm leaves: r says which throw came -/
def lo_alarm (k : xa_k) (x : XS) (ep ti : Int32) (n : Nat) (r : Int32) (u : (Nat → Int64) × XS) : Prop := (r = 0 ∧ ∃ v7 : Int32, u.1 0 = (if v7 = 0 then 0 else 1) ∧ ((¬ ep < 0 ∧ ¬ 15 < ep) ∧ (¬ ti < 0 ∧ ¬ 100000 < ti) ∧ xa_tim k x n 32 ep ti v7 u.2)) ∨ (r = 1 ∧ ((ga_IOB = ga_IOB ∧ x = u.2 ∧ (ep < 0 ∨ 15 < ep)) ∨ (ga_IOB = ga_IAE ∧ x = u.2 ∧ (¬ ep < 0 ∧ ¬ 15 < ep) ∧ (ti < 0 ∨ 100000 < ti)))) ∨ (r = 2 ∧ ((ga_IAE = ga_IOB ∧ x = u.2 ∧ (ep < 0 ∨ 15 < ep)) ∨ (ga_IAE = ga_IAE ∧ x = u.2 ∧ (¬ ep < 0 ∧ ¬ 15 < ep) ∧ (ti < 0 ∨ 100000 < ti))))
set_option maxHeartbeats 4000000 in
set_option maxRecDepth 100000 in
theorem c_L_alarm (l : Launch) (k : xa_k) (hst : l.stackTraces = false) (x : XS) (o7 : Nat) (g7 : Nat → Int64) (ep ti : Int32) (n : Nat) (h0 : xa_R0 x n) (hn0 : ¬ ep < 0 → ¬ 15 < ep → (∀ t, t < n → ¬ xa_mt x t 32 ep) → n < 232) (sz : Nat) : Met l y_L_alarm (Cond.codeWith y_L_alarm b_L_alarm 5 (some .int) hh_L_alarm :: ga_T) ({ frames := 8, cells := 3, slots := 18, locals := 125 }) (va_Pc [.ref (xa_a k 0), .int ep, .int ti, .ref o7] (ga_pre (xa_K k) (la_W k o7 (g7, x)) sz)) (va_Qi (fun (r : Int32) (u : (Nat → Int64) × XS) => lo_alarm k x ep ti n r u) (ga_post (xa_K k) (la_W k o7 (g7, x)) sz (la_W k o7)) (va_A (la_W k o7 (g7, x)) sz)) 3 18 (va_A (la_W k o7 (g7, x)) sz) := by
  refine ga_MetW (by decide) (Nat.le_of_ble_eq_true rfl) ?_
  intro p e s m below meth c hC hr hlocks hT hw ls hl
  have hx := hC.1
  have hb := hC.2.1
  have hl : lv_has ls 5 [(0, .ref (xa_a k 0)), (1, .int ep), (2, .int ti), (3, .ref o7)] := hl
  have hw : ga_w (xa_K k) (xa_W k x ++ [la_o k o7 g7]) (va_A (la_W k o7 (g7, x)) sz) s s.heap [] := hw
  refine lv_aload_n hx hb d_L_alarm_0 rfl (lv_at hl 3 rfl) ?_
  refine lv_iconst (v := 0) hx hb d_L_alarm_1 (by decide) ?_
  refine lv_aload_n hx hb d_L_alarm_2 rfl (lv_at hl 0 rfl) ?_
  refine lv_iload_n hx hb d_L_alarm_3 rfl (lv_at hl 1 rfl) ?_
  refine lv_iload_n hx hb d_L_alarm_4 rfl (lv_at hl 2 rfl) ?_
  refine ga_VxiL (As := [.int ep, .int ti]) (rest := [.int 0, .ref o7]) hC hw (c_NetWires_alarm l k hst x ep ti n h0 hn0 _) m_NetWires_alarm ml_L_23 (ga_recv (ga_subL hw) (q0 := 0) rfl rfl) rfl rfl ⟨Nat.le_of_ble_eq_true rfl, Nat.le_of_ble_eq_true rfl⟩ rfl hl.1 rfl (Nat.le_of_ble_eq_true rfl) d_L_alarm_5 ⟨Nat.le_of_ble_eq_true rfl, Nat.le_of_ble_eq_true rfl⟩ (fun E ce q9 u H locs hp hw g1 g2 g3 => ?_) (fun r u H locs hp hw => ?_)
  · have hE : E = ga_IOB ∨ E = ga_IAE := hp.imp And.left And.left
    rcases hE with rfl | rfl
    · refine ga_catch hC hw [] ⟨0, 17, 20, 21⟩ [⟨0, 17, 24, 13⟩] hT (fun z hz => nomatch hz) rfl (by decide) kl_L_21 (by decide) g1 g2 g3 ?_
      refine lv_astore (lv' := [(4, .ref q9), (0, .ref (xa_a k 0)), (1, .int ep), (2, .int ti), (3, .ref o7)]) hx hb d_L_alarm_20 hl (by decide) rfl (fun ls hl => ?_)
      refine lv_iconst (v := 1) hx hb d_L_alarm_22 (by decide) ?_
      exact ga_iret (u := (g7, u)) hC hr hlocks hw (Or.inr (Or.inl ⟨rfl, hp⟩)) (Nat.le_of_ble_eq_true rfl) (Nat.le_of_ble_eq_true rfl) d_L_alarm_23
    · refine ga_catch hC hw [⟨0, 17, 20, 21⟩] ⟨0, 17, 24, 13⟩ [] hT (fun z hz => by rcases List.mem_singleton.mp hz with rfl; exact ⟨by decide, ga_IOB, kl_L_21, (ga_Nc hw).2⟩) rfl (by decide) kl_L_13 (by decide) g1 g2 g3 ?_
      refine lv_astore (lv' := [(4, .ref q9), (0, .ref (xa_a k 0)), (1, .int ep), (2, .int ti), (3, .ref o7)]) hx hb d_L_alarm_24 hl (by decide) rfl (fun ls hl => ?_)
      refine lv_iconst (v := 2) hx hb d_L_alarm_26 (by decide) ?_
      exact ga_iret (u := (g7, u)) hC hr hlocks hw (Or.inr (Or.inr (⟨rfl, hp⟩))) (Nat.le_of_ble_eq_true rfl) (Nat.le_of_ble_eq_true rfl) d_L_alarm_27
  · refine lv_if_eq (tgt := 15) hx hb d_L_alarm_8 (by decide) (fun c7 => ?_) (fun c7 => ?_)
    · refine lv_lconst (v := 0) hx hb d_L_alarm_15 (by decide) ?_
      refine la_put hC hw d_L_alarm_16 (fun H locs hw => ?_)
      refine lv_goto (tgt := 28) hx hb d_L_alarm_17 (by decide) ?_
      refine lv_iconst (v := 0) hx hb d_L_alarm_28 (by decide) ?_
      exact ga_iret (u := (vp_updL g7 0 0, u)) hC hr hlocks hw (Or.inl ⟨rfl, r, by rw [if_pos c7]; exact pk_uLs (f := g7) (k := 0) (x := 0), hp⟩) (Nat.le_of_ble_eq_true rfl) (Nat.le_of_ble_eq_true rfl) d_L_alarm_29
    · refine lv_lconst (v := 1) hx hb d_L_alarm_11 (by decide) ?_
      refine lv_goto (tgt := 16) hx hb d_L_alarm_12 (by decide) ?_
      refine la_put hC hw d_L_alarm_16 (fun H locs hw => ?_)
      refine lv_goto (tgt := 28) hx hb d_L_alarm_17 (by decide) ?_
      refine lv_iconst (v := 0) hx hb d_L_alarm_28 (by decide) ?_
      exact ga_iret (u := (vp_updL g7 0 1, u)) hC hr hlocks hw (Or.inl ⟨rfl, r, by rw [if_neg c7]; exact pk_uLs (f := g7) (k := 0) (x := 1), hp⟩) (Nat.le_of_ble_eq_true rfl) (Nat.le_of_ble_eq_true rfl) d_L_alarm_29

/-- what the wrapper of noAlarm leaves: r says which throw came -/
def lo_noAlarm (x : XS) (ep : Int32) (n : Nat) (r : Int32) (u : (Nat → Int64) × XS) : Prop := (r = 0 ∧ ∃ v7 : Int32, u.1 0 = (if v7 = 0 then 0 else 1) ∧ ((¬ ep < 0 ∧ ¬ 15 < ep) ∧ xa_drp x n 32 ep v7 u.2)) ∨ (r = 1 ∧ (ga_IOB = ga_IOB ∧ x = u.2 ∧ (ep < 0 ∨ 15 < ep)))
set_option maxHeartbeats 4000000 in
set_option maxRecDepth 100000 in
theorem c_L_noAlarm (l : Launch) (k : xa_k) (hst : l.stackTraces = false) (x : XS) (o7 : Nat) (g7 : Nat → Int64) (ep : Int32) (n : Nat) (h0 : xa_R0 x n) (sz : Nat) : Met l y_L_noAlarm (Cond.codeWith y_L_noAlarm b_L_noAlarm 4 (some .int) hh_L_noAlarm :: ga_T) ({ frames := 8, cells := 1, slots := 6, locals := 123 }) (va_Pc [.ref (xa_a k 0), .int ep, .ref o7] (ga_pre (xa_K k) (la_W k o7 (g7, x)) sz)) (va_Qi (fun (r : Int32) (u : (Nat → Int64) × XS) => lo_noAlarm x ep n r u) (ga_post (xa_K k) (la_W k o7 (g7, x)) sz (la_W k o7)) (va_A (la_W k o7 (g7, x)) sz)) 1 6 (va_A (la_W k o7 (g7, x)) sz) := by
  refine ga_MetW (by decide) (Nat.le_of_ble_eq_true rfl) ?_
  intro p e s m below meth c hC hr hlocks hT hw ls hl
  have hx := hC.1
  have hb := hC.2.1
  have hl : lv_has ls 4 [(0, .ref (xa_a k 0)), (1, .int ep), (2, .ref o7)] := hl
  have hw : ga_w (xa_K k) (xa_W k x ++ [la_o k o7 g7]) (va_A (la_W k o7 (g7, x)) sz) s s.heap [] := hw
  refine lv_aload_n hx hb d_L_noAlarm_0 rfl (lv_at hl 2 rfl) ?_
  refine lv_iconst (v := 0) hx hb d_L_noAlarm_1 (by decide) ?_
  refine lv_aload_n hx hb d_L_noAlarm_2 rfl (lv_at hl 0 rfl) ?_
  refine lv_iload_n hx hb d_L_noAlarm_3 rfl (lv_at hl 1 rfl) ?_
  refine ga_VxiL (As := [.int ep]) (rest := [.int 0, .ref o7]) hC hw (c_NetWires_noAlarm l k hst x ep n h0 _) m_NetWires_noAlarm ml_L_27 (ga_recv (ga_subL hw) (q0 := 0) rfl rfl) rfl rfl ⟨Nat.le_of_ble_eq_true rfl, Nat.le_of_ble_eq_true rfl⟩ rfl hl.1 rfl (Nat.le_of_ble_eq_true rfl) d_L_noAlarm_4 ⟨Nat.le_of_ble_eq_true rfl, Nat.le_of_ble_eq_true rfl⟩ (fun E ce q9 u H locs hp hw g1 g2 g3 => ?_) (fun r u H locs hp hw => ?_)
  · have hE : E = ga_IOB := hp.1
    subst hE
    refine ga_catch hC hw [] ⟨0, 16, 19, 21⟩ [] hT (fun z hz => nomatch hz) rfl (by decide) kl_L_21 (by decide) g1 g2 g3 ?_
    refine lv_astore_n (lv' := [(3, .ref q9), (0, .ref (xa_a k 0)), (1, .int ep), (2, .ref o7)]) hx hb d_L_noAlarm_19 rfl hl (by decide) rfl (fun ls hl => ?_)
    refine lv_iconst (v := 1) hx hb d_L_noAlarm_20 (by decide) ?_
    exact ga_iret (u := (g7, u)) hC hr hlocks hw (Or.inr (⟨rfl, hp⟩)) (Nat.le_of_ble_eq_true rfl) (Nat.le_of_ble_eq_true rfl) d_L_noAlarm_21
  · refine lv_if_eq (tgt := 14) hx hb d_L_noAlarm_7 (by decide) (fun c7 => ?_) (fun c7 => ?_)
    · refine lv_lconst (v := 0) hx hb d_L_noAlarm_14 (by decide) ?_
      refine la_put hC hw d_L_noAlarm_15 (fun H locs hw => ?_)
      refine lv_goto (tgt := 22) hx hb d_L_noAlarm_16 (by decide) ?_
      refine lv_iconst (v := 0) hx hb d_L_noAlarm_22 (by decide) ?_
      exact ga_iret (u := (vp_updL g7 0 0, u)) hC hr hlocks hw (Or.inl ⟨rfl, r, by rw [if_pos c7]; exact pk_uLs (f := g7) (k := 0) (x := 0), hp⟩) (Nat.le_of_ble_eq_true rfl) (Nat.le_of_ble_eq_true rfl) d_L_noAlarm_23
    · refine lv_lconst (v := 1) hx hb d_L_noAlarm_10 (by decide) ?_
      refine lv_goto (tgt := 15) hx hb d_L_noAlarm_11 (by decide) ?_
      refine la_put hC hw d_L_noAlarm_15 (fun H locs hw => ?_)
      refine lv_goto (tgt := 22) hx hb d_L_noAlarm_16 (by decide) ?_
      refine lv_iconst (v := 0) hx hb d_L_noAlarm_22 (by decide) ?_
      exact ga_iret (u := (vp_updL g7 0 1, u)) hC hr hlocks hw (Or.inl ⟨rfl, r, by rw [if_neg c7]; exact pk_uLs (f := g7) (k := 0) (x := 1), hp⟩) (Nat.le_of_ble_eq_true rfl) (Nat.le_of_ble_eq_true rfl) d_L_noAlarm_23

/-- what the wrapper of sync leaves: r says which throw came -/
def lo_sync (k : xa_k) (x : XS) (ep ti : Int32) (n : Nat) (r : Int32) (u : (Nat → Int64) × XS) : Prop := (r = 0 ∧ ∃ v7 : Int32, u.1 0 = (if v7 = 0 then 0 else 1) ∧ ((¬ ep < 0 ∧ ¬ 15 < ep) ∧ (¬ ti < 0 ∧ ¬ 100000 < ti) ∧ xa_tim k x n 48 ep ti v7 u.2)) ∨ (r = 1 ∧ ((ga_IOB = ga_IOB ∧ x = u.2 ∧ (ep < 0 ∨ 15 < ep)) ∨ (ga_IOB = ga_IAE ∧ x = u.2 ∧ (¬ ep < 0 ∧ ¬ 15 < ep) ∧ (ti < 0 ∨ 100000 < ti)))) ∨ (r = 2 ∧ ((ga_IAE = ga_IOB ∧ x = u.2 ∧ (ep < 0 ∨ 15 < ep)) ∨ (ga_IAE = ga_IAE ∧ x = u.2 ∧ (¬ ep < 0 ∧ ¬ 15 < ep) ∧ (ti < 0 ∨ 100000 < ti))))
set_option maxHeartbeats 4000000 in
set_option maxRecDepth 100000 in
theorem c_L_sync (l : Launch) (k : xa_k) (hst : l.stackTraces = false) (x : XS) (o7 : Nat) (g7 : Nat → Int64) (ep ti : Int32) (n : Nat) (h0 : xa_R0 x n) (hn0 : ¬ ep < 0 → ¬ 15 < ep → (∀ t, t < n → ¬ xa_mt x t 48 ep) → n < 232) (sz : Nat) : Met l y_L_sync (Cond.codeWith y_L_sync b_L_sync 5 (some .int) hh_L_sync :: ga_T) ({ frames := 8, cells := 3, slots := 18, locals := 125 }) (va_Pc [.ref (xa_a k 0), .int ep, .int ti, .ref o7] (ga_pre (xa_K k) (la_W k o7 (g7, x)) sz)) (va_Qi (fun (r : Int32) (u : (Nat → Int64) × XS) => lo_sync k x ep ti n r u) (ga_post (xa_K k) (la_W k o7 (g7, x)) sz (la_W k o7)) (va_A (la_W k o7 (g7, x)) sz)) 3 18 (va_A (la_W k o7 (g7, x)) sz) := by
  refine ga_MetW (by decide) (Nat.le_of_ble_eq_true rfl) ?_
  intro p e s m below meth c hC hr hlocks hT hw ls hl
  have hx := hC.1
  have hb := hC.2.1
  have hl : lv_has ls 5 [(0, .ref (xa_a k 0)), (1, .int ep), (2, .int ti), (3, .ref o7)] := hl
  have hw : ga_w (xa_K k) (xa_W k x ++ [la_o k o7 g7]) (va_A (la_W k o7 (g7, x)) sz) s s.heap [] := hw
  refine lv_aload_n hx hb d_L_sync_0 rfl (lv_at hl 3 rfl) ?_
  refine lv_iconst (v := 0) hx hb d_L_sync_1 (by decide) ?_
  refine lv_aload_n hx hb d_L_sync_2 rfl (lv_at hl 0 rfl) ?_
  refine lv_iload_n hx hb d_L_sync_3 rfl (lv_at hl 1 rfl) ?_
  refine lv_iload_n hx hb d_L_sync_4 rfl (lv_at hl 2 rfl) ?_
  refine ga_VxiL (As := [.int ep, .int ti]) (rest := [.int 0, .ref o7]) hC hw (c_NetWires_sync l k hst x ep ti n h0 hn0 _) m_NetWires_sync ml_L_31 (ga_recv (ga_subL hw) (q0 := 0) rfl rfl) rfl rfl ⟨Nat.le_of_ble_eq_true rfl, Nat.le_of_ble_eq_true rfl⟩ rfl hl.1 rfl (Nat.le_of_ble_eq_true rfl) d_L_sync_5 ⟨Nat.le_of_ble_eq_true rfl, Nat.le_of_ble_eq_true rfl⟩ (fun E ce q9 u H locs hp hw g1 g2 g3 => ?_) (fun r u H locs hp hw => ?_)
  · have hE : E = ga_IOB ∨ E = ga_IAE := hp.imp And.left And.left
    rcases hE with rfl | rfl
    · refine ga_catch hC hw [] ⟨0, 17, 20, 21⟩ [⟨0, 17, 24, 13⟩] hT (fun z hz => nomatch hz) rfl (by decide) kl_L_21 (by decide) g1 g2 g3 ?_
      refine lv_astore (lv' := [(4, .ref q9), (0, .ref (xa_a k 0)), (1, .int ep), (2, .int ti), (3, .ref o7)]) hx hb d_L_sync_20 hl (by decide) rfl (fun ls hl => ?_)
      refine lv_iconst (v := 1) hx hb d_L_sync_22 (by decide) ?_
      exact ga_iret (u := (g7, u)) hC hr hlocks hw (Or.inr (Or.inl ⟨rfl, hp⟩)) (Nat.le_of_ble_eq_true rfl) (Nat.le_of_ble_eq_true rfl) d_L_sync_23
    · refine ga_catch hC hw [⟨0, 17, 20, 21⟩] ⟨0, 17, 24, 13⟩ [] hT (fun z hz => by rcases List.mem_singleton.mp hz with rfl; exact ⟨by decide, ga_IOB, kl_L_21, (ga_Nc hw).2⟩) rfl (by decide) kl_L_13 (by decide) g1 g2 g3 ?_
      refine lv_astore (lv' := [(4, .ref q9), (0, .ref (xa_a k 0)), (1, .int ep), (2, .int ti), (3, .ref o7)]) hx hb d_L_sync_24 hl (by decide) rfl (fun ls hl => ?_)
      refine lv_iconst (v := 2) hx hb d_L_sync_26 (by decide) ?_
      exact ga_iret (u := (g7, u)) hC hr hlocks hw (Or.inr (Or.inr (⟨rfl, hp⟩))) (Nat.le_of_ble_eq_true rfl) (Nat.le_of_ble_eq_true rfl) d_L_sync_27
  · refine lv_if_eq (tgt := 15) hx hb d_L_sync_8 (by decide) (fun c7 => ?_) (fun c7 => ?_)
    · refine lv_lconst (v := 0) hx hb d_L_sync_15 (by decide) ?_
      refine la_put hC hw d_L_sync_16 (fun H locs hw => ?_)
      refine lv_goto (tgt := 28) hx hb d_L_sync_17 (by decide) ?_
      refine lv_iconst (v := 0) hx hb d_L_sync_28 (by decide) ?_
      exact ga_iret (u := (vp_updL g7 0 0, u)) hC hr hlocks hw (Or.inl ⟨rfl, r, by rw [if_pos c7]; exact pk_uLs (f := g7) (k := 0) (x := 0), hp⟩) (Nat.le_of_ble_eq_true rfl) (Nat.le_of_ble_eq_true rfl) d_L_sync_29
    · refine lv_lconst (v := 1) hx hb d_L_sync_11 (by decide) ?_
      refine lv_goto (tgt := 16) hx hb d_L_sync_12 (by decide) ?_
      refine la_put hC hw d_L_sync_16 (fun H locs hw => ?_)
      refine lv_goto (tgt := 28) hx hb d_L_sync_17 (by decide) ?_
      refine lv_iconst (v := 0) hx hb d_L_sync_28 (by decide) ?_
      exact ga_iret (u := (vp_updL g7 0 1, u)) hC hr hlocks hw (Or.inl ⟨rfl, r, by rw [if_neg c7]; exact pk_uLs (f := g7) (k := 0) (x := 1), hp⟩) (Nat.le_of_ble_eq_true rfl) (Nat.le_of_ble_eq_true rfl) d_L_sync_29

/-- what the wrapper of noSync leaves: r says which throw came -/
def lo_noSync (x : XS) (ep : Int32) (n : Nat) (r : Int32) (u : (Nat → Int64) × XS) : Prop := (r = 0 ∧ ∃ v7 : Int32, u.1 0 = (if v7 = 0 then 0 else 1) ∧ ((¬ ep < 0 ∧ ¬ 15 < ep) ∧ xa_drp x n 48 ep v7 u.2)) ∨ (r = 1 ∧ (ga_IOB = ga_IOB ∧ x = u.2 ∧ (ep < 0 ∨ 15 < ep)))
set_option maxHeartbeats 4000000 in
set_option maxRecDepth 100000 in
theorem c_L_noSync (l : Launch) (k : xa_k) (hst : l.stackTraces = false) (x : XS) (o7 : Nat) (g7 : Nat → Int64) (ep : Int32) (n : Nat) (h0 : xa_R0 x n) (sz : Nat) : Met l y_L_noSync (Cond.codeWith y_L_noSync b_L_noSync 4 (some .int) hh_L_noSync :: ga_T) ({ frames := 8, cells := 1, slots := 6, locals := 123 }) (va_Pc [.ref (xa_a k 0), .int ep, .ref o7] (ga_pre (xa_K k) (la_W k o7 (g7, x)) sz)) (va_Qi (fun (r : Int32) (u : (Nat → Int64) × XS) => lo_noSync x ep n r u) (ga_post (xa_K k) (la_W k o7 (g7, x)) sz (la_W k o7)) (va_A (la_W k o7 (g7, x)) sz)) 1 6 (va_A (la_W k o7 (g7, x)) sz) := by
  refine ga_MetW (by decide) (Nat.le_of_ble_eq_true rfl) ?_
  intro p e s m below meth c hC hr hlocks hT hw ls hl
  have hx := hC.1
  have hb := hC.2.1
  have hl : lv_has ls 4 [(0, .ref (xa_a k 0)), (1, .int ep), (2, .ref o7)] := hl
  have hw : ga_w (xa_K k) (xa_W k x ++ [la_o k o7 g7]) (va_A (la_W k o7 (g7, x)) sz) s s.heap [] := hw
  refine lv_aload_n hx hb d_L_noSync_0 rfl (lv_at hl 2 rfl) ?_
  refine lv_iconst (v := 0) hx hb d_L_noSync_1 (by decide) ?_
  refine lv_aload_n hx hb d_L_noSync_2 rfl (lv_at hl 0 rfl) ?_
  refine lv_iload_n hx hb d_L_noSync_3 rfl (lv_at hl 1 rfl) ?_
  refine ga_VxiL (As := [.int ep]) (rest := [.int 0, .ref o7]) hC hw (c_NetWires_noSync l k hst x ep n h0 _) m_NetWires_noSync ml_L_34 (ga_recv (ga_subL hw) (q0 := 0) rfl rfl) rfl rfl ⟨Nat.le_of_ble_eq_true rfl, Nat.le_of_ble_eq_true rfl⟩ rfl hl.1 rfl (Nat.le_of_ble_eq_true rfl) d_L_noSync_4 ⟨Nat.le_of_ble_eq_true rfl, Nat.le_of_ble_eq_true rfl⟩ (fun E ce q9 u H locs hp hw g1 g2 g3 => ?_) (fun r u H locs hp hw => ?_)
  · have hE : E = ga_IOB := hp.1
    subst hE
    refine ga_catch hC hw [] ⟨0, 16, 19, 21⟩ [] hT (fun z hz => nomatch hz) rfl (by decide) kl_L_21 (by decide) g1 g2 g3 ?_
    refine lv_astore_n (lv' := [(3, .ref q9), (0, .ref (xa_a k 0)), (1, .int ep), (2, .ref o7)]) hx hb d_L_noSync_19 rfl hl (by decide) rfl (fun ls hl => ?_)
    refine lv_iconst (v := 1) hx hb d_L_noSync_20 (by decide) ?_
    exact ga_iret (u := (g7, u)) hC hr hlocks hw (Or.inr (⟨rfl, hp⟩)) (Nat.le_of_ble_eq_true rfl) (Nat.le_of_ble_eq_true rfl) d_L_noSync_21
  · refine lv_if_eq (tgt := 14) hx hb d_L_noSync_7 (by decide) (fun c7 => ?_) (fun c7 => ?_)
    · refine lv_lconst (v := 0) hx hb d_L_noSync_14 (by decide) ?_
      refine la_put hC hw d_L_noSync_15 (fun H locs hw => ?_)
      refine lv_goto (tgt := 22) hx hb d_L_noSync_16 (by decide) ?_
      refine lv_iconst (v := 0) hx hb d_L_noSync_22 (by decide) ?_
      exact ga_iret (u := (vp_updL g7 0 0, u)) hC hr hlocks hw (Or.inl ⟨rfl, r, by rw [if_pos c7]; exact pk_uLs (f := g7) (k := 0) (x := 0), hp⟩) (Nat.le_of_ble_eq_true rfl) (Nat.le_of_ble_eq_true rfl) d_L_noSync_23
    · refine lv_lconst (v := 1) hx hb d_L_noSync_10 (by decide) ?_
      refine lv_goto (tgt := 15) hx hb d_L_noSync_11 (by decide) ?_
      refine la_put hC hw d_L_noSync_15 (fun H locs hw => ?_)
      refine lv_goto (tgt := 22) hx hb d_L_noSync_16 (by decide) ?_
      refine lv_iconst (v := 0) hx hb d_L_noSync_22 (by decide) ?_
      exact ga_iret (u := (vp_updL g7 0 1, u)) hC hr hlocks hw (Or.inl ⟨rfl, r, by rw [if_neg c7]; exact pk_uLs (f := g7) (k := 0) (x := 1), hp⟩) (Nat.le_of_ble_eq_true rfl) (Nat.le_of_ble_eq_true rfl) d_L_noSync_23

/-- what the wrapper of run leaves: r says which throw came -/
def lo_run (x : XS) (n9 : Int32) (n w kp : Nat) (r : Int32) (u : (Nat → Int64) × XS) : Prop := (r = 0 ∧ ∃ v7 : Int32, u.1 0 = v7.toInt64 ∧ ((¬ n9 < 1 ∧ ¬ 1000 < n9) ∧ ∃ c9, c9 ≤ n ∧ (∀ d, d < c9 → xa_at (xa_it d x) 0 3 ≤ x.1 0 + n9) ∧ (c9 = n ∨ ¬ xa_at (xa_it c9 x) 0 3 ≤ x.1 0 + n9) ∧ v7 = nI c9 ∧ u.2 = xa_sI (xa_it c9 x) 0 (x.1 0 + n9))) ∨ (r = 1 ∧ (ga_IAE = ga_IAE ∧ x = u.2 ∧ (n9 < 1 ∨ 1000 < n9)))
set_option maxHeartbeats 4000000 in
set_option maxRecDepth 100000 in
theorem c_L_run (l : Launch) (k : xa_k) (hst : l.stackTraces = false) (x : XS) (o7 : Nat) (g7 : Nat → Int64) (n9 : Int32) (n w kp : Nat) (h0 : xa_R0 x n) (hh : xa_hi x w kp) (sz : Nat) : Met l y_L_run (Cond.codeWith y_L_run b_L_run 4 (some .int) hh_L_run :: ga_T) ({ frames := 7, cells := 1, slots := 6, locals := 111 }) (va_Pc [.ref (xa_a k 0), .int n9, .ref o7] (ga_pre (xa_K k) (la_W k o7 (g7, x)) sz)) (va_Qi (fun (r : Int32) (u : (Nat → Int64) × XS) => lo_run x n9 n w kp r u) (ga_post (xa_K k) (la_W k o7 (g7, x)) sz (la_W k o7)) (va_A (la_W k o7 (g7, x)) sz)) 1 6 (va_A (la_W k o7 (g7, x)) sz) := by
  refine ga_MetW (by decide) (Nat.le_of_ble_eq_true rfl) ?_
  intro p e s m below meth c hC hr hlocks hT hw ls hl
  have hx := hC.1
  have hb := hC.2.1
  have hl : lv_has ls 4 [(0, .ref (xa_a k 0)), (1, .int n9), (2, .ref o7)] := hl
  have hw : ga_w (xa_K k) (xa_W k x ++ [la_o k o7 g7]) (va_A (la_W k o7 (g7, x)) sz) s s.heap [] := hw
  refine lv_aload_n hx hb d_L_run_0 rfl (lv_at hl 2 rfl) ?_
  refine lv_iconst (v := 0) hx hb d_L_run_1 (by decide) ?_
  refine lv_aload_n hx hb d_L_run_2 rfl (lv_at hl 0 rfl) ?_
  refine lv_iload_n hx hb d_L_run_3 rfl (lv_at hl 1 rfl) ?_
  refine ga_VxiL (As := [.int n9]) (rest := [.int 0, .ref o7]) hC hw (c_NetWires_run l k hst x n9 n w kp h0 hh _) m_NetWires_run ml_L_37 (ga_recv (ga_subL hw) (q0 := 0) rfl rfl) rfl rfl ⟨Nat.le_of_ble_eq_true rfl, Nat.le_of_ble_eq_true rfl⟩ rfl hl.1 rfl (Nat.le_of_ble_eq_true rfl) d_L_run_4 ⟨Nat.le_of_ble_eq_true rfl, Nat.le_of_ble_eq_true rfl⟩ (fun E ce q9 u H locs hp hw g1 g2 g3 => ?_) (fun r u H locs hp hw => ?_)
  · have hE : E = ga_IAE := hp.1
    subst hE
    refine ga_catch hC hw [] ⟨0, 9, 12, 13⟩ [] hT (fun z hz => nomatch hz) rfl (by decide) kl_L_13 (by decide) g1 g2 g3 ?_
    refine lv_astore_n (lv' := [(3, .ref q9), (0, .ref (xa_a k 0)), (1, .int n9), (2, .ref o7)]) hx hb d_L_run_12 rfl hl (by decide) rfl (fun ls hl => ?_)
    refine lv_iconst (v := 1) hx hb d_L_run_13 (by decide) ?_
    exact ga_iret (u := (g7, u)) hC hr hlocks hw (Or.inr (⟨rfl, hp⟩)) (Nat.le_of_ble_eq_true rfl) (Nat.le_of_ble_eq_true rfl) d_L_run_14
  · refine lv_i2l hx hb d_L_run_7 rfl ?_
    refine la_put hC hw d_L_run_8 (fun H locs hw => ?_)
    refine lv_goto (tgt := 15) hx hb d_L_run_9 (by decide) ?_
    refine lv_iconst (v := 0) hx hb d_L_run_15 (by decide) ?_
    exact ga_iret (u := (vp_updL g7 0 r.toInt64, u)) hC hr hlocks hw (Or.inl ⟨rfl, r, pk_uLs (f := g7) (k := 0) (x := r.toInt64), hp⟩) (Nat.le_of_ble_eq_true rfl) (Nat.le_of_ble_eq_true rfl) d_L_run_16

/-- what the wrapper of delay leaves: r says which throw came -/
def lo_delay (x : XS) (fr to ti : Int32) (r : Int32) (u : (Nat → Int64) × XS) : Prop := (r = 0 ∧ ∃ v7 : Int32, u.1 0 = v7.toInt64 ∧ ((¬ ti < 0 ∧ ¬ 1000 < ti) ∧ ∃ i j, i < 16 ∧ fr = nI i ∧ j < 16 ∧ to = nI j ∧ v7 = xa_L x (i * 16 + j) ∧ u.2 = xa_sL x (upd (xa_L x) (i * 16 + j) ti))) ∨ (r = 1 ∧ ((ga_IOB = ga_IOB ∧ x = u.2 ∧ (fr < 0 ∨ 15 < fr ∨ to < 0 ∨ 15 < to)) ∨ (ga_IOB = ga_IAE ∧ x = u.2 ∧ (¬ fr < 0 ∧ ¬ 15 < fr ∧ ¬ to < 0 ∧ ¬ 15 < to) ∧ (ti < 0 ∨ 1000 < ti)))) ∨ (r = 2 ∧ ((ga_IAE = ga_IOB ∧ x = u.2 ∧ (fr < 0 ∨ 15 < fr ∨ to < 0 ∨ 15 < to)) ∨ (ga_IAE = ga_IAE ∧ x = u.2 ∧ (¬ fr < 0 ∧ ¬ 15 < fr ∧ ¬ to < 0 ∧ ¬ 15 < to) ∧ (ti < 0 ∨ 1000 < ti))))
set_option maxHeartbeats 4000000 in
set_option maxRecDepth 100000 in
theorem c_L_delay (l : Launch) (k : xa_k) (hst : l.stackTraces = false) (x : XS) (o7 : Nat) (g7 : Nat → Int64) (fr to ti : Int32)  (sz : Nat) : Met l y_L_delay (Cond.codeWith y_L_delay b_L_delay 6 (some .int) hh_L_delay :: ga_T) ({ frames := 8, cells := 3, slots := 18, locals := 128 }) (va_Pc [.ref (xa_a k 0), .int fr, .int to, .int ti, .ref o7] (ga_pre (xa_K k) (la_W k o7 (g7, x)) sz)) (va_Qi (fun (r : Int32) (u : (Nat → Int64) × XS) => lo_delay x fr to ti r u) (ga_post (xa_K k) (la_W k o7 (g7, x)) sz (la_W k o7)) (va_A (la_W k o7 (g7, x)) sz)) 3 18 (va_A (la_W k o7 (g7, x)) sz) := by
  refine ga_MetW (by decide) (Nat.le_of_ble_eq_true rfl) ?_
  intro p e s m below meth c hC hr hlocks hT hw ls hl
  have hx := hC.1
  have hb := hC.2.1
  have hl : lv_has ls 6 [(0, .ref (xa_a k 0)), (1, .int fr), (2, .int to), (3, .int ti), (4, .ref o7)] := hl
  have hw : ga_w (xa_K k) (xa_W k x ++ [la_o k o7 g7]) (va_A (la_W k o7 (g7, x)) sz) s s.heap [] := hw
  refine lv_aload hx hb d_L_delay_0 (lv_at hl 4 rfl) ?_
  refine lv_iconst (v := 0) hx hb d_L_delay_2 (by decide) ?_
  refine lv_aload_n hx hb d_L_delay_3 rfl (lv_at hl 0 rfl) ?_
  refine lv_iload_n hx hb d_L_delay_4 rfl (lv_at hl 1 rfl) ?_
  refine lv_iload_n hx hb d_L_delay_5 rfl (lv_at hl 2 rfl) ?_
  refine lv_iload_n hx hb d_L_delay_6 rfl (lv_at hl 3 rfl) ?_
  refine ga_VxiL (As := [.int fr, .int to, .int ti]) (rest := [.int 0, .ref o7]) hC hw (c_NetWires_delay l k hst x fr to ti _) m_NetWires_delay ml_L_41 (ga_recv (ga_subL hw) (q0 := 0) rfl rfl) rfl rfl ⟨Nat.le_of_ble_eq_true rfl, Nat.le_of_ble_eq_true rfl⟩ rfl hl.1 rfl (Nat.le_of_ble_eq_true rfl) d_L_delay_7 ⟨Nat.le_of_ble_eq_true rfl, Nat.le_of_ble_eq_true rfl⟩ (fun E ce q9 u H locs hp hw g1 g2 g3 => ?_) (fun r u H locs hp hw => ?_)
  · have hE : E = ga_IOB ∨ E = ga_IAE := hp.imp And.left And.left
    rcases hE with rfl | rfl
    · refine ga_catch hC hw [] ⟨0, 12, 15, 21⟩ [⟨0, 12, 19, 13⟩] hT (fun z hz => nomatch hz) rfl (by decide) kl_L_21 (by decide) g1 g2 g3 ?_
      refine lv_astore (lv' := [(5, .ref q9), (0, .ref (xa_a k 0)), (1, .int fr), (2, .int to), (3, .int ti), (4, .ref o7)]) hx hb d_L_delay_15 hl (by decide) rfl (fun ls hl => ?_)
      refine lv_iconst (v := 1) hx hb d_L_delay_17 (by decide) ?_
      exact ga_iret (u := (g7, u)) hC hr hlocks hw (Or.inr (Or.inl ⟨rfl, hp⟩)) (Nat.le_of_ble_eq_true rfl) (Nat.le_of_ble_eq_true rfl) d_L_delay_18
    · refine ga_catch hC hw [⟨0, 12, 15, 21⟩] ⟨0, 12, 19, 13⟩ [] hT (fun z hz => by rcases List.mem_singleton.mp hz with rfl; exact ⟨by decide, ga_IOB, kl_L_21, (ga_Nc hw).2⟩) rfl (by decide) kl_L_13 (by decide) g1 g2 g3 ?_
      refine lv_astore (lv' := [(5, .ref q9), (0, .ref (xa_a k 0)), (1, .int fr), (2, .int to), (3, .int ti), (4, .ref o7)]) hx hb d_L_delay_19 hl (by decide) rfl (fun ls hl => ?_)
      refine lv_iconst (v := 2) hx hb d_L_delay_21 (by decide) ?_
      exact ga_iret (u := (g7, u)) hC hr hlocks hw (Or.inr (Or.inr (⟨rfl, hp⟩))) (Nat.le_of_ble_eq_true rfl) (Nat.le_of_ble_eq_true rfl) d_L_delay_22
  · refine lv_i2l hx hb d_L_delay_10 rfl ?_
    refine la_put hC hw d_L_delay_11 (fun H locs hw => ?_)
    refine lv_goto (tgt := 23) hx hb d_L_delay_12 (by decide) ?_
    refine lv_iconst (v := 0) hx hb d_L_delay_23 (by decide) ?_
    exact ga_iret (u := (vp_updL g7 0 r.toInt64, u)) hC hr hlocks hw (Or.inl ⟨rfl, r, pk_uLs (f := g7) (k := 0) (x := r.toInt64), hp⟩) (Nat.le_of_ble_eq_true rfl) (Nat.le_of_ble_eq_true rfl) d_L_delay_24

/-- what the wrapper of part leaves: r says which throw came -/
def lo_part (x : XS) (set : Int32) (r : Int32) (u : (Nat → Int64) × XS) : Prop := (r = 0 ∧ ∃ v7 : Int32, u.1 0 = v7.toInt64 ∧ ((¬ set < 0 ∧ ¬ 65535 < set) ∧ v7 = x.1 2 ∧ u.2 = xa_sI x 2 set)) ∨ (r = 1 ∧ (ga_IAE = ga_IAE ∧ x = u.2 ∧ (set < 0 ∨ 65535 < set)))
set_option maxHeartbeats 4000000 in
set_option maxRecDepth 100000 in
theorem c_L_part (l : Launch) (k : xa_k) (hst : l.stackTraces = false) (x : XS) (o7 : Nat) (g7 : Nat → Int64) (set : Int32)  (sz : Nat) : Met l y_L_part (Cond.codeWith y_L_part b_L_part 4 (some .int) hh_L_part :: ga_T) ({ frames := 8, cells := 1, slots := 6, locals := 124 }) (va_Pc [.ref (xa_a k 0), .int set, .ref o7] (ga_pre (xa_K k) (la_W k o7 (g7, x)) sz)) (va_Qi (fun (r : Int32) (u : (Nat → Int64) × XS) => lo_part x set r u) (ga_post (xa_K k) (la_W k o7 (g7, x)) sz (la_W k o7)) (va_A (la_W k o7 (g7, x)) sz)) 1 6 (va_A (la_W k o7 (g7, x)) sz) := by
  refine ga_MetW (by decide) (Nat.le_of_ble_eq_true rfl) ?_
  intro p e s m below meth c hC hr hlocks hT hw ls hl
  have hx := hC.1
  have hb := hC.2.1
  have hl : lv_has ls 4 [(0, .ref (xa_a k 0)), (1, .int set), (2, .ref o7)] := hl
  have hw : ga_w (xa_K k) (xa_W k x ++ [la_o k o7 g7]) (va_A (la_W k o7 (g7, x)) sz) s s.heap [] := hw
  refine lv_aload_n hx hb d_L_part_0 rfl (lv_at hl 2 rfl) ?_
  refine lv_iconst (v := 0) hx hb d_L_part_1 (by decide) ?_
  refine lv_aload_n hx hb d_L_part_2 rfl (lv_at hl 0 rfl) ?_
  refine lv_iload_n hx hb d_L_part_3 rfl (lv_at hl 1 rfl) ?_
  refine ga_VxiL (As := [.int set]) (rest := [.int 0, .ref o7]) hC hw (c_NetWires_part l k hst x set _) m_NetWires_part ml_L_45 (ga_recv (ga_subL hw) (q0 := 0) rfl rfl) rfl rfl ⟨Nat.le_of_ble_eq_true rfl, Nat.le_of_ble_eq_true rfl⟩ rfl hl.1 rfl (Nat.le_of_ble_eq_true rfl) d_L_part_4 ⟨Nat.le_of_ble_eq_true rfl, Nat.le_of_ble_eq_true rfl⟩ (fun E ce q9 u H locs hp hw g1 g2 g3 => ?_) (fun r u H locs hp hw => ?_)
  · have hE : E = ga_IAE := hp.1
    subst hE
    refine ga_catch hC hw [] ⟨0, 9, 12, 13⟩ [] hT (fun z hz => nomatch hz) rfl (by decide) kl_L_13 (by decide) g1 g2 g3 ?_
    refine lv_astore_n (lv' := [(3, .ref q9), (0, .ref (xa_a k 0)), (1, .int set), (2, .ref o7)]) hx hb d_L_part_12 rfl hl (by decide) rfl (fun ls hl => ?_)
    refine lv_iconst (v := 1) hx hb d_L_part_13 (by decide) ?_
    exact ga_iret (u := (g7, u)) hC hr hlocks hw (Or.inr (⟨rfl, hp⟩)) (Nat.le_of_ble_eq_true rfl) (Nat.le_of_ble_eq_true rfl) d_L_part_14
  · refine lv_i2l hx hb d_L_part_7 rfl ?_
    refine la_put hC hw d_L_part_8 (fun H locs hw => ?_)
    refine lv_goto (tgt := 15) hx hb d_L_part_9 (by decide) ?_
    refine lv_iconst (v := 0) hx hb d_L_part_15 (by decide) ?_
    exact ga_iret (u := (vp_updL g7 0 r.toInt64, u)) hC hr hlocks hw (Or.inl ⟨rfl, r, pk_uLs (f := g7) (k := 0) (x := r.toInt64), hp⟩) (Nat.le_of_ble_eq_true rfl) (Nat.le_of_ble_eq_true rfl) d_L_part_16

/-- what the wrapper of down leaves: r says which throw came -/
def lo_down (x : XS) (set : Int32) (r : Int32) (u : (Nat → Int64) × XS) : Prop := (r = 0 ∧ ∃ v7 : Int32, u.1 0 = v7.toInt64 ∧ ((¬ set < 0 ∧ ¬ 65535 < set) ∧ v7 = x.1 3 ∧ u.2 = xa_sI x 3 set)) ∨ (r = 1 ∧ (ga_IAE = ga_IAE ∧ x = u.2 ∧ (set < 0 ∨ 65535 < set)))
set_option maxHeartbeats 4000000 in
set_option maxRecDepth 100000 in
theorem c_L_down (l : Launch) (k : xa_k) (hst : l.stackTraces = false) (x : XS) (o7 : Nat) (g7 : Nat → Int64) (set : Int32)  (sz : Nat) : Met l y_L_down (Cond.codeWith y_L_down b_L_down 4 (some .int) hh_L_down :: ga_T) ({ frames := 8, cells := 1, slots := 6, locals := 124 }) (va_Pc [.ref (xa_a k 0), .int set, .ref o7] (ga_pre (xa_K k) (la_W k o7 (g7, x)) sz)) (va_Qi (fun (r : Int32) (u : (Nat → Int64) × XS) => lo_down x set r u) (ga_post (xa_K k) (la_W k o7 (g7, x)) sz (la_W k o7)) (va_A (la_W k o7 (g7, x)) sz)) 1 6 (va_A (la_W k o7 (g7, x)) sz) := by
  refine ga_MetW (by decide) (Nat.le_of_ble_eq_true rfl) ?_
  intro p e s m below meth c hC hr hlocks hT hw ls hl
  have hx := hC.1
  have hb := hC.2.1
  have hl : lv_has ls 4 [(0, .ref (xa_a k 0)), (1, .int set), (2, .ref o7)] := hl
  have hw : ga_w (xa_K k) (xa_W k x ++ [la_o k o7 g7]) (va_A (la_W k o7 (g7, x)) sz) s s.heap [] := hw
  refine lv_aload_n hx hb d_L_down_0 rfl (lv_at hl 2 rfl) ?_
  refine lv_iconst (v := 0) hx hb d_L_down_1 (by decide) ?_
  refine lv_aload_n hx hb d_L_down_2 rfl (lv_at hl 0 rfl) ?_
  refine lv_iload_n hx hb d_L_down_3 rfl (lv_at hl 1 rfl) ?_
  refine ga_VxiL (As := [.int set]) (rest := [.int 0, .ref o7]) hC hw (c_NetWires_down l k hst x set _) m_NetWires_down ml_L_48 (ga_recv (ga_subL hw) (q0 := 0) rfl rfl) rfl rfl ⟨Nat.le_of_ble_eq_true rfl, Nat.le_of_ble_eq_true rfl⟩ rfl hl.1 rfl (Nat.le_of_ble_eq_true rfl) d_L_down_4 ⟨Nat.le_of_ble_eq_true rfl, Nat.le_of_ble_eq_true rfl⟩ (fun E ce q9 u H locs hp hw g1 g2 g3 => ?_) (fun r u H locs hp hw => ?_)
  · have hE : E = ga_IAE := hp.1
    subst hE
    refine ga_catch hC hw [] ⟨0, 9, 12, 13⟩ [] hT (fun z hz => nomatch hz) rfl (by decide) kl_L_13 (by decide) g1 g2 g3 ?_
    refine lv_astore_n (lv' := [(3, .ref q9), (0, .ref (xa_a k 0)), (1, .int set), (2, .ref o7)]) hx hb d_L_down_12 rfl hl (by decide) rfl (fun ls hl => ?_)
    refine lv_iconst (v := 1) hx hb d_L_down_13 (by decide) ?_
    exact ga_iret (u := (g7, u)) hC hr hlocks hw (Or.inr (⟨rfl, hp⟩)) (Nat.le_of_ble_eq_true rfl) (Nat.le_of_ble_eq_true rfl) d_L_down_14
  · refine lv_i2l hx hb d_L_down_7 rfl ?_
    refine la_put hC hw d_L_down_8 (fun H locs hw => ?_)
    refine lv_goto (tgt := 15) hx hb d_L_down_9 (by decide) ?_
    refine lv_iconst (v := 0) hx hb d_L_down_15 (by decide) ?_
    exact ga_iret (u := (vp_updL g7 0 r.toInt64, u)) hC hr hlocks hw (Or.inl ⟨rfl, r, pk_uLs (f := g7) (k := 0) (x := r.toInt64), hp⟩) (Nat.le_of_ble_eq_true rfl) (Nat.le_of_ble_eq_true rfl) d_L_down_16

/-- what the wrapper of noise leaves: r says which throw came -/
def lo_noise (x : XS) (a b c9 : Int32) (d9 : Int64) (r : Int32) (u : (Nat → Int64) × XS) : Prop := (r = 0 ∧ (¬ a < 0 ∧ ¬ 1000 < a ∧ ¬ b < 0 ∧ ¬ 1000 < b ∧ ¬ c9 < 0 ∧ ¬ 1000 < c9) ∧ u.2 = xa_sD (xa_sI (xa_sI (xa_sI x 12 a) 13 b) 14 c9) d9) ∨ (r = 1 ∧ (ga_IAE = ga_IAE ∧ x = u.2 ∧ ¬ (¬ a < 0 ∧ ¬ 1000 < a ∧ ¬ b < 0 ∧ ¬ 1000 < b ∧ ¬ c9 < 0 ∧ ¬ 1000 < c9)))
set_option maxHeartbeats 4000000 in
set_option maxRecDepth 100000 in
theorem c_L_noise (l : Launch) (k : xa_k) (hst : l.stackTraces = false) (x : XS) (o7 : Nat) (g7 : Nat → Int64) (a b c9 : Int32) (d9 : Int64)  (sz : Nat) : Met l y_L_noise (Cond.codeWith y_L_noise b_L_noise 7 (some .int) hh_L_noise :: ga_T) ({ frames := 7, cells := 1, slots := 6, locals := 107 }) (va_Pc [.ref (xa_a k 0), .int a, .int b, .int c9, .long d9] (ga_pre (xa_K k) (la_W k o7 (g7, x)) sz)) (va_Qi (fun (r : Int32) (u : (Nat → Int64) × XS) => lo_noise x a b c9 d9 r u) (ga_post (xa_K k) (la_W k o7 (g7, x)) sz (la_W k o7)) (va_A (la_W k o7 (g7, x)) sz)) 1 6 (va_A (la_W k o7 (g7, x)) sz) := by
  refine ga_MetW (by decide) (Nat.le_of_ble_eq_true rfl) ?_
  intro p e s m below meth c hC hr hlocks hT hw ls hl
  have hx := hC.1
  have hb := hC.2.1
  have hl : lv_has ls 7 [(0, .ref (xa_a k 0)), (1, .int a), (2, .int b), (3, .int c9), (4, .long d9)] := hl
  have hw : ga_w (xa_K k) (xa_W k x ++ [la_o k o7 g7]) (va_A (la_W k o7 (g7, x)) sz) s s.heap [] := hw
  refine lv_aload_n hx hb d_L_noise_0 rfl (lv_at hl 0 rfl) ?_
  refine lv_iload_n hx hb d_L_noise_1 rfl (lv_at hl 1 rfl) ?_
  refine lv_iload_n hx hb d_L_noise_2 rfl (lv_at hl 2 rfl) ?_
  refine lv_iload_n hx hb d_L_noise_3 rfl (lv_at hl 3 rfl) ?_
  refine lv_lload hx hb d_L_noise_4 (lv_at hl 4 rfl) ?_
  refine ga_VxvL (As := [.int a, .int b, .int c9, .long d9]) (rest := []) hC hw (c_NetWires_noise l k hst x a b c9 d9 _) m_NetWires_noise ml_L_51 (ga_recv (ga_subL hw) (q0 := 0) rfl rfl) rfl rfl ⟨Nat.le_of_ble_eq_true rfl, Nat.le_of_ble_eq_true rfl⟩ rfl hl.1 rfl (Nat.le_of_ble_eq_true rfl) d_L_noise_6 ⟨Nat.le_of_ble_eq_true rfl, Nat.le_of_ble_eq_true rfl⟩ (fun E ce q9 u H locs hp hw g1 g2 g3 => ?_) (fun u H locs hp hw => ?_)
  · have hE : E = ga_IAE := hp.1
    subst hE
    refine ga_catch hC hw [] ⟨0, 9, 12, 13⟩ [] hT (fun z hz => nomatch hz) rfl (by decide) kl_L_13 (by decide) g1 g2 g3 ?_
    refine lv_astore (lv' := [(6, .ref q9), (0, .ref (xa_a k 0)), (1, .int a), (2, .int b), (3, .int c9), (4, .long d9)]) hx hb d_L_noise_12 hl (by decide) rfl (fun ls hl => ?_)
    refine lv_iconst (v := 1) hx hb d_L_noise_14 (by decide) ?_
    exact ga_iret (u := (g7, u)) hC hr hlocks hw (Or.inr (⟨rfl, hp⟩)) (Nat.le_of_ble_eq_true rfl) (Nat.le_of_ble_eq_true rfl) d_L_noise_15
  · skip
    refine lv_goto (tgt := 16) hx hb d_L_noise_9 (by decide) ?_
    refine lv_iconst (v := 0) hx hb d_L_noise_16 (by decide) ?_
    exact ga_iret (u := (g7, u)) hC hr hlocks hw (Or.inl ⟨rfl, hp⟩) (Nat.le_of_ble_eq_true rfl) (Nat.le_of_ble_eq_true rfl) d_L_noise_17

/-- what the wrapper of meddle leaves: r says which throw came -/
def lo_meddle (x : XS) (k9 wh ti : Int32) (n : Nat) (r : Int32) (u : (Nat → Int64) × XS) : Prop := (r = 0 ∧ ∃ v7 : Int32, u.1 0 = (if v7 = 0 then 0 else 1) ∧ (((wh = 2 ∧ ¬ ti < 0 ∧ ¬ 1000 < ti) ∨ ((wh = 0 ∨ wh = 1) ∧ ti = 0)) ∧ ((v7 = 0 ∧ x = u.2 ∧ xa_nom x n k9) ∨ (v7 = 1 ∧ ∃ j, xa_isM x n k9 j ∧ ((wh = 1 ∧ ∃ a9 b9 r2, a9 < 16 ∧ xa_at x j 2 = nI a9 ∧ b9 < 16 ∧ xa_at x j 1 = nI b9 ∧ xa_lau x n a9 b9 (xa_at x j 2) (xa_at x j 1) 0 (xa_b (xa_P x) (xa_ad x j)) r2 u.2) ∨ (wh = 0 ∧ u.2 = xa_sI (xa_take x n j) 5 ((xa_take x n j).1 5 + 1)) ∨ (wh = 2 ∧ xa_addP (xa_take x n j) (n - 1) (xa_at x j 2) (xa_at x j 1) (xa_at x j 3 + ti) (xa_b (xa_P x) (xa_ad x j)) u.2)))))) ∨ (r = 1 ∧ (ga_IAE = ga_IAE ∧ x = u.2 ∧ ¬ ((wh = 2 ∧ ¬ ti < 0 ∧ ¬ 1000 < ti) ∨ ((wh = 0 ∨ wh = 1) ∧ ti = 0))))
set_option maxHeartbeats 4000000 in
set_option maxRecDepth 100000 in
theorem c_L_meddle (l : Launch) (k : xa_k) (hst : l.stackTraces = false) (x : XS) (o7 : Nat) (g7 : Nat → Int64) (k9 wh ti : Int32) (n : Nat) (h0 : xa_R0 x n) (hep : ∀ j, j < n → xa_at x j 0 = 0 → ∃ a9 b9, a9 < 16 ∧ xa_at x j 2 = nI a9 ∧ b9 < 16 ∧ xa_at x j 1 = nI b9) (hn : x.1 8 < 200 → n < 232) (sz : Nat) : Met l y_L_meddle (Cond.codeWith y_L_meddle b_L_meddle 6 (some .int) hh_L_meddle :: ga_T) ({ frames := 7, cells := 1, slots := 6, locals := 139 }) (va_Pc [.ref (xa_a k 0), .int k9, .int wh, .int ti, .ref o7] (ga_pre (xa_K k) (la_W k o7 (g7, x)) sz)) (va_Qi (fun (r : Int32) (u : (Nat → Int64) × XS) => lo_meddle x k9 wh ti n r u) (ga_post (xa_K k) (la_W k o7 (g7, x)) sz (la_W k o7)) (va_A (la_W k o7 (g7, x)) sz)) 1 6 (va_A (la_W k o7 (g7, x)) sz) := by
  refine ga_MetW (by decide) (Nat.le_of_ble_eq_true rfl) ?_
  intro p e s m below meth c hC hr hlocks hT hw ls hl
  have hx := hC.1
  have hb := hC.2.1
  have hl : lv_has ls 6 [(0, .ref (xa_a k 0)), (1, .int k9), (2, .int wh), (3, .int ti), (4, .ref o7)] := hl
  have hw : ga_w (xa_K k) (xa_W k x ++ [la_o k o7 g7]) (va_A (la_W k o7 (g7, x)) sz) s s.heap [] := hw
  refine lv_aload hx hb d_L_meddle_0 (lv_at hl 4 rfl) ?_
  refine lv_iconst (v := 0) hx hb d_L_meddle_2 (by decide) ?_
  refine lv_aload_n hx hb d_L_meddle_3 rfl (lv_at hl 0 rfl) ?_
  refine lv_iload_n hx hb d_L_meddle_4 rfl (lv_at hl 1 rfl) ?_
  refine lv_iload_n hx hb d_L_meddle_5 rfl (lv_at hl 2 rfl) ?_
  refine lv_iload_n hx hb d_L_meddle_6 rfl (lv_at hl 3 rfl) ?_
  refine ga_VxiL (As := [.int k9, .int wh, .int ti]) (rest := [.int 0, .ref o7]) hC hw (c_NetWires_meddle l k hst x k9 wh ti n h0 hep hn _) m_NetWires_meddle ml_L_55 (ga_recv (ga_subL hw) (q0 := 0) rfl rfl) rfl rfl ⟨Nat.le_of_ble_eq_true rfl, Nat.le_of_ble_eq_true rfl⟩ rfl hl.1 rfl (Nat.le_of_ble_eq_true rfl) d_L_meddle_7 ⟨Nat.le_of_ble_eq_true rfl, Nat.le_of_ble_eq_true rfl⟩ (fun E ce q9 u H locs hp hw g1 g2 g3 => ?_) (fun r u H locs hp hw => ?_)
  · have hE : E = ga_IAE := hp.1
    subst hE
    refine ga_catch hC hw [] ⟨0, 19, 22, 13⟩ [] hT (fun z hz => nomatch hz) rfl (by decide) kl_L_13 (by decide) g1 g2 g3 ?_
    refine lv_astore (lv' := [(5, .ref q9), (0, .ref (xa_a k 0)), (1, .int k9), (2, .int wh), (3, .int ti), (4, .ref o7)]) hx hb d_L_meddle_22 hl (by decide) rfl (fun ls hl => ?_)
    refine lv_iconst (v := 1) hx hb d_L_meddle_24 (by decide) ?_
    exact ga_iret (u := (g7, u)) hC hr hlocks hw (Or.inr (⟨rfl, hp⟩)) (Nat.le_of_ble_eq_true rfl) (Nat.le_of_ble_eq_true rfl) d_L_meddle_25
  · refine lv_if_eq (tgt := 17) hx hb d_L_meddle_10 (by decide) (fun c7 => ?_) (fun c7 => ?_)
    · refine lv_lconst (v := 0) hx hb d_L_meddle_17 (by decide) ?_
      refine la_put hC hw d_L_meddle_18 (fun H locs hw => ?_)
      refine lv_goto (tgt := 26) hx hb d_L_meddle_19 (by decide) ?_
      refine lv_iconst (v := 0) hx hb d_L_meddle_26 (by decide) ?_
      exact ga_iret (u := (vp_updL g7 0 0, u)) hC hr hlocks hw (Or.inl ⟨rfl, r, by rw [if_pos c7]; exact pk_uLs (f := g7) (k := 0) (x := 0), hp⟩) (Nat.le_of_ble_eq_true rfl) (Nat.le_of_ble_eq_true rfl) d_L_meddle_27
    · refine lv_lconst (v := 1) hx hb d_L_meddle_13 (by decide) ?_
      refine lv_goto (tgt := 18) hx hb d_L_meddle_14 (by decide) ?_
      refine la_put hC hw d_L_meddle_18 (fun H locs hw => ?_)
      refine lv_goto (tgt := 26) hx hb d_L_meddle_19 (by decide) ?_
      refine lv_iconst (v := 0) hx hb d_L_meddle_26 (by decide) ?_
      exact ga_iret (u := (vp_updL g7 0 1, u)) hC hr hlocks hw (Or.inl ⟨rfl, r, by rw [if_neg c7]; exact pk_uLs (f := g7) (k := 0) (x := 1), hp⟩) (Nat.le_of_ble_eq_true rfl) (Nat.le_of_ble_eq_true rfl) d_L_meddle_27

/-- what the wrapper of messageAt leaves: r says which throw came -/
def lo_messageAt (x : XS) (k9 i9 : Int32) (n : Nat) (bl : Nat → Nat) (bf : Nat → Nat → Int32) (r : Int32) (u : (Nat → Int64) × XS) : Prop := (r = 0 ∧ ∃ v7 : Int32, u.1 0 = v7.toInt64 ∧ (x = u.2 ∧ ∃ j i, xa_isM x n k9 j ∧ i < bl j ∧ i9 = nI i ∧ v7 = bf j i &&& 255)) ∨ (r = 1 ∧ (ga_IOB = ga_IOB ∧ x = u.2 ∧ (xa_nom x n k9 ∨ ∃ j, xa_isM x n k9 j ∧ (i9 < 0 ∨ nI (bl j) ≤ i9))))
set_option maxHeartbeats 4000000 in
set_option maxRecDepth 100000 in
theorem c_L_messageAt (l : Launch) (k : xa_k) (hst : l.stackTraces = false) (x : XS) (o7 : Nat) (g7 : Nat → Int64) (k9 i9 : Int32) (n : Nat) (bl : Nat → Nat) (bf : Nat → Nat → Int32) (h0 : xa_R0 x n) (hBs : ∀ j, j < n → xa_isB k (xa_P x) (xa_b (xa_P x) (xa_ad x j)) (bl j) (bf j)) (hbl : ∀ j, j < n → bl j < 4000) (sz : Nat) : Met l y_L_messageAt (Cond.codeWith y_L_messageAt b_L_messageAt 5 (some .int) hh_L_messageAt :: ga_T) ({ frames := 7, cells := 1, slots := 6, locals := 105 }) (va_Pc [.ref (xa_a k 0), .int k9, .int i9, .ref o7] (ga_pre (xa_K k) (la_W k o7 (g7, x)) sz)) (va_Qi (fun (r : Int32) (u : (Nat → Int64) × XS) => lo_messageAt x k9 i9 n bl bf r u) (ga_post (xa_K k) (la_W k o7 (g7, x)) sz (la_W k o7)) (va_A (la_W k o7 (g7, x)) sz)) 1 6 (va_A (la_W k o7 (g7, x)) sz) := by
  refine ga_MetW (by decide) (Nat.le_of_ble_eq_true rfl) ?_
  intro p e s m below meth c hC hr hlocks hT hw ls hl
  have hx := hC.1
  have hb := hC.2.1
  have hl : lv_has ls 5 [(0, .ref (xa_a k 0)), (1, .int k9), (2, .int i9), (3, .ref o7)] := hl
  have hw : ga_w (xa_K k) (xa_W k x ++ [la_o k o7 g7]) (va_A (la_W k o7 (g7, x)) sz) s s.heap [] := hw
  refine lv_aload_n hx hb d_L_messageAt_0 rfl (lv_at hl 3 rfl) ?_
  refine lv_iconst (v := 0) hx hb d_L_messageAt_1 (by decide) ?_
  refine lv_aload_n hx hb d_L_messageAt_2 rfl (lv_at hl 0 rfl) ?_
  refine lv_iload_n hx hb d_L_messageAt_3 rfl (lv_at hl 1 rfl) ?_
  refine lv_iload_n hx hb d_L_messageAt_4 rfl (lv_at hl 2 rfl) ?_
  refine ga_VxiL (As := [.int k9, .int i9]) (rest := [.int 0, .ref o7]) hC hw (c_NetWires_messageAt l k hst x k9 i9 n bl bf h0 hBs hbl _) m_NetWires_messageAt ml_L_59 (ga_recv (ga_subL hw) (q0 := 0) rfl rfl) rfl rfl ⟨Nat.le_of_ble_eq_true rfl, Nat.le_of_ble_eq_true rfl⟩ rfl hl.1 rfl (Nat.le_of_ble_eq_true rfl) d_L_messageAt_5 ⟨Nat.le_of_ble_eq_true rfl, Nat.le_of_ble_eq_true rfl⟩ (fun E ce q9 u H locs hp hw g1 g2 g3 => ?_) (fun r u H locs hp hw => ?_)
  · have hE : E = ga_IOB := hp.1
    subst hE
    refine ga_catch hC hw [] ⟨0, 10, 13, 21⟩ [] hT (fun z hz => nomatch hz) rfl (by decide) kl_L_21 (by decide) g1 g2 g3 ?_
    refine lv_astore (lv' := [(4, .ref q9), (0, .ref (xa_a k 0)), (1, .int k9), (2, .int i9), (3, .ref o7)]) hx hb d_L_messageAt_13 hl (by decide) rfl (fun ls hl => ?_)
    refine lv_iconst (v := 1) hx hb d_L_messageAt_15 (by decide) ?_
    exact ga_iret (u := (g7, u)) hC hr hlocks hw (Or.inr (⟨rfl, hp⟩)) (Nat.le_of_ble_eq_true rfl) (Nat.le_of_ble_eq_true rfl) d_L_messageAt_16
  · refine lv_i2l hx hb d_L_messageAt_8 rfl ?_
    refine la_put hC hw d_L_messageAt_9 (fun H locs hw => ?_)
    refine lv_goto (tgt := 17) hx hb d_L_messageAt_10 (by decide) ?_
    refine lv_iconst (v := 0) hx hb d_L_messageAt_17 (by decide) ?_
    exact ga_iret (u := (vp_updL g7 0 r.toInt64, u)) hC hr hlocks hw (Or.inl ⟨rfl, r, pk_uLs (f := g7) (k := 0) (x := r.toInt64), hp⟩) (Nat.le_of_ble_eq_true rfl) (Nat.le_of_ble_eq_true rfl) d_L_messageAt_18

/-- what the wrapper of byteAt leaves: r says which throw came -/
def lo_byteAt (x : XS) (i9 : Int32) (al : Nat) (af : Nat → Int32) (r : Int32) (u : (Nat → Int64) × XS) : Prop := (r = 0 ∧ ∃ v7 : Int32, u.1 0 = v7.toInt64 ∧ (x = u.2 ∧ ∃ j, j < al ∧ i9 = nI j ∧ v7 = af j &&& 255)) ∨ (r = 1 ∧ (ga_IOB = ga_IOB ∧ x = u.2 ∧ (i9 < 0 ∨ nI al ≤ i9)))
set_option maxHeartbeats 4000000 in
set_option maxRecDepth 100000 in
theorem c_L_byteAt (l : Launch) (k : xa_k) (hst : l.stackTraces = false) (x : XS) (o7 : Nat) (g7 : Nat → Int64) (i9 : Int32) (al : Nat) (af : Nat → Int32) (hA : xa_isB k (xa_P x) (xa_B x) al af) (hal : al < 4000) (sz : Nat) : Met l y_L_byteAt (Cond.codeWith y_L_byteAt b_L_byteAt 4 (some .int) hh_L_byteAt :: ga_T) ({ frames := 7, cells := 1, slots := 6, locals := 103 }) (va_Pc [.ref (xa_a k 0), .int i9, .ref o7] (ga_pre (xa_K k) (la_W k o7 (g7, x)) sz)) (va_Qi (fun (r : Int32) (u : (Nat → Int64) × XS) => lo_byteAt x i9 al af r u) (ga_post (xa_K k) (la_W k o7 (g7, x)) sz (la_W k o7)) (va_A (la_W k o7 (g7, x)) sz)) 1 6 (va_A (la_W k o7 (g7, x)) sz) := by
  refine ga_MetW (by decide) (Nat.le_of_ble_eq_true rfl) ?_
  intro p e s m below meth c hC hr hlocks hT hw ls hl
  have hx := hC.1
  have hb := hC.2.1
  have hl : lv_has ls 4 [(0, .ref (xa_a k 0)), (1, .int i9), (2, .ref o7)] := hl
  have hw : ga_w (xa_K k) (xa_W k x ++ [la_o k o7 g7]) (va_A (la_W k o7 (g7, x)) sz) s s.heap [] := hw
  refine lv_aload_n hx hb d_L_byteAt_0 rfl (lv_at hl 2 rfl) ?_
  refine lv_iconst (v := 0) hx hb d_L_byteAt_1 (by decide) ?_
  refine lv_aload_n hx hb d_L_byteAt_2 rfl (lv_at hl 0 rfl) ?_
  refine lv_iload_n hx hb d_L_byteAt_3 rfl (lv_at hl 1 rfl) ?_
  refine ga_VxiL (As := [.int i9]) (rest := [.int 0, .ref o7]) hC hw (c_NetWires_byteAt l k hst x i9 al af hA hal _) m_NetWires_byteAt ml_L_62 (ga_recv (ga_subL hw) (q0 := 0) rfl rfl) rfl rfl ⟨Nat.le_of_ble_eq_true rfl, Nat.le_of_ble_eq_true rfl⟩ rfl hl.1 rfl (Nat.le_of_ble_eq_true rfl) d_L_byteAt_4 ⟨Nat.le_of_ble_eq_true rfl, Nat.le_of_ble_eq_true rfl⟩ (fun E ce q9 u H locs hp hw g1 g2 g3 => ?_) (fun r u H locs hp hw => ?_)
  · have hE : E = ga_IOB := hp.1
    subst hE
    refine ga_catch hC hw [] ⟨0, 9, 12, 21⟩ [] hT (fun z hz => nomatch hz) rfl (by decide) kl_L_21 (by decide) g1 g2 g3 ?_
    refine lv_astore_n (lv' := [(3, .ref q9), (0, .ref (xa_a k 0)), (1, .int i9), (2, .ref o7)]) hx hb d_L_byteAt_12 rfl hl (by decide) rfl (fun ls hl => ?_)
    refine lv_iconst (v := 1) hx hb d_L_byteAt_13 (by decide) ?_
    exact ga_iret (u := (g7, u)) hC hr hlocks hw (Or.inr (⟨rfl, hp⟩)) (Nat.le_of_ble_eq_true rfl) (Nat.le_of_ble_eq_true rfl) d_L_byteAt_14
  · refine lv_i2l hx hb d_L_byteAt_7 rfl ?_
    refine la_put hC hw d_L_byteAt_8 (fun H locs hw => ?_)
    refine lv_goto (tgt := 15) hx hb d_L_byteAt_9 (by decide) ?_
    refine lv_iconst (v := 0) hx hb d_L_byteAt_15 (by decide) ?_
    exact ga_iret (u := (vp_updL g7 0 r.toInt64, u)) hC hr hlocks hw (Or.inl ⟨rfl, r, pk_uLs (f := g7) (k := 0) (x := r.toInt64), hp⟩) (Nat.le_of_ble_eq_true rfl) (Nat.le_of_ble_eq_true rfl) d_L_byteAt_16

/-- what the wrapper of when leaves: r says which throw came -/
def lo_when (x : XS) (ep wh : Int32) (n : Nat) (r : Int32) (u : (Nat → Int64) × XS) : Prop := (r = 0 ∧ ∃ v7 : Int32, u.1 0 = v7.toInt64 ∧ ((¬ ep < 0 ∧ ¬ 15 < ep) ∧ x = u.2 ∧ ∃ kd, ((wh = 0 ∧ kd = 32) ∨ (wh = 1 ∧ kd = 48)) ∧ ((v7 = -1 ∧ ∀ t, t < n → ¬ xa_mt x t kd ep) ∨ (∃ j, j < n ∧ xa_mt x j kd ep ∧ (∀ t, t < j → ¬ xa_mt x t kd ep) ∧ v7 = xa_at x j 3)))) ∨ (r = 1 ∧ (ga_IOB = ga_IOB ∧ x = u.2 ∧ ((ep < 0 ∨ 15 < ep) ∨ (¬ wh = 0 ∧ ¬ wh = 1))))
set_option maxHeartbeats 4000000 in
set_option maxRecDepth 100000 in
theorem c_L_when (l : Launch) (k : xa_k) (hst : l.stackTraces = false) (x : XS) (o7 : Nat) (g7 : Nat → Int64) (ep wh : Int32) (n : Nat) (h0 : xa_R0 x n) (sz : Nat) : Met l y_L_when (Cond.codeWith y_L_when b_L_when 5 (some .int) hh_L_when :: ga_T) ({ frames := 8, cells := 2, slots := 12, locals := 125 }) (va_Pc [.ref (xa_a k 0), .int ep, .int wh, .ref o7] (ga_pre (xa_K k) (la_W k o7 (g7, x)) sz)) (va_Qi (fun (r : Int32) (u : (Nat → Int64) × XS) => lo_when x ep wh n r u) (ga_post (xa_K k) (la_W k o7 (g7, x)) sz (la_W k o7)) (va_A (la_W k o7 (g7, x)) sz)) 2 12 (va_A (la_W k o7 (g7, x)) sz) := by
  refine ga_MetW (by decide) (Nat.le_of_ble_eq_true rfl) ?_
  intro p e s m below meth c hC hr hlocks hT hw ls hl
  have hx := hC.1
  have hb := hC.2.1
  have hl : lv_has ls 5 [(0, .ref (xa_a k 0)), (1, .int ep), (2, .int wh), (3, .ref o7)] := hl
  have hw : ga_w (xa_K k) (xa_W k x ++ [la_o k o7 g7]) (va_A (la_W k o7 (g7, x)) sz) s s.heap [] := hw
  refine lv_aload_n hx hb d_L_when_0 rfl (lv_at hl 3 rfl) ?_
  refine lv_iconst (v := 0) hx hb d_L_when_1 (by decide) ?_
  refine lv_aload_n hx hb d_L_when_2 rfl (lv_at hl 0 rfl) ?_
  refine lv_iload_n hx hb d_L_when_3 rfl (lv_at hl 1 rfl) ?_
  refine lv_iload_n hx hb d_L_when_4 rfl (lv_at hl 2 rfl) ?_
  refine ga_VxiL (As := [.int ep, .int wh]) (rest := [.int 0, .ref o7]) hC hw (c_NetWires_when l k hst x ep wh n h0 _) m_NetWires_when ml_L_65 (ga_recv (ga_subL hw) (q0 := 0) rfl rfl) rfl rfl ⟨Nat.le_of_ble_eq_true rfl, Nat.le_of_ble_eq_true rfl⟩ rfl hl.1 rfl (Nat.le_of_ble_eq_true rfl) d_L_when_5 ⟨Nat.le_of_ble_eq_true rfl, Nat.le_of_ble_eq_true rfl⟩ (fun E ce q9 u H locs hp hw g1 g2 g3 => ?_) (fun r u H locs hp hw => ?_)
  · have hE : E = ga_IOB := hp.1
    subst hE
    refine ga_catch hC hw [] ⟨0, 10, 13, 21⟩ [] hT (fun z hz => nomatch hz) rfl (by decide) kl_L_21 (by decide) g1 g2 g3 ?_
    refine lv_astore (lv' := [(4, .ref q9), (0, .ref (xa_a k 0)), (1, .int ep), (2, .int wh), (3, .ref o7)]) hx hb d_L_when_13 hl (by decide) rfl (fun ls hl => ?_)
    refine lv_iconst (v := 1) hx hb d_L_when_15 (by decide) ?_
    exact ga_iret (u := (g7, u)) hC hr hlocks hw (Or.inr (⟨rfl, hp⟩)) (Nat.le_of_ble_eq_true rfl) (Nat.le_of_ble_eq_true rfl) d_L_when_16
  · refine lv_i2l hx hb d_L_when_8 rfl ?_
    refine la_put hC hw d_L_when_9 (fun H locs hw => ?_)
    refine lv_goto (tgt := 17) hx hb d_L_when_10 (by decide) ?_
    refine lv_iconst (v := 0) hx hb d_L_when_17 (by decide) ?_
    exact ga_iret (u := (vp_updL g7 0 r.toInt64, u)) hC hr hlocks hw (Or.inl ⟨rfl, r, pk_uLs (f := g7) (k := 0) (x := r.toInt64), hp⟩) (Nat.le_of_ble_eq_true rfl) (Nat.le_of_ble_eq_true rfl) d_L_when_18
