set_option maxHeartbeats 4000000 in
set_option maxRecDepth 100000 in
/-- Event(..): its six fields are written -/
theorem c_Event_init (l : Launch) (k : xa_k) (a b : Nat) (kd ep fr tm nb : Int32) (sz : Nat) : Met l y_Event_init (Cond.code y_Event_init b_Event_init 7 none :: ga_T) ({ frames := 1, cells := 0, slots := 0, locals := 12 }) (va_Pc [.ref a, .int kd, .int ep, .int fr, .int tm, .int nb, .ref b] (ga_pre (xa_K k) [(a, .inr (5, [.int 0, .int 0, .int 0, .int 0, .int 0, .null]))] sz)) (va_Qv (fun (_ : Unit) => True) (ga_post (xa_K k) [(a, .inr (5, [.int 0, .int 0, .int 0, .int 0, .int 0, .null]))] sz (fun _ => [(a, xa_ev (xa_five kd ep fr tm nb) b)])) (va_A [(a, .inr (5, [.int 0, .int 0, .int 0, .int 0, .int 0, .null]))] sz)) 0 0 (va_A [(a, .inr (5, [.int 0, .int 0, .int 0, .int 0, .int 0, .null]))] sz) := by
  refine ga_Met (by decide) (Nat.le_of_ble_eq_true rfl) ?_
  intro p e s m below meth c hC hr hlocks hin hw ls hl
  have hx := hC.1
  have hb := hC.2.1
  have hl : lv_has ls 7 [(0, .ref a), (1, .int kd), (2, .int ep), (3, .int fr), (4, .int tm), (5, .int nb), (6, .ref b)] := hl
  refine lv_aload_n hx hb d_Event_init_0 rfl (lv_at hl 0 rfl) ?_
  refine W.objInit hx hb hC.2.2.2.1 (hC.2.2.2.2 _ ml_Event_1) (hC.2.2.2.2 _ in_objectInit) (hC.2.2.2.2 _ co_objectInit) rfl (by rw [hC.2.2.1]; exact hl.1) rfl d_Event_init_1 (Nat.le_of_ble_eq_true rfl) (Nat.le_of_ble_eq_true rfl) ?_
  refine W.eq (g2 := F0 m 4 ls []) rfl ?_
  refine lv_aload_n hx hb d_Event_init_4 rfl (lv_at hl 0 rfl) ?_
  refine lv_iload_n hx hb d_Event_init_5 rfl (lv_at hl 1 rfl) ?_
  refine ga_putF (ty := .int) hC hin hw cl_Event 0 rfl 0 (by decide) fl_Event_7 rfl rfl (by decide +kernel) rfl rfl (Nat.le_of_ble_eq_true rfl) d_Event_init_6 (fun H locs hw => ?_)
  have hw : ga_w (xa_K k) [(a, .inr (5, [.int kd, .int 0, .int 0, .int 0, .int 0, .null]))] (va_A [(a, .inr (5, [.int 0, .int 0, .int 0, .int 0, .int 0, .null]))] sz) s H locs := hw
  refine lv_aload_n hx hb d_Event_init_9 rfl (lv_at hl 0 rfl) ?_
  refine lv_iload_n hx hb d_Event_init_10 rfl (lv_at hl 2 rfl) ?_
  refine ga_putF (ty := .int) hC hin hw cl_Event 0 rfl 1 (by decide) fl_Event_13 rfl rfl (by decide +kernel) rfl rfl (Nat.le_of_ble_eq_true rfl) d_Event_init_11 (fun H locs hw => ?_)
  have hw : ga_w (xa_K k) [(a, .inr (5, [.int kd, .int ep, .int 0, .int 0, .int 0, .null]))] (va_A [(a, .inr (5, [.int 0, .int 0, .int 0, .int 0, .int 0, .null]))] sz) s H locs := hw
  refine lv_aload_n hx hb d_Event_init_14 rfl (lv_at hl 0 rfl) ?_
  refine lv_iload_n hx hb d_Event_init_15 rfl (lv_at hl 3 rfl) ?_
  refine ga_putF (ty := .int) hC hin hw cl_Event 0 rfl 2 (by decide) fl_Event_16 rfl rfl (by decide +kernel) rfl rfl (Nat.le_of_ble_eq_true rfl) d_Event_init_16 (fun H locs hw => ?_)
  have hw : ga_w (xa_K k) [(a, .inr (5, [.int kd, .int ep, .int fr, .int 0, .int 0, .null]))] (va_A [(a, .inr (5, [.int 0, .int 0, .int 0, .int 0, .int 0, .null]))] sz) s H locs := hw
  refine lv_aload_n hx hb d_Event_init_19 rfl (lv_at hl 0 rfl) ?_
  refine lv_iload hx hb d_Event_init_20 (lv_at hl 4 rfl) ?_
  refine ga_putF (ty := .int) hC hin hw cl_Event 0 rfl 3 (by decide) fl_Event_19 rfl rfl (by decide +kernel) rfl rfl (Nat.le_of_ble_eq_true rfl) d_Event_init_22 (fun H locs hw => ?_)
  have hw : ga_w (xa_K k) [(a, .inr (5, [.int kd, .int ep, .int fr, .int tm, .int 0, .null]))] (va_A [(a, .inr (5, [.int 0, .int 0, .int 0, .int 0, .int 0, .null]))] sz) s H locs := hw
  refine lv_aload_n hx hb d_Event_init_25 rfl (lv_at hl 0 rfl) ?_
  refine lv_iload hx hb d_Event_init_26 (lv_at hl 5 rfl) ?_
  refine ga_putF (ty := .int) hC hin hw cl_Event 0 rfl 4 (by decide) fl_Event_22 rfl rfl (by decide +kernel) rfl rfl (Nat.le_of_ble_eq_true rfl) d_Event_init_28 (fun H locs hw => ?_)
  have hw : ga_w (xa_K k) [(a, .inr (5, [.int kd, .int ep, .int fr, .int tm, .int nb, .null]))] (va_A [(a, .inr (5, [.int 0, .int 0, .int 0, .int 0, .int 0, .null]))] sz) s H locs := hw
  refine lv_aload_n hx hb d_Event_init_31 rfl (lv_at hl 0 rfl) ?_
  refine lv_aload hx hb d_Event_init_32 (lv_at hl 6 rfl) ?_
  refine ga_putF (ty := (.array .byte)) hC hin hw cl_Event 0 rfl 5 (by decide) fl_Event_25 rfl rfl (by decide +kernel) rfl rfl (Nat.le_of_ble_eq_true rfl) d_Event_init_34 (fun H locs hw => ?_)
  have hw : ga_w (xa_K k) [(a, .inr (5, [.int kd, .int ep, .int fr, .int tm, .int nb, .ref b]))] (va_A [(a, .inr (5, [.int 0, .int 0, .int 0, .int 0, .int 0, .null]))] sz) s H locs := hw
  exact ga_vret (u := ()) hC hr hlocks hw trivial (Nat.le_of_ble_eq_true rfl) (Nat.le_of_ble_eq_true rfl) d_Event_init_37
set_option maxHeartbeats 4000000 in
set_option maxRecDepth 100000 in
theorem c_NetWires_addMessage (l : Launch) (k : xa_k) (x : XS) (fr to tm : Int32) (b n : Nat) (h0 : xa_R0 x n) (hn : n < 232) (sz : Nat) : Met l y_NetWires_addMessage (Cond.code y_NetWires_addMessage b_NetWires_addMessage 5 none :: ga_T) ({ frames := 3, cells := 1, slots := 6, locals := 66 }) (va_Pc [.ref (xa_a k 0), .int fr, .int to, .int tm, .ref b] (ga_pre (xa_K k) (xa_W k x) sz)) (va_Qv (fun (u : XS) => xa_addP x n fr to tm b u) (ga_post (xa_K k) (xa_W k x) sz (xa_W k)) (va_A (xa_W k x) sz)) 1 6 (va_A (xa_W k x) sz) := by
  refine ga_Met (by decide) (Nat.le_of_ble_eq_true rfl) ?_
  intro p e s m below meth c hC hr hlocks _ hw ls hl
  have hx := hC.1
  have hb := hC.2.1
  have hl : lv_has ls 5 [(0, .ref (xa_a k 0)), (1, .int fr), (2, .int to), (3, .int tm), (4, .ref b)] := hl
  refine lv_aload_n hx hb d_NetWires_addMessage_0 rfl (lv_at hl 0 rfl) ?_
  refine xg_NetWires_agenda hC hw fl_NetWires_19 d_NetWires_addMessage_1 ?_
  refine ga_new (fs := [.int 0, .int 0, .int 0, .int 0, .int 0, .null]) hC hw cl_Event t_Event t_Event_ok kl_NetWires_149 in_Event ini_Event (fun j hj => by rcases (show j = 0 ∨ j = 1 ∨ j = 2 ∨ j = 3 ∨ j = 4 ∨ j = 5 by omega) with rfl | rfl | rfl | rfl | rfl | rfl <;> rfl) (Nat.le_of_ble_eq_true rfl) (Nat.le_of_ble_eq_true rfl) d_NetWires_addMessage_4 (fun a H hw => ?_)
  refine lv_dup hx hb d_NetWires_addMessage_7 rfl ?_
  refine lv_iconst (v := 0) hx hb d_NetWires_addMessage_8 (by decide) ?_
  refine lv_iload_n hx hb d_NetWires_addMessage_9 rfl (lv_at hl 2 rfl) ?_
  refine lv_iload_n hx hb d_NetWires_addMessage_10 rfl (lv_at hl 1 rfl) ?_
  refine lv_iload_n hx hb d_NetWires_addMessage_11 rfl (lv_at hl 3 rfl) ?_
  refine lv_aload_n hx hb d_NetWires_addMessage_12 rfl (lv_at hl 0 rfl) ?_
  refine ga_ViL (As := []) (rest := [.int tm, .int fr, .int to, .int 0, .ref a, .ref a, .ref (xa_a k 3)]) hC hw (c_NetWires_takeNumber l k x _) m_NetWires_takeNumber ml_NetWires_234 (ga_recv (ga_subL hw) (q0 := 0) rfl rfl) rfl rfl ⟨Nat.le_of_ble_eq_true rfl, Nat.le_of_ble_eq_true rfl⟩ rfl hl.1 rfl (Nat.le_of_ble_eq_true rfl) d_NetWires_addMessage_13 ⟨Nat.le_of_ble_eq_true rfl, Nat.le_of_ble_eq_true rfl⟩ (fun r u H locs hp hw => ?_)
  obtain ⟨rfl, rfl⟩ := hp
  refine lv_aload hx hb d_NetWires_addMessage_16 (lv_at hl 4 rfl) ?_
  refine ga_IvR (As := [.int 0, .int to, .int fr, .int tm, .int (x.1 1), .ref b]) (rest := [.ref a, .ref (xa_a k 3)]) hC hw (c_Event_init l k a b 0 to fr tm (x.1 1) _) m_Event_init ml_NetWires_238 rfl rfl ⟨Nat.le_of_ble_eq_true rfl, Nat.le_of_ble_eq_true rfl⟩ rfl hl.1 rfl (Nat.le_of_ble_eq_true rfl) d_NetWires_addMessage_18 ⟨Nat.le_of_ble_eq_true rfl, Nat.le_of_ble_eq_true rfl⟩ (fun u H locs _ hw => ?_)
  obtain ⟨hfr, hw⟩ := xa_absorb hw
  have hE : xa_isE ((xa_P (xa_sI x 1 ((x.1 1) + 1))).1 ++ [a], va_up (xa_P (xa_sI x 1 ((x.1 1) + 1))).2 a (xa_ev (xa_five 0 to fr tm (x.1 1)) b)) a (xa_five 0 to fr tm (x.1 1)) b := ⟨List.mem_append_right _ List.mem_cons_self, va_up_self _ _ _⟩
  obtain ⟨hR1, hat1⟩ := xa_R0.up (x := xa_sI x 1 (x.1 1 + 1)) (a := a) (e := xa_ev (xa_five 0 to fr tm (x.1 1)) b) (show xa_R0 _ n from h0) hfr
  refine ga_Vv (As := [.ref a]) (rest := []) hC hw (c_Agenda_insert l k (xa_sP (xa_sI x 1 ((x.1 1) + 1)) (((xa_P (xa_sI x 1 ((x.1 1) + 1))).1 ++ [a], va_up (xa_P (xa_sI x 1 ((x.1 1) + 1))).2 a (xa_ev (xa_five 0 to fr tm (x.1 1)) b)))) a n (xa_five 0 to fr tm (x.1 1)) b hR1 hE hn _) m_Agenda_insert ml_NetWires_241 (ga_recv hw (q0 := 3) rfl rfl) rfl rfl ⟨Nat.le_of_ble_eq_true rfl, Nat.le_of_ble_eq_true rfl⟩ rfl hl.1 rfl (Nat.le_of_ble_eq_true rfl) d_NetWires_addMessage_21 ⟨Nat.le_of_ble_eq_true rfl, Nat.le_of_ble_eq_true rfl⟩ (fun u H locs hp hw => ?_)
  obtain ⟨q, hq, hi, hj, rfl⟩ := hp
  exact ga_vret (u := xa_msg (xa_sI (xa_sE (xa_sP (xa_sI x 1 ((x.1 1) + 1)) (((xa_P (xa_sI x 1 ((x.1 1) + 1))).1 ++ [a], va_up (xa_P (xa_sI x 1 ((x.1 1) + 1))).2 a (xa_ev (xa_five 0 to fr tm (x.1 1)) b)))) (xa_ins (xa_E (xa_sP (xa_sI x 1 ((x.1 1) + 1)) (((xa_P (xa_sI x 1 ((x.1 1) + 1))).1 ++ [a], va_up (xa_P (xa_sI x 1 ((x.1 1) + 1))).2 a (xa_ev (xa_five 0 to fr tm (x.1 1)) b))))) n q a)) 7 (nI (n + 1))) ((xa_five 0 to fr tm (x.1 1)) 0) 1) hC hr hlocks hw ⟨a, q, hfr, hq, fun j h1 h2 => by have h3 := hi j h1 h2; rw [hat1 j h2] at h3; exact h3, fun j h1 => by have h3 := hj j h1; rw [hat1 j (by omega)] at h3; exact h3, rfl⟩ (Nat.le_of_ble_eq_true rfl) (Nat.le_of_ble_eq_true rfl) d_NetWires_addMessage_24

set_option maxHeartbeats 4000000 in
set_option maxRecDepth 100000 in
theorem c_NetWires_dropTimer (l : Launch) (k : xa_k) (x : XS) (kd ep : Int32) (n : Nat) (h0 : xa_R0 x n) (sz : Nat) : Met l y_NetWires_dropTimer (Cond.code y_NetWires_dropTimer b_NetWires_dropTimer 3 (some .boolean) :: ga_T) ({ frames := 2, cells := 0, slots := 0, locals := 45 }) (va_Pc [.ref (xa_a k 0), .int kd, .int ep] (ga_pre (xa_K k) (xa_W k x) sz)) (va_Qi (fun (r : Int32) (u : XS) => xa_drp x n kd ep r u) (ga_post (xa_K k) (xa_W k x) sz (xa_W k)) (va_A (xa_W k x) sz)) 0 0 (va_A (xa_W k x) sz) := by
  refine ga_Met (by decide) (Nat.le_of_ble_eq_true rfl) ?_
  intro p e s m below meth c hC hr hlocks _ hw ls hl
  have hx := hC.1
  have hb := hC.2.1
  have hl : lv_has ls 3 [(0, .ref (xa_a k 0)), (1, .int kd), (2, .int ep)] := hl
  refine lv_aload_n hx hb d_NetWires_dropTimer_0 rfl (lv_at hl 0 rfl) ?_
  refine xg_NetWires_agenda hC hw fl_NetWires_19 d_NetWires_dropTimer_1 ?_
  refine lv_aload_n hx hb d_NetWires_dropTimer_4 rfl (lv_at hl 0 rfl) ?_
  refine xg_NetWires_agenda hC hw fl_NetWires_19 d_NetWires_dropTimer_5 ?_
  refine lv_iload_n hx hb d_NetWires_dropTimer_8 rfl (lv_at hl 1 rfl) ?_
  refine lv_iload_n hx hb d_NetWires_dropTimer_9 rfl (lv_at hl 2 rfl) ?_
  refine ga_Vi (As := [.int kd, .int ep]) (rest := [.ref (xa_a k 3)]) hC hw (c_Agenda_placeOfTimer l k x kd ep n h0 _) m_Agenda_placeOfTimer ml_NetWires_203 (ga_recv hw (q0 := 3) rfl rfl) rfl rfl ⟨Nat.le_of_ble_eq_true rfl, Nat.le_of_ble_eq_true rfl⟩ rfl hl.1 rfl (Nat.le_of_ble_eq_true rfl) d_NetWires_dropTimer_10 ⟨Nat.le_of_ble_eq_true rfl, Nat.le_of_ble_eq_true rfl⟩ (fun r u H locs hp hw => ?_)
  obtain ⟨rfl, hp⟩ := hp
  rcases hp with ⟨rfl, h_10⟩ | ⟨j_10, hj_10, rfl, h_10, g_10⟩
  · refine ga_Vq (As := [.int ((-1))]) (rest := []) hC hw (c_Agenda_takeAt l k x ((-1)) n h0 _) m_Agenda_takeAt ml_NetWires_132 (ga_recv hw (q0 := 3) rfl rfl) rfl rfl ⟨Nat.le_of_ble_eq_true rfl, Nat.le_of_ble_eq_true rfl⟩ rfl hl.1 rfl (Nat.le_of_ble_eq_true rfl) d_NetWires_dropTimer_13 ⟨Nat.le_of_ble_eq_true rfl, Nat.le_of_ble_eq_true rfl⟩ (fun r u H locs hp hw => ?_)
    rcases hp with ⟨rfl, rfl, h_13⟩ | ⟨j_13, hj_13, ej_13, rfl, rfl⟩
    · refine lv_ifnullN (tgt := 23) hx hb d_NetWires_dropTimer_16 (by decide) ?_
      refine lv_iconst (v := 0) hx hb d_NetWires_dropTimer_23 (by decide) ?_
      exact ga_zret (u := x) hC hr hlocks hw (Or.inl rfl) (Or.inl ⟨rfl, rfl, h_10⟩) (Nat.le_of_ble_eq_true rfl) (Nat.le_of_ble_eq_true rfl) d_NetWires_dropTimer_24
    · exact absurd ej_13 (xa_m1 (by have := h0.2.1; omega))
  · refine ga_Vq (As := [.int (nI j_10)]) (rest := []) hC hw (c_Agenda_takeAt l k x (nI j_10) n h0 _) m_Agenda_takeAt ml_NetWires_132 (ga_recv hw (q0 := 3) rfl rfl) rfl rfl ⟨Nat.le_of_ble_eq_true rfl, Nat.le_of_ble_eq_true rfl⟩ rfl hl.1 rfl (Nat.le_of_ble_eq_true rfl) d_NetWires_dropTimer_13 ⟨Nat.le_of_ble_eq_true rfl, Nat.le_of_ble_eq_true rfl⟩ (fun r u H locs hp hw => ?_)
    rcases hp with ⟨rfl, rfl, h_13⟩ | ⟨j_13, hj_13, ej_13, rfl, rfl⟩
    · exact absurd (xa_nix h0.2.1 h_13 rfl hj_10) id
    · obtain rfl := xa_inj h0.2.1 hj_10 hj_13 ej_13
      refine lv_ifnull hx hb d_NetWires_dropTimer_16 ?_
      refine lv_iconst (v := 1) hx hb d_NetWires_dropTimer_19 (by decide) ?_
      refine lv_goto (tgt := 24) hx hb d_NetWires_dropTimer_20 (by decide) ?_
      exact ga_zret (u := xa_take x n j_10) hC hr hlocks hw (Or.inr rfl) (Or.inr ⟨j_10, hj_10, rfl, h_10, g_10, rfl⟩) (Nat.le_of_ble_eq_true rfl) (Nat.le_of_ble_eq_true rfl) d_NetWires_dropTimer_24

set_option maxHeartbeats 4000000 in
set_option maxRecDepth 100000 in
theorem c_NetWires_launch (l : Launch) (k : xa_k) (x : XS) (fr to late : Int32) (b n i9 j9 : Nat) (h0 : xa_R0 x n) (hfr9 : fr = nI i9) (hi9 : i9 < 16) (hto9 : to = nI j9) (hj9 : j9 < 16) (hn : x.1 8 < 200 → n < 232) (sz : Nat) : Met l y_NetWires_launch (Cond.code y_NetWires_launch b_NetWires_launch 5 (some .int) :: ga_T) ({ frames := 4, cells := 1, slots := 6, locals := 90 }) (va_Pc [.ref (xa_a k 0), .int fr, .int to, .int late, .ref b] (ga_pre (xa_K k) (xa_W k x) sz)) (va_Qi (fun (r : Int32) (u : XS) => xa_lau x n i9 j9 fr to late b r u) (ga_post (xa_K k) (xa_W k x) sz (xa_W k)) (va_A (xa_W k x) sz)) 1 6 (va_A (xa_W k x) sz) := by
  refine ga_Met (by decide) (Nat.le_of_ble_eq_true rfl) ?_
  intro p e s m below meth c hC hr hlocks _ hw ls hl
  have hx := hC.1
  have hb := hC.2.1
  have hl : lv_has ls 5 [(0, .ref (xa_a k 0)), (1, .int fr), (2, .int to), (3, .int late), (4, .ref b)] := hl
  refine lv_aload_n hx hb d_NetWires_launch_0 rfl (lv_at hl 0 rfl) ?_
  refine xg_NetWires_agenda hC hw fl_NetWires_19 d_NetWires_launch_1 ?_
  refine xg_Agenda_messages (v := x.1 8) hC hw fl_NetWires_206 d_NetWires_launch_4 rfl ?_
  refine lv_sipush (v := 200) hx hb d_NetWires_launch_7 (by decide) ?_
  refine lv_icmp_lt (tgt := 25) hx hb d_NetWires_launch_10 (by decide) (fun c_10 => ?_) (fun c_10 => ?_)
  · refine lv_aload_n hx hb d_NetWires_launch_25 rfl (lv_at hl 0 rfl) ?_
    refine lv_iload_n hx hb d_NetWires_launch_26 rfl (lv_at hl 1 rfl) ?_
    refine lv_iload_n hx hb d_NetWires_launch_27 rfl (lv_at hl 2 rfl) ?_
    refine lv_aload_n hx hb d_NetWires_launch_28 rfl (lv_at hl 0 rfl) ?_
    refine xg_NetWires_now (v := x.1 0) hC hw fl_NetWires_47 d_NetWires_launch_29 rfl ?_
    refine lv_aload_n hx hb d_NetWires_launch_32 rfl (lv_at hl 0 rfl) ?_
    refine xg_NetWires_delays hC hw fl_NetWires_37 d_NetWires_launch_33 ?_
    refine lv_iload_n hx hb d_NetWires_launch_36 rfl (lv_at hl 1 rfl) ?_
    refine lv_iload_n hx hb d_NetWires_launch_37 rfl (lv_at hl 2 rfl) ?_
    refine ga_Si (As := [.int fr, .int to]) (rest := [.ref (xa_a k 8), .int (x.1 0), .int to, .int fr, .ref (xa_a k 0)]) hC hw (c_NetWires_linkOf l k x fr to _) m_NetWires_linkOf ml_NetWires_153 rfl rfl ⟨Nat.le_of_ble_eq_true rfl, Nat.le_of_ble_eq_true rfl⟩ rfl hl.1 rfl (Nat.le_of_ble_eq_true rfl) d_NetWires_launch_38 ⟨Nat.le_of_ble_eq_true rfl, Nat.le_of_ble_eq_true rfl⟩ (fun r u H locs hp hw => ?_)
    obtain ⟨rfl, rfl⟩ := hp
    refine ga_asi (v := nI (i9 * 16 + j9)) ((by rw [hfr9, hto9]; exact (congrArg (· + nI j9) (pk_mul i9 16)).trans (nI_add _ _))) ?_
    refine xr_delays (v := xa_L x (i9 * 16 + j9)) hC hw (vp_in_nI (by omega) (by decide)) d_NetWires_launch_41 (by rw [nI_clamp (by omega)]) ?_
    refine lv_iadd hx hb d_NetWires_launch_42 ?_
    refine lv_iload_n hx hb d_NetWires_launch_43 rfl (lv_at hl 3 rfl) ?_
    refine lv_iadd hx hb d_NetWires_launch_44 ?_
    refine lv_aload hx hb d_NetWires_launch_45 (lv_at hl 4 rfl) ?_
    refine ga_Vv (As := [.int fr, .int to, .int (((x.1 0) + (xa_L x (i9 * 16 + j9))) + late), .ref b]) (rest := []) hC hw (c_NetWires_addMessage l k x fr to (((x.1 0) + (xa_L x (i9 * 16 + j9))) + late) b n h0 (hn c_10) _) m_NetWires_addMessage ml_NetWires_184 (ga_recv hw (q0 := 0) rfl rfl) rfl rfl ⟨Nat.le_of_ble_eq_true rfl, Nat.le_of_ble_eq_true rfl⟩ rfl hl.1 rfl (Nat.le_of_ble_eq_true rfl) d_NetWires_launch_47 ⟨Nat.le_of_ble_eq_true rfl, Nat.le_of_ble_eq_true rfl⟩ (fun u H locs hp hw => ?_)
    obtain ⟨a, q, hfr, hq, hi, hj, rfl⟩ := hp
    refine lv_aload_n hx hb d_NetWires_launch_50 rfl (lv_at hl 0 rfl) ?_
    refine lv_dup hx hb d_NetWires_launch_51 rfl ?_
    refine xg_NetWires_everOnWay (v := (xa_add x n a q (xa_five 0 to fr (((x.1 0) + (xa_L x (i9 * 16 + j9))) + late) (x.1 1)) b).1 4) hC hw fl_NetWires_60 d_NetWires_launch_52 rfl ?_
    refine lv_iconst (v := 1) hx hb d_NetWires_launch_55 (by decide) ?_
    refine lv_iadd hx hb d_NetWires_launch_56 ?_
    refine xp_NetWires_everOnWay hC hw fl_NetWires_60 d_NetWires_launch_57 (fun H locs hw => ?_)
    refine lv_iconst (v := 1) hx hb d_NetWires_launch_60 (by decide) ?_
    exact ga_iret (u := xa_sI (xa_add x n a q (xa_five 0 to fr (((x.1 0) + (xa_L x (i9 * 16 + j9))) + late) (x.1 1)) b) 4 (((xa_add x n a q (xa_five 0 to fr (((x.1 0) + (xa_L x (i9 * 16 + j9))) + late) (x.1 1)) b).1 4) + 1)) hC hr hlocks hw (Or.inr ⟨rfl, c_10, a, q, hfr, hq, hi, hj, rfl⟩) (Nat.le_of_ble_eq_true rfl) (Nat.le_of_ble_eq_true rfl) d_NetWires_launch_61
  · refine lv_aload_n hx hb d_NetWires_launch_13 rfl (lv_at hl 0 rfl) ?_
    refine lv_dup hx hb d_NetWires_launch_14 rfl ?_
    refine xg_NetWires_lost (v := x.1 5) hC hw fl_NetWires_63 d_NetWires_launch_15 rfl ?_
    refine lv_iconst (v := 1) hx hb d_NetWires_launch_18 (by decide) ?_
    refine lv_iadd hx hb d_NetWires_launch_19 ?_
    refine xp_NetWires_lost hC hw fl_NetWires_63 d_NetWires_launch_20 (fun H locs hw => ?_)
    refine lv_iconst (v := 0) hx hb d_NetWires_launch_23 (by decide) ?_
    exact ga_iret (u := xa_sI x 5 ((x.1 5) + 1)) hC hr hlocks hw (Or.inl ⟨rfl, c_10, rfl⟩) (Nat.le_of_ble_eq_true rfl) (Nat.le_of_ble_eq_true rfl) d_NetWires_launch_24

set_option maxHeartbeats 4000000 in
set_option maxRecDepth 100000 in
theorem c_NetWires_setTimer (l : Launch) (k : xa_k) (x : XS) (kd ep ti : Int32) (n : Nat) (h0 : xa_R0 x n) (hn0 : (∀ t, t < n → ¬ xa_mt x t kd ep) → n < 232) (sz : Nat) : Met l y_NetWires_setTimer (Cond.code y_NetWires_setTimer b_NetWires_setTimer 5 (some .boolean) :: ga_T) ({ frames := 3, cells := 1, slots := 6, locals := 67 }) (va_Pc [.ref (xa_a k 0), .int kd, .int ep, .int ti] (ga_pre (xa_K k) (xa_W k x) sz)) (va_Qi (fun (r : Int32) (u : XS) => xa_tim k x n kd ep ti r u) (ga_post (xa_K k) (xa_W k x) sz (xa_W k)) (va_A (xa_W k x) sz)) 1 6 (va_A (xa_W k x) sz) := by
  refine ga_Met (by decide) (Nat.le_of_ble_eq_true rfl) ?_
  intro p e s m below meth c hC hr hlocks _ hw ls hl
  have hx := hC.1
  have hb := hC.2.1
  have hl : lv_has ls 5 [(0, .ref (xa_a k 0)), (1, .int kd), (2, .int ep), (3, .int ti)] := hl
  refine lv_aload_n hx hb d_NetWires_setTimer_0 rfl (lv_at hl 0 rfl) ?_
  refine lv_iload_n hx hb d_NetWires_setTimer_1 rfl (lv_at hl 1 rfl) ?_
  refine lv_iload_n hx hb d_NetWires_setTimer_2 rfl (lv_at hl 2 rfl) ?_
  refine ga_Vi (As := [.int kd, .int ep]) (rest := []) hC hw (c_NetWires_dropTimer l k x kd ep n h0 _) m_NetWires_dropTimer ml_NetWires_129 (ga_recv hw (q0 := 0) rfl rfl) rfl rfl ⟨Nat.le_of_ble_eq_true rfl, Nat.le_of_ble_eq_true rfl⟩ rfl hl.1 rfl (Nat.le_of_ble_eq_true rfl) d_NetWires_setTimer_3 ⟨Nat.le_of_ble_eq_true rfl, Nat.le_of_ble_eq_true rfl⟩ (fun r u H locs hp hw => ?_)
  rcases hp with ⟨rfl, rfl, h_3⟩ | ⟨j_3, hj_3, rfl, h_3, g_3, rfl⟩
  · refine lv_istore (lv' := [(4, .int 0), (0, .ref (xa_a k 0)), (1, .int kd), (2, .int ep), (3, .int ti)]) hx hb d_NetWires_setTimer_6 hl (by decide) rfl (fun ls hl => ?_)
    refine lv_aload_n hx hb d_NetWires_setTimer_8 rfl (lv_at hl 1 rfl) ?_
    refine xg_NetWires_agenda hC hw fl_NetWires_19 d_NetWires_setTimer_9 ?_
    refine ga_new (fs := [.int 0, .int 0, .int 0, .int 0, .int 0, .null]) hC hw cl_Event t_Event t_Event_ok kl_NetWires_149 in_Event ini_Event (fun j hj => by rcases (show j = 0 ∨ j = 1 ∨ j = 2 ∨ j = 3 ∨ j = 4 ∨ j = 5 by omega) with rfl | rfl | rfl | rfl | rfl | rfl <;> rfl) (Nat.le_of_ble_eq_true rfl) (Nat.le_of_ble_eq_true rfl) d_NetWires_setTimer_12 (fun a H hw => ?_)
    refine lv_dup hx hb d_NetWires_setTimer_15 rfl ?_
    refine lv_iload_n hx hb d_NetWires_setTimer_16 rfl (lv_at hl 2 rfl) ?_
    refine lv_iload_n hx hb d_NetWires_setTimer_17 rfl (lv_at hl 3 rfl) ?_
    refine lv_iconst (v := (-1)) hx hb d_NetWires_setTimer_18 (by decide) ?_
    refine lv_aload_n hx hb d_NetWires_setTimer_19 rfl (lv_at hl 1 rfl) ?_
    refine xg_NetWires_now (v := x.1 0) hC (ga_subL hw) fl_NetWires_47 d_NetWires_setTimer_20 rfl ?_
    refine lv_iload_n hx hb d_NetWires_setTimer_23 rfl (lv_at hl 4 rfl) ?_
    refine lv_iadd hx hb d_NetWires_setTimer_24 ?_
    refine lv_aload_n hx hb d_NetWires_setTimer_25 rfl (lv_at hl 1 rfl) ?_
    refine ga_ViL (As := []) (rest := [.int ((x.1 0) + ti), .int ((-1)), .int ep, .int kd, .ref a, .ref a, .ref (xa_a k 3)]) hC hw (c_NetWires_takeNumber l k x _) m_NetWires_takeNumber ml_NetWires_234 (ga_recv (ga_subL hw) (q0 := 0) rfl rfl) rfl rfl ⟨Nat.le_of_ble_eq_true rfl, Nat.le_of_ble_eq_true rfl⟩ rfl hl.1 rfl (Nat.le_of_ble_eq_true rfl) d_NetWires_setTimer_26 ⟨Nat.le_of_ble_eq_true rfl, Nat.le_of_ble_eq_true rfl⟩ (fun r u H locs hp hw => ?_)
    obtain ⟨rfl, rfl⟩ := hp
    refine xg_NO_BYTES hC (ga_subL hw) fl_NetWires_66 d_NetWires_setTimer_29 ?_
    refine ga_IvR (As := [.int kd, .int ep, .int ((-1)), .int ((x.1 0) + ti), .int (x.1 1), .ref (xa_a k 9)]) (rest := [.ref a, .ref (xa_a k 3)]) hC hw (c_Event_init l k a (xa_a k 9) kd ep ((-1)) ((x.1 0) + ti) (x.1 1) _) m_Event_init ml_NetWires_238 rfl rfl ⟨Nat.le_of_ble_eq_true rfl, Nat.le_of_ble_eq_true rfl⟩ rfl hl.1 rfl (Nat.le_of_ble_eq_true rfl) d_NetWires_setTimer_32 ⟨Nat.le_of_ble_eq_true rfl, Nat.le_of_ble_eq_true rfl⟩ (fun u H locs _ hw => ?_)
    obtain ⟨hfr, hw⟩ := xa_absorb hw
    have hE : xa_isE ((xa_P (xa_sI x 1 ((x.1 1) + 1))).1 ++ [a], va_up (xa_P (xa_sI x 1 ((x.1 1) + 1))).2 a (xa_ev (xa_five kd ep ((-1)) ((x.1 0) + ti) (x.1 1)) (xa_a k 9))) a (xa_five kd ep ((-1)) ((x.1 0) + ti) (x.1 1)) (xa_a k 9) := ⟨List.mem_append_right _ List.mem_cons_self, va_up_self _ _ _⟩
    have hnn : n < 232 := hn0 h_3
    obtain ⟨hR1, hat1⟩ := xa_R0.up (x := xa_sI x 1 (x.1 1 + 1)) (a := a) (e := xa_ev (xa_five kd ep (-1) (x.1 0 + ti) (x.1 1)) (xa_a k 9)) (show xa_R0 _ (n) from h0) hfr
    refine ga_Vv (As := [.ref a]) (rest := []) hC hw (c_Agenda_insert l k (xa_sP (xa_sI x 1 ((x.1 1) + 1)) (((xa_P (xa_sI x 1 ((x.1 1) + 1))).1 ++ [a], va_up (xa_P (xa_sI x 1 ((x.1 1) + 1))).2 a (xa_ev (xa_five kd ep ((-1)) ((x.1 0) + ti) (x.1 1)) (xa_a k 9))))) a (n) (xa_five kd ep (-1) (x.1 0 + ti) (x.1 1)) (xa_a k 9) hR1 hE hnn _) m_Agenda_insert ml_NetWires_241 (ga_recv hw (q0 := 3) rfl rfl) rfl rfl ⟨Nat.le_of_ble_eq_true rfl, Nat.le_of_ble_eq_true rfl⟩ rfl hl.1 rfl (Nat.le_of_ble_eq_true rfl) d_NetWires_setTimer_35 ⟨Nat.le_of_ble_eq_true rfl, Nat.le_of_ble_eq_true rfl⟩ (fun u H locs hp hw => ?_)
    obtain ⟨q, hq, hi, hj, rfl⟩ := hp
    refine lv_iload hx hb d_NetWires_setTimer_38 (lv_at hl 0 rfl) ?_
    exact ga_zret (u := xa_msg (xa_sI (xa_sE (xa_sP (xa_sI x 1 ((x.1 1) + 1)) (((xa_P (xa_sI x 1 ((x.1 1) + 1))).1 ++ [a], va_up (xa_P (xa_sI x 1 ((x.1 1) + 1))).2 a (xa_ev (xa_five kd ep ((-1)) ((x.1 0) + ti) (x.1 1)) (xa_a k 9))))) (xa_ins (xa_E (xa_sP (xa_sI x 1 ((x.1 1) + 1)) (((xa_P (xa_sI x 1 ((x.1 1) + 1))).1 ++ [a], va_up (xa_P (xa_sI x 1 ((x.1 1) + 1))).2 a (xa_ev (xa_five kd ep ((-1)) ((x.1 0) + ti) (x.1 1)) (xa_a k 9)))))) n q a)) 7 (nI (n + 1))) ((xa_five kd ep (-1) (x.1 0 + ti) (x.1 1)) 0) 1) hC hr hlocks hw (Or.inl rfl) (Or.inl ⟨rfl, h_3, ⟨a, q, hfr, hq, fun j h1 h2 => by have h3 := hi j h1 h2; rw [hat1 j h2] at h3; exact h3, fun j h1 => by have h3 := hj j h1; rw [hat1 j (by omega)] at h3; exact h3, rfl⟩⟩) (Nat.le_of_ble_eq_true rfl) (Nat.le_of_ble_eq_true rfl) d_NetWires_setTimer_40
  · refine lv_istore (lv' := [(4, .int 1), (0, .ref (xa_a k 0)), (1, .int kd), (2, .int ep), (3, .int ti)]) hx hb d_NetWires_setTimer_6 hl (by decide) rfl (fun ls hl => ?_)
    refine lv_aload_n hx hb d_NetWires_setTimer_8 rfl (lv_at hl 1 rfl) ?_
    refine xg_NetWires_agenda hC hw fl_NetWires_19 d_NetWires_setTimer_9 ?_
    refine ga_new (fs := [.int 0, .int 0, .int 0, .int 0, .int 0, .null]) hC hw cl_Event t_Event t_Event_ok kl_NetWires_149 in_Event ini_Event (fun j hj => by rcases (show j = 0 ∨ j = 1 ∨ j = 2 ∨ j = 3 ∨ j = 4 ∨ j = 5 by omega) with rfl | rfl | rfl | rfl | rfl | rfl <;> rfl) (Nat.le_of_ble_eq_true rfl) (Nat.le_of_ble_eq_true rfl) d_NetWires_setTimer_12 (fun a H hw => ?_)
    refine lv_dup hx hb d_NetWires_setTimer_15 rfl ?_
    refine lv_iload_n hx hb d_NetWires_setTimer_16 rfl (lv_at hl 2 rfl) ?_
    refine lv_iload_n hx hb d_NetWires_setTimer_17 rfl (lv_at hl 3 rfl) ?_
    refine lv_iconst (v := (-1)) hx hb d_NetWires_setTimer_18 (by decide) ?_
    refine lv_aload_n hx hb d_NetWires_setTimer_19 rfl (lv_at hl 1 rfl) ?_
    refine xg_NetWires_now (v := (xa_take x n j_3).1 0) hC (ga_subL hw) fl_NetWires_47 d_NetWires_setTimer_20 rfl ?_
    refine lv_iload_n hx hb d_NetWires_setTimer_23 rfl (lv_at hl 4 rfl) ?_
    refine lv_iadd hx hb d_NetWires_setTimer_24 ?_
    refine lv_aload_n hx hb d_NetWires_setTimer_25 rfl (lv_at hl 1 rfl) ?_
    refine ga_ViL (As := []) (rest := [.int (((xa_take x n j_3).1 0) + ti), .int ((-1)), .int ep, .int kd, .ref a, .ref a, .ref (xa_a k 3)]) hC hw (c_NetWires_takeNumber l k (xa_take x n j_3) _) m_NetWires_takeNumber ml_NetWires_234 (ga_recv (ga_subL hw) (q0 := 0) rfl rfl) rfl rfl ⟨Nat.le_of_ble_eq_true rfl, Nat.le_of_ble_eq_true rfl⟩ rfl hl.1 rfl (Nat.le_of_ble_eq_true rfl) d_NetWires_setTimer_26 ⟨Nat.le_of_ble_eq_true rfl, Nat.le_of_ble_eq_true rfl⟩ (fun r u H locs hp hw => ?_)
    obtain ⟨rfl, rfl⟩ := hp
    refine xg_NO_BYTES hC (ga_subL hw) fl_NetWires_66 d_NetWires_setTimer_29 ?_
    refine ga_IvR (As := [.int kd, .int ep, .int ((-1)), .int (((xa_take x n j_3).1 0) + ti), .int ((xa_take x n j_3).1 1), .ref (xa_a k 9)]) (rest := [.ref a, .ref (xa_a k 3)]) hC hw (c_Event_init l k a (xa_a k 9) kd ep ((-1)) (((xa_take x n j_3).1 0) + ti) ((xa_take x n j_3).1 1) _) m_Event_init ml_NetWires_238 rfl rfl ⟨Nat.le_of_ble_eq_true rfl, Nat.le_of_ble_eq_true rfl⟩ rfl hl.1 rfl (Nat.le_of_ble_eq_true rfl) d_NetWires_setTimer_32 ⟨Nat.le_of_ble_eq_true rfl, Nat.le_of_ble_eq_true rfl⟩ (fun u H locs _ hw => ?_)
    obtain ⟨hfr, hw⟩ := xa_absorb hw
    have hE : xa_isE ((xa_P (xa_sI (xa_take x n j_3) 1 (((xa_take x n j_3).1 1) + 1))).1 ++ [a], va_up (xa_P (xa_sI (xa_take x n j_3) 1 (((xa_take x n j_3).1 1) + 1))).2 a (xa_ev (xa_five kd ep ((-1)) (((xa_take x n j_3).1 0) + ti) ((xa_take x n j_3).1 1)) (xa_a k 9))) a (xa_five kd ep ((-1)) (((xa_take x n j_3).1 0) + ti) ((xa_take x n j_3).1 1)) (xa_a k 9) := ⟨List.mem_append_right _ List.mem_cons_self, va_up_self _ _ _⟩
    have hnn : n - 1 < 232 := by have := h0.2.1; omega
    have h0 := h0.take hj_3
    obtain ⟨hR1, hat1⟩ := xa_R0.up (x := xa_sI (xa_take x n j_3) 1 ((xa_take x n j_3).1 1 + 1)) (a := a) (e := xa_ev (xa_five kd ep (-1) ((xa_take x n j_3).1 0 + ti) ((xa_take x n j_3).1 1)) (xa_a k 9)) (show xa_R0 _ (n - 1) from h0) hfr
    refine ga_Vv (As := [.ref a]) (rest := []) hC hw (c_Agenda_insert l k (xa_sP (xa_sI (xa_take x n j_3) 1 (((xa_take x n j_3).1 1) + 1)) (((xa_P (xa_sI (xa_take x n j_3) 1 (((xa_take x n j_3).1 1) + 1))).1 ++ [a], va_up (xa_P (xa_sI (xa_take x n j_3) 1 (((xa_take x n j_3).1 1) + 1))).2 a (xa_ev (xa_five kd ep ((-1)) (((xa_take x n j_3).1 0) + ti) ((xa_take x n j_3).1 1)) (xa_a k 9))))) a (n - 1) (xa_five kd ep (-1) ((xa_take x n j_3).1 0 + ti) ((xa_take x n j_3).1 1)) (xa_a k 9) hR1 hE hnn _) m_Agenda_insert ml_NetWires_241 (ga_recv hw (q0 := 3) rfl rfl) rfl rfl ⟨Nat.le_of_ble_eq_true rfl, Nat.le_of_ble_eq_true rfl⟩ rfl hl.1 rfl (Nat.le_of_ble_eq_true rfl) d_NetWires_setTimer_35 ⟨Nat.le_of_ble_eq_true rfl, Nat.le_of_ble_eq_true rfl⟩ (fun u H locs hp hw => ?_)
    obtain ⟨q, hq, hi, hj, rfl⟩ := hp
    refine lv_iload hx hb d_NetWires_setTimer_38 (lv_at hl 0 rfl) ?_
    exact ga_zret (u := xa_msg (xa_sI (xa_sE (xa_sP (xa_sI (xa_take x n j_3) 1 (((xa_take x n j_3).1 1) + 1)) (((xa_P (xa_sI (xa_take x n j_3) 1 (((xa_take x n j_3).1 1) + 1))).1 ++ [a], va_up (xa_P (xa_sI (xa_take x n j_3) 1 (((xa_take x n j_3).1 1) + 1))).2 a (xa_ev (xa_five kd ep ((-1)) (((xa_take x n j_3).1 0) + ti) ((xa_take x n j_3).1 1)) (xa_a k 9))))) (xa_ins (xa_E (xa_sP (xa_sI (xa_take x n j_3) 1 (((xa_take x n j_3).1 1) + 1)) (((xa_P (xa_sI (xa_take x n j_3) 1 (((xa_take x n j_3).1 1) + 1))).1 ++ [a], va_up (xa_P (xa_sI (xa_take x n j_3) 1 (((xa_take x n j_3).1 1) + 1))).2 a (xa_ev (xa_five kd ep ((-1)) (((xa_take x n j_3).1 0) + ti) ((xa_take x n j_3).1 1)) (xa_a k 9)))))) (n - 1) q a)) 7 (nI (n - 1 + 1))) ((xa_five kd ep (-1) ((xa_take x n j_3).1 0 + ti) ((xa_take x n j_3).1 1)) 0) 1) hC hr hlocks hw (Or.inr rfl) (Or.inr ⟨j_3, hj_3, rfl, h_3, g_3, ⟨a, q, hfr, hq, fun j h1 h2 => by have h3 := hi j h1 h2; rw [hat1 j h2] at h3; exact h3, fun j h1 => by have h3 := hj j h1; rw [hat1 j (by omega)] at h3; exact h3, rfl⟩⟩) (Nat.le_of_ble_eq_true rfl) (Nat.le_of_ble_eq_true rfl) d_NetWires_setTimer_40
