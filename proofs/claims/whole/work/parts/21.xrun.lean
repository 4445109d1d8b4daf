set_option maxHeartbeats 4000000 in
set_option maxRecDepth 100000 in
theorem lp_NetWires_run {p : Program} {l : Launch} {e : Env} {s : State} {m : MethodId} {args : Array Value} {below : List Frame} {meth : Method} {c : Code} {Q : State → Prop} {A : Nat → Prop} {k : xa_k} {x : XS} {en : Int32} {n : Nat} (hC : CallFix p m c b_NetWires_run 5 s args ga_T "NetWires") (hn : n ≤ 232)
    (kx : ∀ (c9 : Nat) (H : Heap) (locs : List Loc) (ls : Array Slot), c9 ≤ n → (∀ d, d < c9 → xa_at (xa_it d x) 0 3 ≤ en) → (c9 = n ∨ ¬ xa_at (xa_it c9 x) 0 3 ≤ en) → ga_w (xa_K k) (xa_W k (xa_it c9 x)) A s H locs → lv_has ls 5 [(3, .int (nI c9)), (0, .ref (xa_a k 0)), (2, .int en)] → W p l e ({ frames := 6, cells := 1, slots := 6, locals := 87 }) s m args below meth c H locs 1 6 Q (F0 m 86 ls [])) :
    ∀ (d c9 w kp : Nat) (H : Heap) (locs : List Loc) (ls : Array Slot), d + c9 = n → xa_R0 (xa_it c9 x) d → xa_hi (xa_it c9 x) w kp → (∀ i, i < c9 → xa_at (xa_it i x) 0 3 ≤ en) → ga_w (xa_K k) (xa_W k (xa_it c9 x)) A s H locs → lv_has ls 5 [(3, .int (nI c9)), (0, .ref (xa_a k 0)), (2, .int en)] → W p l e ({ frames := 6, cells := 1, slots := 6, locals := 87 }) s m args below meth c H locs 1 6 Q (F0 m 30 ls []) := by
  have hx := hC.1
  have hb := hC.2.1
  intro d
  induction d with
  | zero =>
    intro c9 w kp H locs ls hd h0 hh hi hw hl
    refine lv_iload_n hx hb d_NetWires_run_30 rfl (lv_at hl 0 rfl) ?_
    refine lv_sipush (v := 232) hx hb d_NetWires_run_31 (by decide) ?_
    refine lv_icmp_ge (tgt := 86) hx hb d_NetWires_run_34 (by decide) (fun c_34 => ?_) (fun c_34 => ?_)
    · exact kx c9 H locs ls (by omega) hi (Or.inl (by omega)) hw (lv_sub hl [0, 1, 2] rfl)
    · refine lv_aload_n hx hb d_NetWires_run_37 rfl (lv_at hl 1 rfl) ?_
      refine xg_NetWires_agenda hC hw fl_NetWires_19 d_NetWires_run_38 ?_
      refine lv_iconst (v := 0) hx hb d_NetWires_run_41 (by decide) ?_
      refine ga_Vq (As := [.int 0]) (rest := []) hC hw (c_Agenda_at l k (xa_it c9 x) 0 0 h0 _) m_Agenda_at ml_NetWires_145 (ga_recv hw (q0 := 3) rfl rfl) rfl rfl ⟨Nat.le_of_ble_eq_true rfl, Nat.le_of_ble_eq_true rfl⟩ rfl hl.1 rfl (Nat.le_of_ble_eq_true rfl) d_NetWires_run_42 ⟨Nat.le_of_ble_eq_true rfl, Nat.le_of_ble_eq_true rfl⟩ (fun r u H locs hp hw => ?_)
      obtain ⟨rfl, hp⟩ := hp
      rcases hp with ⟨rfl, h_42⟩ | ⟨j_42, hj_42, ej_42, rfl⟩
      · refine lv_astoreN (lv' := [(4, .null), (3, .int (nI c9)), (0, .ref (xa_a k 0)), (2, .int en)]) hx hb d_NetWires_run_45 hl (by decide) rfl (fun ls hl => ?_)
        refine lv_aloadN hx hb d_NetWires_run_47 (lv_at hl 0 rfl) ?_
        refine lv_ifnullN (tgt := 86) hx hb d_NetWires_run_49 (by decide) ?_
        exact kx c9 H locs ls (by omega) hi (Or.inl (by omega)) hw (lv_sub hl [1, 2, 3] rfl)
      · exact absurd hj_42 (Nat.not_lt_zero _)
  | succ d ih =>
    intro c9 w kp H locs ls hd h0 hh hi hw hl
    obtain ⟨hR2, hh2⟩ := xa_st_R0 h0 (Nat.succ_pos d) hh
    have hR3 : xa_R0 (xa_it (c9 + 1) x) d := hR2
    refine lv_iload_n hx hb d_NetWires_run_30 rfl (lv_at hl 0 rfl) ?_
    refine lv_sipush (v := 232) hx hb d_NetWires_run_31 (by decide) ?_
    refine lv_icmp_ge (tgt := 86) hx hb d_NetWires_run_34 (by decide) (fun c_34 => ?_) (fun c_34 => ?_)
    · exact absurd c_34 (nI_ge (a := c9) (b := 232) (by omega) (by decide))
    · refine lv_aload_n hx hb d_NetWires_run_37 rfl (lv_at hl 1 rfl) ?_
      refine xg_NetWires_agenda hC hw fl_NetWires_19 d_NetWires_run_38 ?_
      refine lv_iconst (v := 0) hx hb d_NetWires_run_41 (by decide) ?_
      refine ga_Vq (As := [.int 0]) (rest := []) hC hw (c_Agenda_at l k (xa_it c9 x) 0 (d + 1) h0 _) m_Agenda_at ml_NetWires_145 (ga_recv hw (q0 := 3) rfl rfl) rfl rfl ⟨Nat.le_of_ble_eq_true rfl, Nat.le_of_ble_eq_true rfl⟩ rfl hl.1 rfl (Nat.le_of_ble_eq_true rfl) d_NetWires_run_42 ⟨Nat.le_of_ble_eq_true rfl, Nat.le_of_ble_eq_true rfl⟩ (fun r u H locs hp hw => ?_)
      obtain ⟨rfl, hp⟩ := hp
      rcases hp with ⟨rfl, h_42⟩ | ⟨j_42, hj_42, ej_42, rfl⟩
      · exact absurd (xa_n0 h0.2.1 h_42) (by omega)
      · obtain rfl : j_42 = 0 := (nI_eq (by have := h0.2.1; omega) (by decide)).mp ej_42.symm
        refine lv_astore (lv' := [(4, .ref (xa_ad (xa_it c9 x) 0)), (3, .int (nI c9)), (0, .ref (xa_a k 0)), (2, .int en)]) hx hb d_NetWires_run_45 hl (by decide) rfl (fun ls hl => ?_)
        refine lv_aload hx hb d_NetWires_run_47 (lv_at hl 0 rfl) ?_
        refine lv_ifnull hx hb d_NetWires_run_49 ?_
        refine lv_aload hx hb d_NetWires_run_52 (lv_at hl 0 rfl) ?_
        refine xe_time hC hw (h0.get hj_42).2 fl_NetWires_148 d_NetWires_run_54 ?_
        refine lv_iload_n hx hb d_NetWires_run_57 rfl (lv_at hl 3 rfl) ?_
        refine lv_icmp_le (tgt := 64) hx hb d_NetWires_run_58 (by decide) (fun c_58 => ?_) (fun c_58 => ?_)
        · refine lv_aload_n hx hb d_NetWires_run_64 rfl (lv_at hl 2 rfl) ?_
          refine xg_NetWires_agenda hC hw fl_NetWires_19 d_NetWires_run_65 ?_
          refine lv_iconst (v := 0) hx hb d_NetWires_run_68 (by decide) ?_
          refine ga_Vq (As := [.int 0]) (rest := []) hC hw (c_Agenda_takeAt l k (xa_it c9 x) 0 (d + 1) h0 _) m_Agenda_takeAt ml_NetWires_132 (ga_recv hw (q0 := 3) rfl rfl) rfl rfl ⟨Nat.le_of_ble_eq_true rfl, Nat.le_of_ble_eq_true rfl⟩ rfl hl.1 rfl (Nat.le_of_ble_eq_true rfl) d_NetWires_run_69 ⟨Nat.le_of_ble_eq_true rfl, Nat.le_of_ble_eq_true rfl⟩ (fun r u H locs hp hw => ?_)
          rcases hp with ⟨rfl, rfl, h_69⟩ | ⟨j_69, hj_69, ej_69, rfl, rfl⟩
          · exact absurd (xa_n0 h0.2.1 h_69) (by omega)
          · obtain rfl : j_69 = 0 := (nI_eq (by have := h0.2.1; omega) (by decide)).mp ej_69.symm
            have hE9 : xa_isE (xa_P (xa_take (xa_it c9 x) (d + 1) 0)) (xa_ad (xa_it c9 x) 0) (xa_v0 (xa_it c9 x)) (xa_b0 (xa_it c9 x)) := by rw [xa_take_P]; exact (h0.get hj_69).2
            refine lv_pop hx hb d_NetWires_run_72 rfl ?_
            refine lv_aload_n hx hb d_NetWires_run_73 rfl (lv_at hl 2 rfl) ?_
            refine lv_aload hx hb d_NetWires_run_74 (lv_at hl 0 rfl) ?_
            refine ga_Vi (As := [.ref (xa_ad (xa_it c9 x) 0)]) (rest := []) hC hw (c_NetWires_letHappen l k (xa_take (xa_it c9 x) (d + 1) 0) (xa_ad (xa_it c9 x) 0) w kp (xa_v0 (xa_it c9 x)) (xa_b0 (xa_it c9 x)) hE9 (by rw [xa_take_I _ _ _ _ (by decide) (by decide)]; exact hh.1) hh.2.1 (by rw [xa_take_I _ _ _ _ (by decide) (by decide)]; exact hh.2.2.1) hh.2.2.2 _) m_NetWires_letHappen ml_NetWires_136 (ga_recv hw (q0 := 0) rfl rfl) rfl rfl ⟨Nat.le_of_ble_eq_true rfl, Nat.le_of_ble_eq_true rfl⟩ rfl hl.1 rfl (Nat.le_of_ble_eq_true rfl) d_NetWires_run_76 ⟨Nat.le_of_ble_eq_true rfl, Nat.le_of_ble_eq_true rfl⟩ (fun r u H locs hp hw => ?_)
            obtain ⟨y2, hp, rfl⟩ := hp
            rw [(xa_st_eq h0 hh hp).1] at hw
            have hw : ga_w (xa_K k) (xa_W k (xa_it (c9 + 1) x)) A s H locs := hw
            refine lv_pop hx hb d_NetWires_run_79 rfl ?_
            refine lv_iinc (v := nI (c9 + 1)) (lv' := [(3, .int (nI (c9 + 1))), (4, .ref (xa_ad (xa_it c9 x) 0)), (0, .ref (xa_a k 0)), (2, .int en)]) hx hb d_NetWires_run_80 hl (k := 1) rfl (nI_1 c9) (by decide) rfl (fun ls hl => ?_)
            refine lv_goto (tgt := 30) hx hb d_NetWires_run_83 (by decide) ?_
            refine ih (c9 + 1) _ _ H locs ls (by omega) hR3 hh2 ?_ hw (lv_sub hl [0, 2, 3] rfl)
            intro i hi9
            rcases Nat.lt_or_ge i c9 with h3 | h3
            · exact hi i h3
            · have e : i = c9 := by omega
              subst e
              exact c_58
        · refine lv_goto (tgt := 86) hx hb d_NetWires_run_61 (by decide) ?_
          exact kx c9 H locs ls (by omega) hi (Or.inr c_58) hw (lv_sub hl [1, 2, 3] rfl)
set_option maxHeartbeats 4000000 in
set_option maxRecDepth 100000 in
theorem c_NetWires_run (l : Launch) (k : xa_k) (hst : l.stackTraces = false) (x : XS) (n9 : Int32) (n w kp : Nat) (h0 : xa_R0 x n) (hh : xa_hi x w kp) (sz : Nat) : vx_Met l y_NetWires_run (Cond.code y_NetWires_run b_NetWires_run 5 (some .int) :: ga_T) ({ frames := 6, cells := 1, slots := 6, locals := 87 }) (va_Pc [.ref (xa_a k 0), .int n9] (ga_pre (xa_K k) (xa_W k x) sz)) (va_Qi (fun (r : Int32) (u : XS) => (¬ n9 < 1 ∧ ¬ 1000 < n9) ∧ ∃ c9, c9 ≤ n ∧ (∀ d, d < c9 → xa_at (xa_it d x) 0 3 ≤ x.1 0 + n9) ∧ (c9 = n ∨ ¬ xa_at (xa_it c9 x) 0 3 ≤ x.1 0 + n9) ∧ r = nI c9 ∧ u = xa_sI (xa_it c9 x) 0 (x.1 0 + n9)) (ga_post (xa_K k) (xa_W k x) sz (xa_W k)) (va_A (xa_W k x) sz)) (ga_XC (xa_K k) (xa_W k x) sz (xa_W k) (fun E u => E = ga_IAE ∧ x = u ∧ (n9 < 1 ∨ 1000 < n9))) 1 6 (va_A (xa_W k x) sz) := by
  refine ga_MetX (by decide) (Nat.le_of_ble_eq_true rfl) ?_
  intro p e s m below meth c hC hr hlocks hT hw ls hl
  have hx := hC.1
  have hb := hC.2.1
  have hl : lv_has ls 5 [(0, .ref (xa_a k 0)), (1, .int n9)] := hl
  refine lv_iload_n hx hb d_NetWires_run_0 rfl (lv_at hl 1 rfl) ?_
  refine lv_iconst (v := 1) hx hb d_NetWires_run_1 (by decide) ?_
  refine lv_sipush (v := 1000) hx hb d_NetWires_run_2 (by decide) ?_
  refine ga_Si (As := [.int n9, .int 1, .int 1000]) (rest := []) hC hw (c_NetWires_isWithin l k x n9 1 1000 _) m_NetWires_isWithin ml_NetWires_140 rfl rfl ⟨Nat.le_of_ble_eq_true rfl, Nat.le_of_ble_eq_true rfl⟩ rfl hl.1 rfl (Nat.le_of_ble_eq_true rfl) d_NetWires_run_5 ⟨Nat.le_of_ble_eq_true rfl, Nat.le_of_ble_eq_true rfl⟩ (fun r u H locs hp hw => ?_)
  obtain ⟨rfl, hp⟩ := hp
  rcases hp with ⟨rfl, ⟨h_5, g_5⟩⟩ | ⟨rfl, h_5⟩
  · refine lv_if_ne (tgt := 21) hx hb d_NetWires_run_8 (by decide) (fun c_8 => ?_) (fun c_8 => ?_)
    · refine lv_aload_n hx hb d_NetWires_run_21 rfl (lv_at hl 0 rfl) ?_
      refine xg_NetWires_now (v := x.1 0) hC hw fl_NetWires_47 d_NetWires_run_22 rfl ?_
      refine lv_iload_n hx hb d_NetWires_run_25 rfl (lv_at hl 1 rfl) ?_
      refine lv_iadd hx hb d_NetWires_run_26 ?_
      refine lv_istore_n (lv' := [(2, .int ((x.1 0) + n9)), (0, .ref (xa_a k 0)), (1, .int n9)]) hx hb d_NetWires_run_27 rfl hl (by decide) rfl (fun ls hl => ?_)
      refine lv_iconst (v := 0) hx hb d_NetWires_run_28 (by decide) ?_
      refine lv_istore_n (lv' := [(3, .int 0), (2, .int ((x.1 0) + n9)), (0, .ref (xa_a k 0)), (1, .int n9)]) hx hb d_NetWires_run_29 rfl hl (by decide) rfl (fun ls hl => ?_)
      have hw : ga_w (xa_K k) (xa_W k (xa_it 0 x)) (va_A (xa_W k x) sz) s H locs := hw
      refine W.widen (k := 1) (n := 6) (Nat.le_of_ble_eq_true rfl) (Nat.le_of_ble_eq_true rfl) ?_
      refine lp_NetWires_run hC h0.2.1 (fun c9 H locs ls hc hi hj hw hl => ?_) n 0 w kp H locs ls (Nat.add_zero n) h0 hh (fun i h => absurd h (Nat.not_lt_zero i)) hw (lv_sub hl [0, 2, 1] rfl)
      refine lv_aload_n hx hb d_NetWires_run_86 rfl (lv_at hl 1 rfl) ?_
      refine lv_iload_n hx hb d_NetWires_run_87 rfl (lv_at hl 2 rfl) ?_
      refine xp_NetWires_now hC hw fl_NetWires_47 d_NetWires_run_88 (fun H locs hw => ?_)
      refine lv_iload_n hx hb d_NetWires_run_91 rfl (lv_at hl 0 rfl) ?_
      exact vx_ret (ga_iret (u := xa_sI (xa_it c9 x) 0 (x.1 0 + n9)) hC hr hlocks hw ⟨⟨h_5, g_5⟩, c9, hc, hi, hj, rfl, rfl⟩ (Nat.le_of_ble_eq_true rfl) (Nat.le_of_ble_eq_true rfl) d_NetWires_run_92)
    · exact absurd c_8 (by decide)
  · refine lv_if_ne (tgt := 21) hx hb d_NetWires_run_8 (by decide) (fun c_8 => ?_) (fun c_8 => ?_)
    · exact absurd c_8 (by decide)
    · exact ga_thIAE (u := x) hst hC hT hlocks hw hl.1 (is := 143) (tx := "n is not 1 .. 1000") (by decide +kernel) ⟨rfl, rfl, h_5⟩ d_NetWires_run_11 d_NetWires_run_14 d_NetWires_run_15 d_NetWires_run_17 d_NetWires_run_20 (Nat.le_of_ble_eq_true rfl) (Nat.le_of_ble_eq_true rfl) (Nat.le_of_ble_eq_true rfl) (Nat.le_of_ble_eq_true rfl) (Nat.le_of_ble_eq_true rfl) (Nat.le_of_ble_eq_true rfl)
