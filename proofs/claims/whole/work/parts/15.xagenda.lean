set_option maxHeartbeats 4000000 in
set_option maxRecDepth 100000 in
theorem c_Agenda_at (l : Launch) (k : xa_k) (x : XS) (p0 : Int32) (n : Nat) (h0 : xa_R0 x n) (sz : Nat) : Met l y_Agenda_at (Cond.code y_Agenda_at b_Agenda_at 2 (some (.object "NetWires$Event")) :: ga_T) ({ frames := 0, cells := 0, slots := 0, locals := 0 }) (va_Pc [.ref (xa_a k 3), .int p0] (ga_pre (xa_K k) (xa_W k x) sz)) (va_Qq (fun (r : Option Nat) (u : XS) => x = u ∧ ((r = none ∧ (p0 < 0 ∨ nI n ≤ p0)) ∨ (∃ j, j < n ∧ p0 = nI j ∧ r = some (xa_ad x j)))) (ga_post (xa_K k) (xa_W k x) sz (xa_W k)) (va_A (xa_W k x) sz)) 0 0 (va_A (xa_W k x) sz) := by
  refine ga_Met (by decide) (Nat.le_of_ble_eq_true rfl) ?_
  intro p e s m below meth c hC hr hlocks _ hw ls hl
  have hx := hC.1
  have hb := hC.2.1
  have hl : lv_has ls 2 [(0, .ref (xa_a k 3)), (1, .int p0)] := hl
  refine lv_iload_n hx hb d_Agenda_at_0 rfl (lv_at hl 1 rfl) ?_
  refine lv_if_lt (tgt := 12) hx hb d_Agenda_at_1 (by decide) (fun c_1 => ?_) (fun c_1 => ?_)
  · refine lv_null hx hb d_Agenda_at_12 ?_
    exact ga_qret (v := none) (u := x) hC hr (Or.inl ⟨_, rfl⟩) hlocks hw ⟨rfl, Or.inl ⟨rfl, Or.inl c_1⟩⟩ (Nat.le_of_ble_eq_true rfl) (Nat.le_of_ble_eq_true rfl) d_Agenda_at_13
  · refine lv_iload_n hx hb d_Agenda_at_4 rfl (lv_at hl 1 rfl) ?_
    refine lv_aload_n hx hb d_Agenda_at_5 rfl (lv_at hl 0 rfl) ?_
    refine xg_Agenda_size (v := x.1 7) hC hw fl_Agenda_17 d_Agenda_at_6 rfl ?_
    refine lv_icmp_lt (tgt := 14) hx hb d_Agenda_at_9 (by decide) (fun c_9 => ?_) (fun c_9 => ?_)
    · obtain ⟨j, hj, ej⟩ := xa_ix h0 c_1 c_9
      refine lv_aload_n hx hb d_Agenda_at_14 rfl (lv_at hl 0 rfl) ?_
      refine xg_Agenda_events hC hw fl_Agenda_11 d_Agenda_at_15 ?_
      refine lv_iload_n hx hb d_Agenda_at_18 rfl (lv_at hl 1 rfl) ?_
      refine xr_events (r := some (xa_ad x j)) hC hw (by rw [ej]; exact vp_in_nI (Nat.lt_of_lt_of_le hj h0.2.1) (by decide)) d_Agenda_at_19 (by rw [ej, nI_clamp (by have := h0.2.1; omega)]; exact (h0.get hj).1) ?_
      exact ga_qret (v := (some ((xa_ad x j)))) (u := x) hC hr (Or.inl ⟨_, rfl⟩) hlocks hw ⟨rfl, Or.inr ⟨j, hj, ej, rfl⟩⟩ (Nat.le_of_ble_eq_true rfl) (Nat.le_of_ble_eq_true rfl) d_Agenda_at_20
    · refine lv_null hx hb d_Agenda_at_12 ?_
      exact ga_qret (v := none) (u := x) hC hr (Or.inl ⟨_, rfl⟩) hlocks hw ⟨rfl, Or.inl ⟨rfl, Or.inr (by rw [← h0.1]; exact Int32.not_lt.mp c_9)⟩⟩ (Nat.le_of_ble_eq_true rfl) (Nat.le_of_ble_eq_true rfl) d_Agenda_at_13

set_option maxHeartbeats 4000000 in
set_option maxRecDepth 100000 in
theorem c_Agenda_isAfter (l : Launch) (k : xa_k) (x : XS) (pl tm : Int32) (n : Nat) (h0 : xa_R0 x n) (sz : Nat) : Met l y_Agenda_isAfter (Cond.code y_Agenda_isAfter b_Agenda_isAfter 4 (some .boolean) :: ga_T) ({ frames := 1, cells := 0, slots := 0, locals := 21 }) (va_Pc [.ref (xa_a k 3), .int pl, .int tm] (ga_pre (xa_K k) (xa_W k x) sz)) (va_Qi (fun (r : Int32) (u : XS) => x = u ∧ ((r = 1 ∧ ∃ j, j < n ∧ pl = nI j ∧ tm < xa_at x j 3) ∨ (r = 0 ∧ ∀ j, j < n → pl = nI j → ¬ tm < xa_at x j 3))) (ga_post (xa_K k) (xa_W k x) sz (xa_W k)) (va_A (xa_W k x) sz)) 0 0 (va_A (xa_W k x) sz) := by
  refine ga_Met (by decide) (Nat.le_of_ble_eq_true rfl) ?_
  intro p e s m below meth c hC hr hlocks _ hw ls hl
  have hx := hC.1
  have hb := hC.2.1
  have hl : lv_has ls 4 [(0, .ref (xa_a k 3)), (1, .int pl), (2, .int tm)] := hl
  refine lv_aload_n hx hb d_Agenda_isAfter_0 rfl (lv_at hl 0 rfl) ?_
  refine lv_iload_n hx hb d_Agenda_isAfter_1 rfl (lv_at hl 1 rfl) ?_
  refine ga_Vq (As := [.int pl]) (rest := []) hC hw (c_Agenda_at l k x pl n h0 _) m_Agenda_at ml_Agenda_34 (ga_recv hw (q0 := 3) rfl rfl) rfl rfl ⟨Nat.le_of_ble_eq_true rfl, Nat.le_of_ble_eq_true rfl⟩ rfl hl.1 rfl (Nat.le_of_ble_eq_true rfl) d_Agenda_isAfter_2 ⟨Nat.le_of_ble_eq_true rfl, Nat.le_of_ble_eq_true rfl⟩ (fun r u H locs hp hw => ?_)
  obtain ⟨rfl, hp⟩ := hp
  rcases hp with ⟨rfl, h_2⟩ | ⟨j_2, hj_2, ej_2, rfl⟩
  · refine lv_astore_nN (lv' := [(3, .null), (0, .ref (xa_a k 3)), (1, .int pl), (2, .int tm)]) hx hb d_Agenda_isAfter_5 rfl hl (by decide) rfl (fun ls hl => ?_)
    refine lv_aload_nN hx hb d_Agenda_isAfter_6 rfl (lv_at hl 0 rfl) ?_
    refine lv_ifnullN (tgt := 22) hx hb d_Agenda_isAfter_7 (by decide) ?_
    refine lv_iconst (v := 0) hx hb d_Agenda_isAfter_22 (by decide) ?_
    exact ga_zret (u := x) hC hr hlocks hw (Or.inl rfl) ⟨rfl, Or.inr ⟨rfl, fun j hj ej => absurd (xa_nix h0.2.1 h_2 ej hj) id⟩⟩ (Nat.le_of_ble_eq_true rfl) (Nat.le_of_ble_eq_true rfl) d_Agenda_isAfter_23
  · refine lv_astore_n (lv' := [(3, .ref (xa_ad x j_2)), (0, .ref (xa_a k 3)), (1, .int pl), (2, .int tm)]) hx hb d_Agenda_isAfter_5 rfl hl (by decide) rfl (fun ls hl => ?_)
    refine lv_aload_n hx hb d_Agenda_isAfter_6 rfl (lv_at hl 0 rfl) ?_
    refine lv_ifnull hx hb d_Agenda_isAfter_7 ?_
    refine lv_aload_n hx hb d_Agenda_isAfter_10 rfl (lv_at hl 0 rfl) ?_
    refine xe_time hC hw (h0.get hj_2).2 fl_Agenda_24 d_Agenda_isAfter_11 ?_
    refine lv_iload_n hx hb d_Agenda_isAfter_14 rfl (lv_at hl 3 rfl) ?_
    refine lv_icmp_le (tgt := 22) hx hb d_Agenda_isAfter_15 (by decide) (fun c_15 => ?_) (fun c_15 => ?_)
    · refine lv_iconst (v := 0) hx hb d_Agenda_isAfter_22 (by decide) ?_
      exact ga_zret (u := x) hC hr hlocks hw (Or.inl rfl) ⟨rfl, Or.inr ⟨rfl, fun j hj ej => by rw [xa_inj h0.2.1 hj hj_2 (ej.symm.trans ej_2)]; exact Int32.not_lt.mpr c_15⟩⟩ (Nat.le_of_ble_eq_true rfl) (Nat.le_of_ble_eq_true rfl) d_Agenda_isAfter_23
    · refine lv_iconst (v := 1) hx hb d_Agenda_isAfter_18 (by decide) ?_
      refine lv_goto (tgt := 23) hx hb d_Agenda_isAfter_19 (by decide) ?_
      exact ga_zret (u := x) hC hr hlocks hw (Or.inr rfl) ⟨rfl, Or.inl ⟨rfl, j_2, hj_2, ej_2, Int32.not_le.mp c_15⟩⟩ (Nat.le_of_ble_eq_true rfl) (Nat.le_of_ble_eq_true rfl) d_Agenda_isAfter_23
set_option maxHeartbeats 4000000 in
set_option maxRecDepth 100000 in
theorem lp_Agenda_insert {p : Program} {l : Launch} {e : Env} {s : State} {m : MethodId} {args : Array Value} {below : List Frame} {meth : Method} {c : Code} {Q : State → Prop} {A : Nat → Prop} {k : xa_k} {x : XS} {a n b : Nat} {v : Nat → Int32} (hC : CallFix p m c b_Agenda_insert 3 s args ga_T "NetWires$Agenda") (h0 : xa_R0 x n) (hE : xa_isE (xa_P x) a v b) (hn2 : n < 232)
    (kx : ∀ (q : Nat) (H : Heap) (locs : List Loc) (ls : Array Slot), q ≤ n → (∀ j, q ≤ j → j < n → v 3 < xa_at x j 3) → (∀ j, q = j + 1 → ¬ v 3 < xa_at x j 3) → ga_w (xa_K k) (xa_W k (xa_sE x (xa_shift (xa_E x) n q))) A s H locs → lv_has ls 3 [(2, .int (nI q)), (0, .ref (xa_a k 3)), (1, .ref a)] → W p l e ({ frames := 2, cells := 0, slots := 0, locals := 44 }) s m args below meth c H locs 0 0 Q (F0 m 54 ls [])) :
    ∀ (q : Nat) (H : Heap) (locs : List Loc) (ls : Array Slot), q ≤ n → (∀ j, q ≤ j → j < n → v 3 < xa_at x j 3) → ga_w (xa_K k) (xa_W k (xa_sE x (xa_shift (xa_E x) n q))) A s H locs → lv_has ls 3 [(2, .int (nI q)), (0, .ref (xa_a k 3)), (1, .ref a)] → W p l e ({ frames := 2, cells := 0, slots := 0, locals := 44 }) s m args below meth c H locs 0 0 Q (F0 m 16 ls []) := by
  have hx := hC.1
  have hb := hC.2.1
  have hn := h0.2.1
  intro q
  induction q with
  | zero =>
    intro H locs ls hq hi hw hl
    refine lv_iload_n hx hb d_Agenda_insert_16 rfl (lv_at hl 0 rfl) ?_
    refine lv_if_le (tgt := 54) hx hb d_Agenda_insert_17 (by decide) (fun c_17 => ?_) (fun c_17 => ?_)
    · exact kx 0 H locs ls (Nat.zero_le n) hi (fun j h => absurd h (by omega)) hw hl
    · exact absurd (Int32.le_refl 0) c_17
  | succ q ih =>
    intro H locs ls hq hi hw hl
    have hq1 : q < n := hq
    have hR0 : xa_R0 (xa_sE x (xa_shift (xa_E x) n (q + 1))) n := xa_R0.shift h0 hq
    have hat : xa_at (xa_sE x (xa_shift (xa_E x) n (q + 1))) q 3 = xa_at x q 3 := by unfold xa_at xa_ad; exact congrArg (fun z => xa_v (xa_P x) (Option.getD z 0) 3) (xa_shift_lo (Nat.le_succ q))
    have hup : va_up (xa_shift (xa_E x) n (q + 1)) (nI (q + 1)).toNatClampNeg (some (xa_ad x q)) = xa_shift (xa_E x) n q := by rw [nI_clamp (by omega)]; exact xa_shift_s hq (h0.get hq1).1
    have hin : ∀ i, i ≤ q + 1 → vp_in (nI i) 232 := fun i h => vp_in_nI (by omega) (by decide)
    refine lv_iload_n hx hb d_Agenda_insert_16 rfl (lv_at hl 0 rfl) ?_
    refine lv_if_le (tgt := 54) hx hb d_Agenda_insert_17 (by decide) (fun c_17 => ?_) (fun c_17 => ?_)
    · exact absurd c_17 (nI_nle (by omega) (by omega))
    · refine lv_aload_n hx hb d_Agenda_insert_20 rfl (lv_at hl 1 rfl) ?_
      refine lv_iload_n hx hb d_Agenda_insert_21 rfl (lv_at hl 0 rfl) ?_
      refine lv_iconst (v := 1) hx hb d_Agenda_insert_22 (by decide) ?_
      refine lv_isub hx hb d_Agenda_insert_23 ?_
      refine ga_asi (v := nI q) (nI_pred q) ?_
      refine lv_aload_n hx hb d_Agenda_insert_24 rfl (lv_at hl 2 rfl) ?_
      refine xe_time hC hw hE fl_Agenda_24 d_Agenda_insert_25 ?_
      refine ga_Vi (As := [.int (nI q), .int (v 3)]) (rest := []) hC hw (c_Agenda_isAfter l k (xa_sE x (xa_shift (xa_E x) n (q + 1))) (nI q) (v 3) n hR0 _) m_Agenda_isAfter ml_Agenda_27 (ga_recv hw (q0 := 3) rfl rfl) rfl rfl ⟨Nat.le_of_ble_eq_true rfl, Nat.le_of_ble_eq_true rfl⟩ rfl hl.1 rfl (Nat.le_of_ble_eq_true rfl) d_Agenda_insert_28 ⟨Nat.le_of_ble_eq_true rfl, Nat.le_of_ble_eq_true rfl⟩ (fun r u H locs hp hw => ?_)
      obtain ⟨rfl, hp⟩ := hp
      rcases hp with ⟨rfl, h_28⟩ | ⟨rfl, h_28⟩
      · refine lv_if_eq (tgt := 54) hx hb d_Agenda_insert_31 (by decide) (fun c_31 => ?_) (fun c_31 => ?_)
        · exact absurd c_31 (by decide)
        · refine lv_aload_n hx hb d_Agenda_insert_34 rfl (lv_at hl 1 rfl) ?_
          refine xg_Agenda_events hC hw fl_Agenda_11 d_Agenda_insert_35 ?_
          refine lv_iload_n hx hb d_Agenda_insert_38 rfl (lv_at hl 0 rfl) ?_
          refine lv_aload_n hx hb d_Agenda_insert_39 rfl (lv_at hl 1 rfl) ?_
          refine xg_Agenda_events hC hw fl_Agenda_11 d_Agenda_insert_40 ?_
          refine lv_iload_n hx hb d_Agenda_insert_43 rfl (lv_at hl 0 rfl) ?_
          refine lv_iconst (v := 1) hx hb d_Agenda_insert_44 (by decide) ?_
          refine lv_isub hx hb d_Agenda_insert_45 ?_
          refine ga_asi (v := nI q) (nI_pred q) ?_
          refine xr_events (r := some (xa_ad x q)) hC hw (hin q (Nat.le_succ q)) d_Agenda_insert_46 (by rw [nI_clamp (by omega)]; exact (xa_shift_lo (Nat.le_succ q)).trans (h0.get hq1).1) ?_
          refine xs_events hC hw (h0.get hq1).2 (hin (q + 1) (Nat.le_refl _)) d_Agenda_insert_47 (fun H locs hw => ?_)
          refine lv_iinc (v := nI q) (lv' := [(2, .int (nI q)), (0, .ref (xa_a k 3)), (1, .ref a)]) hx hb d_Agenda_insert_48 hl (k := 0) rfl (pk_m1 q) (by decide) rfl (fun ls hl => ?_)
          refine lv_goto (tgt := 16) hx hb d_Agenda_insert_51 (by decide) ?_
          refine ih H locs ls (by omega) ?_ (by rw [← hup]; exact hw) hl
          intro j h1 h2
          rcases Nat.lt_or_ge q j with h3 | h3
          · exact hi j h3 h2
          · have e : j = q := by omega
            subst e
            obtain ⟨i, hi1, ei, h4⟩ := h_28
            rw [← xa_inj hn hq1 hi1 ei, hat] at h4
            exact h4
      · refine lv_if_eq (tgt := 54) hx hb d_Agenda_insert_31 (by decide) (fun c_31 => ?_) (fun c_31 => ?_)
        · exact kx (q + 1) H locs ls hq hi (fun j hj => by have e : j = q := by omega
                                                           subst e; exact fun h => h_28 j hq1 rfl (by rw [hat]; exact h)) hw hl
        · exact absurd c_31 (by decide)
set_option maxHeartbeats 4000000 in
set_option maxRecDepth 100000 in
theorem c_Agenda_insert (l : Launch) (k : xa_k) (x : XS) (a n : Nat) (v : Nat → Int32) (b : Nat) (h0 : xa_R0 x n) (hE : xa_isE (xa_P x) a v b) (hn : n < 232) (sz : Nat) : Met l y_Agenda_insert (Cond.code y_Agenda_insert b_Agenda_insert 3 none :: ga_T) ({ frames := 2, cells := 0, slots := 0, locals := 44 }) (va_Pc [.ref (xa_a k 3), .ref a] (ga_pre (xa_K k) (xa_W k x) sz)) (va_Qv (fun (u : XS) => ∃ q, q ≤ n ∧ (∀ j, q ≤ j → j < n → v 3 < xa_at x j 3) ∧ (∀ j, q = j + 1 → ¬ v 3 < xa_at x j 3) ∧ u = xa_msg (xa_sI (xa_sE x (xa_ins (xa_E x) n q a)) 7 (nI (n + 1))) (v 0) 1) (ga_post (xa_K k) (xa_W k x) sz (xa_W k)) (va_A (xa_W k x) sz)) 0 0 (va_A (xa_W k x) sz) := by
  refine ga_Met (by decide) (Nat.le_of_ble_eq_true rfl) ?_
  intro p e s m below meth c hC hr hlocks _ hw ls hl
  have hx := hC.1
  have hb := hC.2.1
  have hl : lv_has ls 3 [(0, .ref (xa_a k 3)), (1, .ref a)] := hl
  refine lv_aload_n hx hb d_Agenda_insert_0 rfl (lv_at hl 0 rfl) ?_
  refine xg_Agenda_size (v := x.1 7) hC hw fl_Agenda_17 d_Agenda_insert_1 rfl ?_
  refine ga_asi (v := nI n) (h0.1) ?_
  refine lv_sipush (v := 232) hx hb d_Agenda_insert_4 (by decide) ?_
  refine lv_icmp_lt (tgt := 11) hx hb d_Agenda_insert_7 (by decide) (fun c_7 => ?_) (fun c_7 => ?_)
  · refine lv_aload_n hx hb d_Agenda_insert_11 rfl (lv_at hl 0 rfl) ?_
    refine xg_Agenda_size (v := x.1 7) hC hw fl_Agenda_17 d_Agenda_insert_12 rfl ?_
    refine ga_asi (v := nI n) (h0.1) ?_
    refine lv_istore_n (lv' := [(2, .int (nI n)), (0, .ref (xa_a k 3)), (1, .ref a)]) hx hb d_Agenda_insert_15 rfl hl (by decide) rfl (fun ls hl => ?_)
    have hw : ga_w (xa_K k) (xa_W k (xa_sE x (xa_shift (xa_E x) n n))) (va_A (xa_W k x) sz) s s.heap [] := by rw [xa_shift_n]; exact hw
    have hl : lv_has ls 3 [(2, .int (nI n)), (0, .ref (xa_a k 3)), (1, .ref a)] := hl
    refine lp_Agenda_insert hC h0 hE hn (fun q H locs ls hq hi hj hw hl => ?_) n s.heap [] ls (Nat.le_refl n) (fun j h1 h2 => absurd h1 (by omega)) hw hl
    have hin : vp_in (nI q) 232 := vp_in_nI (by omega) (by decide)
    refine lv_aload_n hx hb d_Agenda_insert_54 rfl (lv_at hl 1 rfl) ?_
    refine xg_Agenda_events hC hw fl_Agenda_11 d_Agenda_insert_55 ?_
    refine lv_iload_n hx hb d_Agenda_insert_58 rfl (lv_at hl 0 rfl) ?_
    refine lv_aload_n hx hb d_Agenda_insert_59 rfl (lv_at hl 2 rfl) ?_
    refine xs_events hC hw hE hin d_Agenda_insert_60 (fun H locs hw => ?_)
    refine lv_aload_n hx hb d_Agenda_insert_61 rfl (lv_at hl 1 rfl) ?_
    refine lv_dup hx hb d_Agenda_insert_62 rfl ?_
    refine xg_Agenda_size (v := (xa_sE x (xa_shift (xa_E x) n q)).1 7) hC hw fl_Agenda_17 d_Agenda_insert_63 rfl ?_
    refine ga_asi (v := nI n) (h0.1) ?_
    refine lv_iconst (v := 1) hx hb d_Agenda_insert_66 (by decide) ?_
    refine lv_iadd hx hb d_Agenda_insert_67 ?_
    refine ga_asi (v := nI (n + 1)) (nI_1 n) ?_
    refine xp_Agenda_size hC hw fl_Agenda_17 d_Agenda_insert_68 (fun H locs hw => ?_)
    refine lv_aload_n hx hb d_Agenda_insert_71 rfl (lv_at hl 2 rfl) ?_
    refine xe_kind hC hw hE fl_Agenda_31 d_Agenda_insert_72 ?_
    refine lv_if_ne (tgt := 88) hx hb d_Agenda_insert_75 (by decide) (fun c_75 => ?_) (fun c_75 => ?_)
    · exact ga_vret (u := xa_sI (xa_sE (xa_sE x (xa_shift (xa_E x) n q)) (va_up (xa_E (xa_sE x (xa_shift (xa_E x) n q))) (nI q).toNatClampNeg (some a))) 7 (nI (n + 1))) hC hr hlocks hw ⟨q, hq, hi, hj, by unfold xa_msg; rw [if_neg c_75, ← xa_ins_s hq]; rw [nI_clamp (by omega)]; rfl⟩ (Nat.le_of_ble_eq_true rfl) (Nat.le_of_ble_eq_true rfl) d_Agenda_insert_88
    · refine lv_aload_n hx hb d_Agenda_insert_78 rfl (lv_at hl 1 rfl) ?_
      refine lv_dup hx hb d_Agenda_insert_79 rfl ?_
      refine xg_Agenda_messages (v := (xa_sE x (xa_shift (xa_E x) n q)).1 8) hC hw fl_Agenda_21 d_Agenda_insert_80 rfl ?_
      refine lv_iconst (v := 1) hx hb d_Agenda_insert_83 (by decide) ?_
      refine lv_iadd hx hb d_Agenda_insert_84 ?_
      refine xp_Agenda_messages hC hw fl_Agenda_21 d_Agenda_insert_85 (fun H locs hw => ?_)
      exact ga_vret (u := xa_sI (xa_sI (xa_sE (xa_sE x (xa_shift (xa_E x) n q)) (va_up (xa_E (xa_sE x (xa_shift (xa_E x) n q))) (nI q).toNatClampNeg (some a))) 7 (nI (n + 1))) 8 (((xa_sE x (xa_shift (xa_E x) n q)).1 8) + 1)) hC hr hlocks hw ⟨q, hq, hi, hj, by unfold xa_msg; rw [if_pos c_75, ← xa_ins_s hq]; rw [nI_clamp (by omega)]; rfl⟩ (Nat.le_of_ble_eq_true rfl) (Nat.le_of_ble_eq_true rfl) d_Agenda_insert_88
  · exact absurd (nI_lt hn (by decide)) c_7
set_option maxHeartbeats 4000000 in
set_option maxRecDepth 100000 in
theorem lp_Agenda_takeAt {p : Program} {l : Launch} {e : Env} {s : State} {m : MethodId} {args : Array Value} {below : List Frame} {meth : Method} {c : Code} {Q : State → Prop} {A : Nat → Prop} {k : xa_k} {x : XS} {n j : Nat} (hC : CallFix p m c b_Agenda_takeAt 4 s args ga_T "NetWires$Agenda") (h0 : xa_R0 x n) (hj : j < n)
    (kx : ∀ (H : Heap) (locs : List Loc) (ls : Array Slot), ga_w (xa_K k) (xa_W k (xa_sE x (xa_pull (xa_E x) j n))) A s H locs → lv_has ls 4 [(3, .int (nI n)), (2, .ref (xa_ad x j)), (0, .ref (xa_a k 3)), (1, .int (nI j))] → W p l e ({ frames := 1, cells := 0, slots := 0, locals := 21 }) s m args below meth c H locs 0 0 Q (F0 m 44 ls [])) :
    ∀ (d i : Nat) (H : Heap) (locs : List Loc) (ls : Array Slot), d + i = n → j < i → ga_w (xa_K k) (xa_W k (xa_sE x (xa_pull (xa_E x) j i))) A s H locs → lv_has ls 4 [(3, .int (nI i)), (2, .ref (xa_ad x j)), (0, .ref (xa_a k 3)), (1, .int (nI j))] → W p l e ({ frames := 1, cells := 0, slots := 0, locals := 21 }) s m args below meth c H locs 0 0 Q (F0 m 16 ls []) := by
  have hx := hC.1
  have hb := hC.2.1
  have hn := h0.2.1
  intro d
  induction d with
  | zero =>
    intro i H locs ls hd hi hw hl
    have e : i = n := by omega
    subst e
    refine lv_iload_n hx hb d_Agenda_takeAt_16 rfl (lv_at hl 0 rfl) ?_
    refine lv_aload_n hx hb d_Agenda_takeAt_17 rfl (lv_at hl 2 rfl) ?_
    refine xg_Agenda_size (v := (xa_sE x (xa_pull (xa_E x) j i)).1 7) hC hw fl_Agenda_17 d_Agenda_takeAt_18 rfl ?_
    refine ga_asi (v := nI i) (h0.1) ?_
    refine lv_icmp_ge (tgt := 44) hx hb d_Agenda_takeAt_21 (by decide) (fun c_21 => ?_) (fun c_21 => ?_)
    · exact kx H locs ls hw hl
    · exact absurd (Int32.le_refl _) c_21
  | succ d ih =>
    intro i H locs ls hd hi hw hl
    have hin : ∀ t, t < n → vp_in (nI t) 232 := fun t h => vp_in_nI (by omega) (by decide)
    have hsub : nI i - 1 = nI (i - 1) := xa_pred (by omega)
    have hi2 : i < n := by omega
    have hup : va_up (xa_pull (xa_E x) j i) (nI (i - 1)).toNatClampNeg (some (xa_ad x i)) = xa_pull (xa_E x) j (i + 1) := by rw [nI_clamp (by omega)]; exact xa_pull_s hi (h0.get hi2).1
    refine lv_iload_n hx hb d_Agenda_takeAt_16 rfl (lv_at hl 0 rfl) ?_
    refine lv_aload_n hx hb d_Agenda_takeAt_17 rfl (lv_at hl 2 rfl) ?_
    refine xg_Agenda_size (v := (xa_sE x (xa_pull (xa_E x) j i)).1 7) hC hw fl_Agenda_17 d_Agenda_takeAt_18 rfl ?_
    refine ga_asi (v := nI n) (h0.1) ?_
    refine lv_icmp_ge (tgt := 44) hx hb d_Agenda_takeAt_21 (by decide) (fun c_21 => ?_) (fun c_21 => ?_)
    · exact absurd c_21 (nI_ge hi2 (by omega))
    · refine lv_aload_n hx hb d_Agenda_takeAt_24 rfl (lv_at hl 2 rfl) ?_
      refine xg_Agenda_events hC hw fl_Agenda_11 d_Agenda_takeAt_25 ?_
      refine lv_iload_n hx hb d_Agenda_takeAt_28 rfl (lv_at hl 0 rfl) ?_
      refine lv_iconst (v := 1) hx hb d_Agenda_takeAt_29 (by decide) ?_
      refine lv_isub hx hb d_Agenda_takeAt_30 ?_
      refine ga_asi (v := nI (i - 1)) (hsub) ?_
      refine lv_aload_n hx hb d_Agenda_takeAt_31 rfl (lv_at hl 2 rfl) ?_
      refine xg_Agenda_events hC hw fl_Agenda_11 d_Agenda_takeAt_32 ?_
      refine lv_iload_n hx hb d_Agenda_takeAt_35 rfl (lv_at hl 0 rfl) ?_
      refine xr_events (r := some (xa_ad x i)) hC hw (hin i hi2) d_Agenda_takeAt_36 (by rw [nI_clamp (by omega)]; exact (xa_pull_hi (Nat.le_succ i)).trans (h0.get hi2).1) ?_
      refine xs_events hC hw (h0.get hi2).2 (hin (i - 1) (by omega)) d_Agenda_takeAt_37 (fun H locs hw => ?_)
      refine lv_iinc (v := nI (i + 1)) (lv' := [(3, .int (nI (i + 1))), (2, .ref (xa_ad x j)), (0, .ref (xa_a k 3)), (1, .int (nI j))]) hx hb d_Agenda_takeAt_38 hl (k := 0) rfl (nI_1 i) (by decide) rfl (fun ls hl => ?_)
      refine lv_goto (tgt := 16) hx hb d_Agenda_takeAt_41 (by decide) ?_
      exact ih (i + 1) H locs ls (by omega) (by omega) (by rw [← hup]; exact hw) hl
set_option maxHeartbeats 4000000 in
set_option maxRecDepth 100000 in
theorem c_Agenda_takeAt (l : Launch) (k : xa_k) (x : XS) (p0 : Int32) (n : Nat) (h0 : xa_R0 x n) (sz : Nat) : Met l y_Agenda_takeAt (Cond.code y_Agenda_takeAt b_Agenda_takeAt 4 (some (.object "NetWires$Event")) :: ga_T) ({ frames := 1, cells := 0, slots := 0, locals := 21 }) (va_Pc [.ref (xa_a k 3), .int p0] (ga_pre (xa_K k) (xa_W k x) sz)) (va_Qq (fun (r : Option Nat) (u : XS) => (r = none ∧ x = u ∧ (p0 < 0 ∨ nI n ≤ p0)) ∨ (∃ j, j < n ∧ p0 = nI j ∧ r = some (xa_ad x j) ∧ u = xa_take x n j)) (ga_post (xa_K k) (xa_W k x) sz (xa_W k)) (va_A (xa_W k x) sz)) 0 0 (va_A (xa_W k x) sz) := by
  refine ga_Met (by decide) (Nat.le_of_ble_eq_true rfl) ?_
  intro p e s m below meth c hC hr hlocks _ hw ls hl
  have hx := hC.1
  have hb := hC.2.1
  have hl : lv_has ls 4 [(0, .ref (xa_a k 3)), (1, .int p0)] := hl
  refine lv_aload_n hx hb d_Agenda_takeAt_0 rfl (lv_at hl 0 rfl) ?_
  refine lv_iload_n hx hb d_Agenda_takeAt_1 rfl (lv_at hl 1 rfl) ?_
  refine ga_Vq (As := [.int p0]) (rest := []) hC hw (c_Agenda_at l k x p0 n h0 _) m_Agenda_at ml_Agenda_34 (ga_recv hw (q0 := 3) rfl rfl) rfl rfl ⟨Nat.le_of_ble_eq_true rfl, Nat.le_of_ble_eq_true rfl⟩ rfl hl.1 rfl (Nat.le_of_ble_eq_true rfl) d_Agenda_takeAt_2 ⟨Nat.le_of_ble_eq_true rfl, Nat.le_of_ble_eq_true rfl⟩ (fun r u H locs hp hw => ?_)
  obtain ⟨rfl, hp⟩ := hp
  rcases hp with ⟨rfl, h_2⟩ | ⟨j_2, hj_2, ej_2, rfl⟩
  · refine lv_astore_nN (lv' := [(2, .null), (0, .ref (xa_a k 3)), (1, .int p0)]) hx hb d_Agenda_takeAt_5 rfl hl (by decide) rfl (fun ls hl => ?_)
    refine lv_aload_nN hx hb d_Agenda_takeAt_6 rfl (lv_at hl 0 rfl) ?_
    refine lv_ifnonnullN hx hb d_Agenda_takeAt_7 ?_
    refine lv_null hx hb d_Agenda_takeAt_10 ?_
    exact ga_qret (v := none) (u := x) hC hr (Or.inl ⟨_, rfl⟩) hlocks hw (Or.inl ⟨rfl, rfl, h_2⟩) (Nat.le_of_ble_eq_true rfl) (Nat.le_of_ble_eq_true rfl) d_Agenda_takeAt_11
  · refine lv_astore_n (lv' := [(2, .ref (xa_ad x j_2)), (0, .ref (xa_a k 3)), (1, .int p0)]) hx hb d_Agenda_takeAt_5 rfl hl (by decide) rfl (fun ls hl => ?_)
    refine lv_aload_n hx hb d_Agenda_takeAt_6 rfl (lv_at hl 0 rfl) ?_
    refine lv_ifnonnull (tgt := 12) hx hb d_Agenda_takeAt_7 (by decide) ?_
    refine lv_iload_n hx hb d_Agenda_takeAt_12 rfl (lv_at hl 2 rfl) ?_
    refine lv_iconst (v := 1) hx hb d_Agenda_takeAt_13 (by decide) ?_
    refine lv_iadd hx hb d_Agenda_takeAt_14 ?_
    refine ga_asi (v := nI (j_2 + 1)) ((by rw [ej_2]; exact nI_1 j_2)) ?_
    refine lv_istore_n (lv' := [(3, .int (nI (j_2 + 1))), (2, .ref (xa_ad x j_2)), (0, .ref (xa_a k 3)), (1, .int p0)]) hx hb d_Agenda_takeAt_15 rfl hl (by decide) rfl (fun ls hl => ?_)
    subst ej_2
    have hw : ga_w (xa_K k) (xa_W k (xa_sE x (xa_pull (xa_E x) j_2 (j_2 + 1)))) (va_A (xa_W k x) sz) s H locs := by rw [xa_pull_0]; exact hw
    refine lp_Agenda_takeAt hC h0 hj_2 (fun H locs ls hw hl => ?_) (n - (j_2 + 1)) (j_2 + 1) H locs ls (by omega) (by omega) hw hl
    have hn := h0.2.1
    have hs1 : nI n - 1 = nI (n - 1) := xa_pred (by omega)
    have hin : vp_in (nI (n - 1)) 232 := vp_in_nI (by omega) (by decide)
    refine lv_aload_n hx hb d_Agenda_takeAt_44 rfl (lv_at hl 2 rfl) ?_
    refine lv_dup hx hb d_Agenda_takeAt_45 rfl ?_
    refine xg_Agenda_size (v := (xa_sE x (xa_pull (xa_E x) j_2 n)).1 7) hC hw fl_Agenda_17 d_Agenda_takeAt_46 rfl ?_
    refine ga_asi (v := nI n) (h0.1) ?_
    refine lv_iconst (v := 1) hx hb d_Agenda_takeAt_49 (by decide) ?_
    refine lv_isub hx hb d_Agenda_takeAt_50 ?_
    refine ga_asi (v := nI (n - 1)) (hs1) ?_
    refine xp_Agenda_size hC hw fl_Agenda_17 d_Agenda_takeAt_51 (fun H locs hw => ?_)
    refine lv_aload_n hx hb d_Agenda_takeAt_54 rfl (lv_at hl 2 rfl) ?_
    refine xg_Agenda_events hC hw fl_Agenda_11 d_Agenda_takeAt_55 ?_
    refine lv_aload_n hx hb d_Agenda_takeAt_58 rfl (lv_at hl 2 rfl) ?_
    refine xg_Agenda_size (v := nI (n - 1)) hC hw fl_Agenda_17 d_Agenda_takeAt_59 rfl ?_
    refine lv_null hx hb d_Agenda_takeAt_62 ?_
    refine xs_eventsN hC hw hin d_Agenda_takeAt_63 (fun H locs hw => ?_)
    refine lv_aload_n hx hb d_Agenda_takeAt_64 rfl (lv_at hl 1 rfl) ?_
    refine xe_kind hC hw (h0.get hj_2).2 fl_Agenda_31 d_Agenda_takeAt_65 ?_
    refine lv_if_ne (tgt := 81) hx hb d_Agenda_takeAt_68 (by decide) (fun c_68 => ?_) (fun c_68 => ?_)
    · refine lv_aload_n hx hb d_Agenda_takeAt_81 rfl (lv_at hl 1 rfl) ?_
      exact ga_qret (v := (some (xa_ad x j_2))) (u := xa_sE (xa_sI (xa_sE x (xa_pull (xa_E x) j_2 n)) 7 (nI (n - 1))) (va_up (xa_E (xa_sE x (xa_pull (xa_E x) j_2 n))) (nI (n - 1)).toNatClampNeg none)) hC hr (Or.inl ⟨_, rfl⟩) hlocks hw (Or.inr ⟨j_2, hj_2, rfl, rfl, by unfold xa_take xa_msg xa_del; rw [if_neg (show ¬ xa_at x j_2 0 = 0 from c_68), nI_clamp (by omega)] <;> rfl⟩) (Nat.le_of_ble_eq_true rfl) (Nat.le_of_ble_eq_true rfl) d_Agenda_takeAt_82
    · refine lv_aload_n hx hb d_Agenda_takeAt_71 rfl (lv_at hl 2 rfl) ?_
      refine lv_dup hx hb d_Agenda_takeAt_72 rfl ?_
      refine xg_Agenda_messages (v := (xa_sE x (xa_pull (xa_E x) j_2 n)).1 8) hC hw fl_Agenda_21 d_Agenda_takeAt_73 rfl ?_
      refine lv_iconst (v := 1) hx hb d_Agenda_takeAt_76 (by decide) ?_
      refine lv_isub hx hb d_Agenda_takeAt_77 ?_
      refine ga_asi (v := (xa_sE x (xa_pull (xa_E x) j_2 n)).1 8 + (-1)) (Int32.sub_eq_add_neg _ _) ?_
      refine xp_Agenda_messages hC hw fl_Agenda_21 d_Agenda_takeAt_78 (fun H locs hw => ?_)
      refine lv_aload_n hx hb d_Agenda_takeAt_81 rfl (lv_at hl 1 rfl) ?_
      exact ga_qret (v := (some (xa_ad x j_2))) (u := xa_sI (xa_sE (xa_sI (xa_sE x (xa_pull (xa_E x) j_2 n)) 7 (nI (n - 1))) (va_up (xa_E (xa_sE x (xa_pull (xa_E x) j_2 n))) (nI (n - 1)).toNatClampNeg none)) 8 ((xa_sE x (xa_pull (xa_E x) j_2 n)).1 8 + (-1))) hC hr (Or.inl ⟨_, rfl⟩) hlocks hw (Or.inr ⟨j_2, hj_2, rfl, rfl, by unfold xa_take xa_msg xa_del; rw [if_pos (show xa_at x j_2 0 = 0 from c_68), nI_clamp (by omega)] <;> rfl⟩) (Nat.le_of_ble_eq_true rfl) (Nat.le_of_ble_eq_true rfl) d_Agenda_takeAt_82
set_option maxHeartbeats 4000000 in
set_option maxRecDepth 100000 in
theorem lp_Agenda_placeOfTimer {p : Program} {l : Launch} {e : Env} {s : State} {m : MethodId} {args : Array Value} {below : List Frame} {meth : Method} {c : Code} {k : xa_k} {x : XS} {n sz : Nat} {kd ep : Int32} (hC : CallFix p m c b_Agenda_placeOfTimer 5 s args ga_T "NetWires$Agenda") (hr : meth.sig.returnType = some .int) (hlocks : meth.locks = false) (h0 : xa_R0 x n) :
    ∀ (d i : Nat) (H : Heap) (locs : List Loc) (ls : Array Slot), d + i = n → (∀ t, t < i → ¬ (xa_at x t 0 = kd ∧ xa_at x t 1 = ep)) → ga_w (xa_K k) (xa_W k x) (va_A (xa_W k x) sz) s H locs → lv_has ls 5 [(3, .int (nI i)), (0, .ref (xa_a k 3)), (1, .int kd), (2, .int ep)] → W p l e ({ frames := 1, cells := 0, slots := 0, locals := 21 }) s m args below meth c H locs 0 0 (MQ below (va_Qi (fun (r : Int32) (u : XS) => x = u ∧ ((r = -1 ∧ ∀ t, t < n → ¬ (xa_at x t 0 = kd ∧ xa_at x t 1 = ep)) ∨ (∃ j, j < n ∧ r = nI j ∧ (xa_at x j 0 = kd ∧ xa_at x j 1 = ep) ∧ ∀ t, t < j → ¬ (xa_at x t 0 = kd ∧ xa_at x t 1 = ep)))) (ga_post (xa_K k) (xa_W k x) sz (xa_W k)) (va_A (xa_W k x) sz)) args s 0 0 (va_A (xa_W k x) sz)) (F0 m 2 ls []) := by
  have hx := hC.1
  have hb := hC.2.1
  have hn := h0.2.1
  intro d
  induction d with
  | zero =>
    intro i H locs ls hd hi hw hl
    have e : i = n := by omega
    subst e
    refine lv_iload_n hx hb d_Agenda_placeOfTimer_2 rfl (lv_at hl 0 rfl) ?_
    refine lv_aload_n hx hb d_Agenda_placeOfTimer_3 rfl (lv_at hl 1 rfl) ?_
    refine xg_Agenda_size (v := x.1 7) hC hw fl_Agenda_17 d_Agenda_placeOfTimer_4 rfl ?_
    refine ga_asi (v := nI i) (h0.1) ?_
    refine lv_icmp_ge (tgt := 48) hx hb d_Agenda_placeOfTimer_7 (by decide) (fun c_7 => ?_) (fun c_7 => ?_)
    · refine lv_iconst (v := (-1)) hx hb d_Agenda_placeOfTimer_48 (by decide) ?_
      exact ga_iret (u := x) hC hr hlocks hw ⟨rfl, Or.inl ⟨rfl, hi⟩⟩ (Nat.le_of_ble_eq_true rfl) (Nat.le_of_ble_eq_true rfl) d_Agenda_placeOfTimer_49
    · exact absurd (Int32.le_refl _) c_7
  | succ d ih =>
    intro i H locs ls hd hi hw hl
    have hi2 : i < n := by omega
    refine lv_iload_n hx hb d_Agenda_placeOfTimer_2 rfl (lv_at hl 0 rfl) ?_
    refine lv_aload_n hx hb d_Agenda_placeOfTimer_3 rfl (lv_at hl 1 rfl) ?_
    refine xg_Agenda_size (v := x.1 7) hC hw fl_Agenda_17 d_Agenda_placeOfTimer_4 rfl ?_
    refine ga_asi (v := nI n) (h0.1) ?_
    refine lv_icmp_ge (tgt := 48) hx hb d_Agenda_placeOfTimer_7 (by decide) (fun c_7 => ?_) (fun c_7 => ?_)
    · exact absurd c_7 (nI_ge hi2 (by omega))
    · refine lv_aload_n hx hb d_Agenda_placeOfTimer_10 rfl (lv_at hl 1 rfl) ?_
      refine lv_iload_n hx hb d_Agenda_placeOfTimer_11 rfl (lv_at hl 0 rfl) ?_
      refine ga_Vq (As := [.int (nI i)]) (rest := []) hC hw (c_Agenda_at l k x (nI i) n h0 _) m_Agenda_at ml_Agenda_34 (ga_recv hw (q0 := 3) rfl rfl) rfl rfl ⟨Nat.le_of_ble_eq_true rfl, Nat.le_of_ble_eq_true rfl⟩ rfl hl.1 rfl (Nat.le_of_ble_eq_true rfl) d_Agenda_placeOfTimer_12 ⟨Nat.le_of_ble_eq_true rfl, Nat.le_of_ble_eq_true rfl⟩ (fun r u H locs hp hw => ?_)
      obtain ⟨rfl, hp⟩ := hp
      rcases hp with ⟨rfl, h_12⟩ | ⟨j_12, hj_12, ej_12, rfl⟩
      · refine lv_astoreN (lv' := [(4, .null), (3, .int (nI i)), (0, .ref (xa_a k 3)), (1, .int kd), (2, .int ep)]) hx hb d_Agenda_placeOfTimer_15 hl (by decide) rfl (fun ls hl => ?_)
        refine lv_aloadN hx hb d_Agenda_placeOfTimer_17 (lv_at hl 0 rfl) ?_
        refine lv_ifnullN (tgt := 42) hx hb d_Agenda_placeOfTimer_19 (by decide) ?_
        refine lv_iinc (v := nI (i + 1)) (lv' := [(3, .int (nI (i + 1))), (4, .null), (0, .ref (xa_a k 3)), (1, .int kd), (2, .int ep)]) hx hb d_Agenda_placeOfTimer_42 hl (k := 1) rfl (nI_1 i) (by decide) rfl (fun ls hl => ?_)
        refine lv_goto (tgt := 2) hx hb d_Agenda_placeOfTimer_45 (by decide) ?_
        exact absurd (xa_nix hn h_12 rfl hi2) id
      · refine lv_astore (lv' := [(4, .ref (xa_ad x j_12)), (3, .int (nI i)), (0, .ref (xa_a k 3)), (1, .int kd), (2, .int ep)]) hx hb d_Agenda_placeOfTimer_15 hl (by decide) rfl (fun ls hl => ?_)
        refine lv_aload hx hb d_Agenda_placeOfTimer_17 (lv_at hl 0 rfl) ?_
        refine lv_ifnull hx hb d_Agenda_placeOfTimer_19 ?_
        refine lv_aload hx hb d_Agenda_placeOfTimer_22 (lv_at hl 0 rfl) ?_
        refine xe_kind hC hw (h0.get hj_12).2 fl_Agenda_31 d_Agenda_placeOfTimer_24 ?_
        refine lv_iload_n hx hb d_Agenda_placeOfTimer_27 rfl (lv_at hl 3 rfl) ?_
        refine lv_icmp_ne (tgt := 42) hx hb d_Agenda_placeOfTimer_28 (by decide) (fun c_28 => ?_) (fun c_28 => ?_)
        · refine lv_iinc (v := nI (i + 1)) (lv' := [(3, .int (nI (i + 1))), (4, .ref (xa_ad x j_12)), (0, .ref (xa_a k 3)), (1, .int kd), (2, .int ep)]) hx hb d_Agenda_placeOfTimer_42 hl (k := 1) rfl (nI_1 i) (by decide) rfl (fun ls hl => ?_)
          refine lv_goto (tgt := 2) hx hb d_Agenda_placeOfTimer_45 (by decide) ?_
          refine ih (i + 1) H locs ls (by omega) ?_ hw (lv_sub hl [0, 2, 3, 4] rfl)
          intro t ht h4
          rcases Nat.lt_or_ge t i with h3 | h3
          · exact hi t h3 h4
          · have e : t = i := by omega
            subst e
            rw [xa_inj hn hi2 hj_12 ej_12] at h4
            exact c_28 h4.1
        · refine lv_aload hx hb d_Agenda_placeOfTimer_31 (lv_at hl 0 rfl) ?_
          refine xe_endpoint hC hw (h0.get hj_12).2 fl_Agenda_38 d_Agenda_placeOfTimer_33 ?_
          refine lv_iload_n hx hb d_Agenda_placeOfTimer_36 rfl (lv_at hl 4 rfl) ?_
          refine lv_icmp_ne (tgt := 42) hx hb d_Agenda_placeOfTimer_37 (by decide) (fun c_37 => ?_) (fun c_37 => ?_)
          · refine lv_iinc (v := nI (i + 1)) (lv' := [(3, .int (nI (i + 1))), (4, .ref (xa_ad x j_12)), (0, .ref (xa_a k 3)), (1, .int kd), (2, .int ep)]) hx hb d_Agenda_placeOfTimer_42 hl (k := 1) rfl (nI_1 i) (by decide) rfl (fun ls hl => ?_)
            refine lv_goto (tgt := 2) hx hb d_Agenda_placeOfTimer_45 (by decide) ?_
            refine ih (i + 1) H locs ls (by omega) ?_ hw (lv_sub hl [0, 2, 3, 4] rfl)
            intro t ht h4
            rcases Nat.lt_or_ge t i with h3 | h3
            · exact hi t h3 h4
            · have e : t = i := by omega
              subst e
              rw [xa_inj hn hi2 hj_12 ej_12] at h4
              exact c_37 h4.2
          · refine lv_iload_n hx hb d_Agenda_placeOfTimer_40 rfl (lv_at hl 1 rfl) ?_
            exact ga_iret (u := x) hC hr hlocks hw ⟨rfl, Or.inr ⟨i, hi2, rfl, by rw [xa_inj hn hi2 hj_12 ej_12]; exact ⟨c_28, c_37⟩, hi⟩⟩ (Nat.le_of_ble_eq_true rfl) (Nat.le_of_ble_eq_true rfl) d_Agenda_placeOfTimer_41
set_option maxHeartbeats 4000000 in
set_option maxRecDepth 100000 in
theorem c_Agenda_placeOfTimer (l : Launch) (k : xa_k) (x : XS) (kd ep : Int32) (n : Nat) (h0 : xa_R0 x n) (sz : Nat) : Met l y_Agenda_placeOfTimer (Cond.code y_Agenda_placeOfTimer b_Agenda_placeOfTimer 5 (some .int) :: ga_T) ({ frames := 1, cells := 0, slots := 0, locals := 21 }) (va_Pc [.ref (xa_a k 3), .int kd, .int ep] (ga_pre (xa_K k) (xa_W k x) sz)) (va_Qi (fun (r : Int32) (u : XS) => x = u ∧ ((r = -1 ∧ ∀ t, t < n → ¬ (xa_at x t 0 = kd ∧ xa_at x t 1 = ep)) ∨ (∃ j, j < n ∧ r = nI j ∧ (xa_at x j 0 = kd ∧ xa_at x j 1 = ep) ∧ ∀ t, t < j → ¬ (xa_at x t 0 = kd ∧ xa_at x t 1 = ep)))) (ga_post (xa_K k) (xa_W k x) sz (xa_W k)) (va_A (xa_W k x) sz)) 0 0 (va_A (xa_W k x) sz) := by
  refine ga_Met (by decide) (Nat.le_of_ble_eq_true rfl) ?_
  intro p e s m below meth c hC hr hlocks _ hw ls hl
  have hx := hC.1
  have hb := hC.2.1
  have hl : lv_has ls 5 [(0, .ref (xa_a k 3)), (1, .int kd), (2, .int ep)] := hl
  refine lv_iconst (v := 0) hx hb d_Agenda_placeOfTimer_0 (by decide) ?_
  refine lv_istore_n (lv' := [(3, .int 0), (0, .ref (xa_a k 3)), (1, .int kd), (2, .int ep)]) hx hb d_Agenda_placeOfTimer_1 rfl hl (by decide) rfl (fun ls hl => ?_)
  exact lp_Agenda_placeOfTimer hC hr hlocks h0 n 0 s.heap [] ls (Nat.add_zero n) (fun t h => absurd h (Nat.not_lt_zero t)) hw hl
set_option maxHeartbeats 4000000 in
set_option maxRecDepth 100000 in
theorem lp_Agenda_placeOfMessage {p : Program} {l : Launch} {e : Env} {s : State} {m : MethodId} {args : Array Value} {below : List Frame} {meth : Method} {c : Code} {k : xa_k} {x : XS} {n sz : Nat} {k0 : Int32} (hC : CallFix p m c b_Agenda_placeOfMessage 5 s args ga_T "NetWires$Agenda") (hr : meth.sig.returnType = some .int) (hlocks : meth.locks = false) (h0 : xa_R0 x n) :
    ∀ (d i : Nat) (H : Heap) (locs : List Loc) (ls : Array Slot), d + i = n → (∀ t, t < i → xa_at x t 0 = 0 → ¬ k0 = nI (xa_cnt x t)) → ga_w (xa_K k) (xa_W k x) (va_A (xa_W k x) sz) s H locs → lv_has ls 5 [(3, .int (nI i)), (2, .int (nI (xa_cnt x i))), (0, .ref (xa_a k 3)), (1, .int k0)] → W p l e ({ frames := 1, cells := 0, slots := 0, locals := 21 }) s m args below meth c H locs 0 0 (MQ below (va_Qi (fun (r : Int32) (u : XS) => x = u ∧ ((r = -1 ∧ (k0 < 0 ∨ x.1 8 ≤ k0 ∨ ∀ t, t < n → xa_at x t 0 = 0 → ¬ k0 = nI (xa_cnt x t))) ∨ (∃ j, j < n ∧ r = nI j ∧ xa_at x j 0 = 0 ∧ k0 = nI (xa_cnt x j)))) (ga_post (xa_K k) (xa_W k x) sz (xa_W k)) (va_A (xa_W k x) sz)) args s 0 0 (va_A (xa_W k x) sz)) (F0 m 18 ls []) := by
  have hx := hC.1
  have hb := hC.2.1
  have hn := h0.2.1
  intro d
  induction d with
  | zero =>
    intro i H locs ls hd hi hw hl
    have e : i = n := by omega
    subst e
    refine lv_iload_n hx hb d_Agenda_placeOfMessage_18 rfl (lv_at hl 0 rfl) ?_
    refine lv_aload_n hx hb d_Agenda_placeOfMessage_19 rfl (lv_at hl 2 rfl) ?_
    refine xg_Agenda_size (v := x.1 7) hC hw fl_Agenda_17 d_Agenda_placeOfMessage_20 rfl ?_
    refine ga_asi (v := nI i) (h0.1) ?_
    refine lv_icmp_ge (tgt := 62) hx hb d_Agenda_placeOfMessage_23 (by decide) (fun c_23 => ?_) (fun c_23 => ?_)
    · refine lv_iconst (v := (-1)) hx hb d_Agenda_placeOfMessage_62 (by decide) ?_
      exact ga_iret (u := x) hC hr hlocks hw ⟨rfl, Or.inl ⟨rfl, Or.inr (Or.inr hi)⟩⟩ (Nat.le_of_ble_eq_true rfl) (Nat.le_of_ble_eq_true rfl) d_Agenda_placeOfMessage_63
    · exact absurd (Int32.le_refl _) c_23
  | succ d ih =>
    intro i H locs ls hd hi hw hl
    have hi2 : i < n := by omega
    refine lv_iload_n hx hb d_Agenda_placeOfMessage_18 rfl (lv_at hl 0 rfl) ?_
    refine lv_aload_n hx hb d_Agenda_placeOfMessage_19 rfl (lv_at hl 2 rfl) ?_
    refine xg_Agenda_size (v := x.1 7) hC hw fl_Agenda_17 d_Agenda_placeOfMessage_20 rfl ?_
    refine ga_asi (v := nI n) (h0.1) ?_
    refine lv_icmp_ge (tgt := 62) hx hb d_Agenda_placeOfMessage_23 (by decide) (fun c_23 => ?_) (fun c_23 => ?_)
    · exact absurd c_23 (nI_ge hi2 (by omega))
    · refine lv_aload_n hx hb d_Agenda_placeOfMessage_26 rfl (lv_at hl 2 rfl) ?_
      refine lv_iload_n hx hb d_Agenda_placeOfMessage_27 rfl (lv_at hl 0 rfl) ?_
      refine ga_Vq (As := [.int (nI i)]) (rest := []) hC hw (c_Agenda_at l k x (nI i) n h0 _) m_Agenda_at ml_Agenda_34 (ga_recv hw (q0 := 3) rfl rfl) rfl rfl ⟨Nat.le_of_ble_eq_true rfl, Nat.le_of_ble_eq_true rfl⟩ rfl hl.1 rfl (Nat.le_of_ble_eq_true rfl) d_Agenda_placeOfMessage_28 ⟨Nat.le_of_ble_eq_true rfl, Nat.le_of_ble_eq_true rfl⟩ (fun r u H locs hp hw => ?_)
      obtain ⟨rfl, hp⟩ := hp
      rcases hp with ⟨rfl, h_28⟩ | ⟨j_28, hj_28, ej_28, rfl⟩
      · refine lv_astoreN (lv' := [(4, .null), (3, .int (nI i)), (2, .int (nI (xa_cnt x i))), (0, .ref (xa_a k 3)), (1, .int k0)]) hx hb d_Agenda_placeOfMessage_31 hl (by decide) rfl (fun ls hl => ?_)
        refine lv_aloadN hx hb d_Agenda_placeOfMessage_33 (lv_at hl 0 rfl) ?_
        refine lv_ifnullN (tgt := 56) hx hb d_Agenda_placeOfMessage_35 (by decide) ?_
        refine lv_iinc (v := nI (i + 1)) (lv' := [(3, .int (nI (i + 1))), (4, .null), (2, .int (nI (xa_cnt x i))), (0, .ref (xa_a k 3)), (1, .int k0)]) hx hb d_Agenda_placeOfMessage_56 hl (k := 1) rfl (nI_1 i) (by decide) rfl (fun ls hl => ?_)
        refine lv_goto (tgt := 18) hx hb d_Agenda_placeOfMessage_59 (by decide) ?_
        exact absurd (xa_nix hn h_28 rfl hi2) id
      · refine lv_astore (lv' := [(4, .ref (xa_ad x j_28)), (3, .int (nI i)), (2, .int (nI (xa_cnt x i))), (0, .ref (xa_a k 3)), (1, .int k0)]) hx hb d_Agenda_placeOfMessage_31 hl (by decide) rfl (fun ls hl => ?_)
        refine lv_aload hx hb d_Agenda_placeOfMessage_33 (lv_at hl 0 rfl) ?_
        refine lv_ifnull hx hb d_Agenda_placeOfMessage_35 ?_
        refine lv_aload hx hb d_Agenda_placeOfMessage_38 (lv_at hl 0 rfl) ?_
        refine xe_kind hC hw (h0.get hj_28).2 fl_Agenda_31 d_Agenda_placeOfMessage_40 ?_
        refine lv_if_ne (tgt := 56) hx hb d_Agenda_placeOfMessage_43 (by decide) (fun c_43 => ?_) (fun c_43 => ?_)
        · refine lv_iinc (v := nI (i + 1)) (lv' := [(3, .int (nI (i + 1))), (4, .ref (xa_ad x j_28)), (2, .int (nI (xa_cnt x i))), (0, .ref (xa_a k 3)), (1, .int k0)]) hx hb d_Agenda_placeOfMessage_56 hl (k := 1) rfl (nI_1 i) (by decide) rfl (fun ls hl => ?_)
          refine lv_goto (tgt := 18) hx hb d_Agenda_placeOfMessage_59 (by decide) ?_
          have ji := xa_inj hn hi2 hj_28 ej_28
          have e : xa_cnt x (i + 1) = xa_cnt x i := xa_cnt_0 (by rw [ji]; exact c_43)
          refine ih (i + 1) H locs ls (by omega) ?_ hw (by rw [e]; exact (lv_sub hl [0, 2, 3, 4] rfl))
          intro t ht h4 h5
          rcases Nat.lt_or_ge t i with h3 | h3
          · exact hi t h3 h4 h5
          · have e2 : t = i := by omega
            rw [e2, ji] at h4
            rw [e2] at h5
            exact c_43 h4
        · refine lv_iload_n hx hb d_Agenda_placeOfMessage_46 rfl (lv_at hl 2 rfl) ?_
          refine lv_iload_n hx hb d_Agenda_placeOfMessage_47 rfl (lv_at hl 4 rfl) ?_
          refine lv_icmp_ne (tgt := 53) hx hb d_Agenda_placeOfMessage_48 (by decide) (fun c_48 => ?_) (fun c_48 => ?_)
          · refine lv_iinc (v := nI (xa_cnt x i + 1)) (lv' := [(2, .int (nI (xa_cnt x i + 1))), (4, .ref (xa_ad x j_28)), (3, .int (nI i)), (0, .ref (xa_a k 3)), (1, .int k0)]) hx hb d_Agenda_placeOfMessage_53 hl (k := 2) rfl (nI_1 _) (by decide) rfl (fun ls hl => ?_)
            refine lv_iinc (v := nI (i + 1)) (lv' := [(3, .int (nI (i + 1))), (2, .int (nI (xa_cnt x i + 1))), (4, .ref (xa_ad x j_28)), (0, .ref (xa_a k 3)), (1, .int k0)]) hx hb d_Agenda_placeOfMessage_56 hl (k := 2) rfl (nI_1 i) (by decide) rfl (fun ls hl => ?_)
            refine lv_goto (tgt := 18) hx hb d_Agenda_placeOfMessage_59 (by decide) ?_
            have ji := xa_inj hn hi2 hj_28 ej_28
            have e : xa_cnt x (i + 1) = xa_cnt x i + 1 := xa_cnt_1 (by rw [ji]; exact c_43)
            refine ih (i + 1) H locs ls (by omega) ?_ hw (by rw [e]; exact (lv_sub hl [0, 1, 3, 4] rfl))
            intro t ht h4 h5
            rcases Nat.lt_or_ge t i with h3 | h3
            · exact hi t h3 h4 h5
            · have e2 : t = i := by omega
              rw [e2, ji] at h4
              rw [e2] at h5
              exact c_48 (h5.symm)
          · refine lv_iload_n hx hb d_Agenda_placeOfMessage_51 rfl (lv_at hl 1 rfl) ?_
            exact ga_iret (u := x) hC hr hlocks hw ⟨rfl, Or.inr ⟨i, hi2, rfl, by rw [xa_inj hn hi2 hj_28 ej_28]; exact c_43, c_48.symm⟩⟩ (Nat.le_of_ble_eq_true rfl) (Nat.le_of_ble_eq_true rfl) d_Agenda_placeOfMessage_52
set_option maxHeartbeats 4000000 in
set_option maxRecDepth 100000 in
theorem c_Agenda_placeOfMessage (l : Launch) (k : xa_k) (x : XS) (k0 : Int32) (n : Nat) (h0 : xa_R0 x n) (sz : Nat) : Met l y_Agenda_placeOfMessage (Cond.code y_Agenda_placeOfMessage b_Agenda_placeOfMessage 5 (some .int) :: ga_T) ({ frames := 1, cells := 0, slots := 0, locals := 21 }) (va_Pc [.ref (xa_a k 3), .int k0] (ga_pre (xa_K k) (xa_W k x) sz)) (va_Qi (fun (r : Int32) (u : XS) => x = u ∧ ((r = -1 ∧ (k0 < 0 ∨ x.1 8 ≤ k0 ∨ ∀ t, t < n → xa_at x t 0 = 0 → ¬ k0 = nI (xa_cnt x t))) ∨ (∃ j, j < n ∧ r = nI j ∧ xa_at x j 0 = 0 ∧ k0 = nI (xa_cnt x j)))) (ga_post (xa_K k) (xa_W k x) sz (xa_W k)) (va_A (xa_W k x) sz)) 0 0 (va_A (xa_W k x) sz) := by
  refine ga_Met (by decide) (Nat.le_of_ble_eq_true rfl) ?_
  intro p e s m below meth c hC hr hlocks _ hw ls hl
  have hx := hC.1
  have hb := hC.2.1
  have hl : lv_has ls 5 [(0, .ref (xa_a k 3)), (1, .int k0)] := hl
  refine lv_iload_n hx hb d_Agenda_placeOfMessage_0 rfl (lv_at hl 1 rfl) ?_
  refine lv_if_lt (tgt := 12) hx hb d_Agenda_placeOfMessage_1 (by decide) (fun c_1 => ?_) (fun c_1 => ?_)
  · refine lv_iconst (v := (-1)) hx hb d_Agenda_placeOfMessage_12 (by decide) ?_
    exact ga_iret (u := x) hC hr hlocks hw ⟨rfl, Or.inl ⟨rfl, Or.inl c_1⟩⟩ (Nat.le_of_ble_eq_true rfl) (Nat.le_of_ble_eq_true rfl) d_Agenda_placeOfMessage_13
  · refine lv_iload_n hx hb d_Agenda_placeOfMessage_4 rfl (lv_at hl 1 rfl) ?_
    refine lv_aload_n hx hb d_Agenda_placeOfMessage_5 rfl (lv_at hl 0 rfl) ?_
    refine xg_Agenda_messages (v := x.1 8) hC hw fl_Agenda_21 d_Agenda_placeOfMessage_6 rfl ?_
    refine lv_icmp_lt (tgt := 14) hx hb d_Agenda_placeOfMessage_9 (by decide) (fun c_9 => ?_) (fun c_9 => ?_)
    · refine lv_iconst (v := 0) hx hb d_Agenda_placeOfMessage_14 (by decide) ?_
      refine lv_istore_n (lv' := [(2, .int 0), (0, .ref (xa_a k 3)), (1, .int k0)]) hx hb d_Agenda_placeOfMessage_15 rfl hl (by decide) rfl (fun ls hl => ?_)
      refine lv_iconst (v := 0) hx hb d_Agenda_placeOfMessage_16 (by decide) ?_
      refine lv_istore_n (lv' := [(3, .int 0), (2, .int 0), (0, .ref (xa_a k 3)), (1, .int k0)]) hx hb d_Agenda_placeOfMessage_17 rfl hl (by decide) rfl (fun ls hl => ?_)
      exact lp_Agenda_placeOfMessage hC hr hlocks h0 n 0 s.heap [] ls (Nat.add_zero n) (fun t h => absurd h (Nat.not_lt_zero t)) hw hl
    · refine lv_iconst (v := (-1)) hx hb d_Agenda_placeOfMessage_12 (by decide) ?_
      exact ga_iret (u := x) hC hr hlocks hw ⟨rfl, Or.inl ⟨rfl, Or.inr (Or.inl (Int32.not_lt.mp c_9))⟩⟩ (Nat.le_of_ble_eq_true rfl) (Nat.le_of_ble_eq_true rfl) d_Agenda_placeOfMessage_13
