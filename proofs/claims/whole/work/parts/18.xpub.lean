set_option maxHeartbeats 4000000 in
set_option maxRecDepth 100000 in
theorem c_Tape_takeAll (l : Launch) (k : xa_k) (x : XS) (t : Nat) (ht : x.1 6 = nI t) (ht2 : t ≤ 2048) (hfit : ∀ j, j < 2048 → fits .byte (.int (xa_T x j)) = true) (sz : Nat) : Met l y_Tape_takeAll (Cond.code y_Tape_takeAll b_Tape_takeAll 2 (some (.array .byte)) :: ga_T) ({ frames := 2, cells := 1, slots := 2048, locals := 62 }) (va_Pc [.ref (xa_a k 1)] (ga_pre (xa_K k) (xa_W k x) sz)) (va_Qq (fun (r : Option Nat) (u : XS) => ∃ b f P2, r = some b ∧ xa_ext (xa_P x) P2 ∧ xa_isB k P2 b t f ∧ (∀ j, j < t → f j = xa_T x j) ∧ u = xa_sI (xa_sP x P2) 6 0) (ga_post (xa_K k) (xa_W k x) sz (xa_W k)) (va_A (xa_W k x) sz)) 1 2048 (va_A (xa_W k x) sz) := by
  refine ga_Met (by decide) (Nat.le_of_ble_eq_true rfl) ?_
  intro p e s m below meth c hC hr hlocks _ hw ls hl
  have hx := hC.1
  have hb := hC.2.1
  have hl : lv_has ls 2 [(0, .ref (xa_a k 1))] := hl
  refine lv_aload_n hx hb d_Tape_takeAll_0 rfl (lv_at hl 0 rfl) ?_
  refine xg_Tape_length (v := x.1 6) hC hw fl_Tape_15 d_Tape_takeAll_1 rfl ?_
  refine ga_asi (v := nI t) (ht) ?_
  refine lv_if_gt (tgt := 11) hx hb d_Tape_takeAll_4 (by decide) (fun c_4 => ?_) (fun c_4 => ?_)
  · refine lv_aload_n hx hb d_Tape_takeAll_11 rfl (lv_at hl 0 rfl) ?_
    refine xg_Tape_bytes hC hw fl_Tape_9 d_Tape_takeAll_12 ?_
    refine lv_aload_n hx hb d_Tape_takeAll_15 rfl (lv_at hl 0 rfl) ?_
    refine xg_Tape_length (v := x.1 6) hC hw fl_Tape_15 d_Tape_takeAll_16 rfl ?_
    refine ga_asi (v := nI t) (ht) ?_
    refine ga_Sq (As := [.ref (xa_a k 2), .int (nI t)]) (rest := []) hC hw (c_J_copyOf l k x t (xa_pos c_4) ht2 hfit _) m_J_copyOf ml_Tape_26 rfl rfl ⟨Nat.le_of_ble_eq_true rfl, Nat.le_of_ble_eq_true rfl⟩ rfl hl.1 rfl (Nat.le_of_ble_eq_true rfl) d_Tape_takeAll_19 ⟨Nat.le_of_ble_eq_true rfl, Nat.le_of_ble_eq_true rfl⟩ (fun r u H locs hp hw => ?_)
    obtain ⟨a, f, hfr, rfl, hf, rfl⟩ := hp
    refine lv_astore_n (lv' := [(1, .ref a), (0, .ref (xa_a k 1))]) hx hb d_Tape_takeAll_22 rfl hl (by decide) rfl (fun ls hl => ?_)
    refine lv_aload_n hx hb d_Tape_takeAll_23 rfl (lv_at hl 1 rfl) ?_
    refine lv_iconst (v := 0) hx hb d_Tape_takeAll_24 (by decide) ?_
    refine xp_Tape_length hC hw fl_Tape_15 d_Tape_takeAll_25 (fun H locs hw => ?_)
    refine lv_aload_n hx hb d_Tape_takeAll_28 rfl (lv_at hl 0 rfl) ?_
    exact ga_qret (v := (some a)) (u := xa_sI (xa_sP x ((xa_P x).1 ++ [a], va_up (xa_P x).2 a (.inl (k.2.1 0, t, .inl f)))) 6 0) hC hr (Or.inr ⟨_, rfl⟩) hlocks hw ⟨a, f, _, rfl, xa_ext_up hfr, Or.inl ⟨List.mem_append_right _ List.mem_cons_self, va_up_self _ _ _⟩, hf, rfl⟩ (Nat.le_of_ble_eq_true rfl) (Nat.le_of_ble_eq_true rfl) d_Tape_takeAll_29
  · refine xg_NO_BYTES_N hC hw d_Tape_takeAll_7 ?_
    exact ga_qret (v := (some (xa_a k 9))) (u := x) hC hr (Or.inr ⟨_, rfl⟩) hlocks hw ⟨xa_a k 9, fun _ => 0, xa_P x, rfl, xa_ext_rf _, Or.inr ⟨rfl, xa_zero ht2 c_4⟩, fun j hj => absurd hj (by rw [xa_zero ht2 c_4]; exact Nat.not_lt_zero j), (xa_sI_id (y := x) (i := 6) (v := 0) (by rw [ht, xa_zero ht2 c_4]; rfl)).symm⟩ (Nat.le_of_ble_eq_true rfl) (Nat.le_of_ble_eq_true rfl) d_Tape_takeAll_10

set_option maxHeartbeats 4000000 in
set_option maxRecDepth 100000 in
theorem c_History_fact (l : Launch) (k : xa_k) (x : XS) (k9 wh : Int32) (w kp : Nat) (hw9 : x.1 9 = nI w) (hw2 : w < 32) (hk9 : x.1 10 = nI kp) (hk2 : kp ≤ 32) (sz : Nat) : Met l y_History_fact (Cond.code y_History_fact b_History_fact 4 (some .int) :: ga_T) ({ frames := 0, cells := 0, slots := 0, locals := 0 }) (va_Pc [.ref (xa_a k 5), .int k9, .int wh] (ga_pre (xa_K k) (xa_W k x) sz)) (va_Qi (fun (r : Int32) (u : XS) => x = u ∧ ((r = -1 ∧ (k9 < 0 ∨ nI kp ≤ k9 ∨ wh < 0 ∨ ¬ wh < 4)) ∨ (∃ i j, i < kp ∧ k9 = nI i ∧ j < 4 ∧ wh = nI j ∧ r = xa_F x ((w + 32 - i) % 32 * 4 + j)))) (ga_post (xa_K k) (xa_W k x) sz (xa_W k)) (va_A (xa_W k x) sz)) 0 0 (va_A (xa_W k x) sz) := by
  refine ga_Met (by decide) (Nat.le_of_ble_eq_true rfl) ?_
  intro p e s m below meth c hC hr hlocks _ hw ls hl
  have hx := hC.1
  have hb := hC.2.1
  have hl : lv_has ls 4 [(0, .ref (xa_a k 5)), (1, .int k9), (2, .int wh)] := hl
  refine lv_iload_n hx hb d_History_fact_0 rfl (lv_at hl 1 rfl) ?_
  refine lv_if_lt (tgt := 21) hx hb d_History_fact_1 (by decide) (fun c_1 => ?_) (fun c_1 => ?_)
  · refine lv_iconst (v := (-1)) hx hb d_History_fact_21 (by decide) ?_
    exact ga_iret (u := x) hC hr hlocks hw ⟨rfl, Or.inl ⟨rfl, Or.inl c_1⟩⟩ (Nat.le_of_ble_eq_true rfl) (Nat.le_of_ble_eq_true rfl) d_History_fact_22
  · refine lv_iload_n hx hb d_History_fact_4 rfl (lv_at hl 1 rfl) ?_
    refine lv_aload_n hx hb d_History_fact_5 rfl (lv_at hl 0 rfl) ?_
    refine xg_History_kept (v := x.1 10) hC hw fl_History_19 d_History_fact_6 rfl ?_
    refine ga_asi (v := nI kp) (hk9) ?_
    refine lv_icmp_ge (tgt := 21) hx hb d_History_fact_9 (by decide) (fun c_9 => ?_) (fun c_9 => ?_)
    · refine lv_iconst (v := (-1)) hx hb d_History_fact_21 (by decide) ?_
      exact ga_iret (u := x) hC hr hlocks hw ⟨rfl, Or.inl ⟨rfl, Or.inr (Or.inl c_9)⟩⟩ (Nat.le_of_ble_eq_true rfl) (Nat.le_of_ble_eq_true rfl) d_History_fact_22
    · refine lv_iload_n hx hb d_History_fact_12 rfl (lv_at hl 2 rfl) ?_
      refine lv_if_lt (tgt := 21) hx hb d_History_fact_13 (by decide) (fun c_13 => ?_) (fun c_13 => ?_)
      · refine lv_iconst (v := (-1)) hx hb d_History_fact_21 (by decide) ?_
        exact ga_iret (u := x) hC hr hlocks hw ⟨rfl, Or.inl ⟨rfl, Or.inr (Or.inr (Or.inl c_13))⟩⟩ (Nat.le_of_ble_eq_true rfl) (Nat.le_of_ble_eq_true rfl) d_History_fact_22
      · refine lv_iload_n hx hb d_History_fact_16 rfl (lv_at hl 2 rfl) ?_
        refine lv_iconst (v := 4) hx hb d_History_fact_17 (by decide) ?_
        refine lv_icmp_lt (tgt := 23) hx hb d_History_fact_18 (by decide) (fun c_18 => ?_) (fun c_18 => ?_)
        · obtain ⟨i, hi, ei⟩ := xa_ix2 (n := kp) (by omega) c_1 (Int32.not_le.mp c_9)
          obtain ⟨j, hj, ej⟩ := xa_ix2 (n := 4) (by omega) c_13 c_18
          refine lv_aload_n hx hb d_History_fact_23 rfl (lv_at hl 0 rfl) ?_
          refine xg_History_newest (v := x.1 9) hC hw fl_History_15 d_History_fact_24 rfl ?_
          refine ga_asi (v := nI w) (hw9) ?_
          refine lv_iload_n hx hb d_History_fact_27 rfl (lv_at hl 1 rfl) ?_
          refine lv_isub hx hb d_History_fact_28 ?_
          refine lv_bipush (v := 32) hx hb d_History_fact_29 (by decide) ?_
          refine lv_iadd hx hb d_History_fact_31 ?_
          refine ga_asi (v := nI (w + 32 - i)) (by rw [ei]; exact xa_back (by omega)) ?_
          refine lv_bipush (v := 32) hx hb d_History_fact_32 (by decide) ?_
          refine lv_irem hx hb d_History_fact_34 (by decide) ?_
          refine ga_asi (v := nI ((w + 32 - i) % 32)) (xa_rem32 (by omega)) ?_
          refine lv_istore_n (lv' := [(3, .int (nI ((w + 32 - i) % 32))), (0, .ref (xa_a k 5)), (1, .int k9), (2, .int wh)]) hx hb d_History_fact_35 rfl hl (by decide) rfl (fun ls hl => ?_)
          refine lv_aload_n hx hb d_History_fact_36 rfl (lv_at hl 1 rfl) ?_
          refine xg_History_facts hC hw fl_History_9 d_History_fact_37 ?_
          refine lv_iload_n hx hb d_History_fact_40 rfl (lv_at hl 0 rfl) ?_
          refine lv_iconst (v := 4) hx hb d_History_fact_41 (by decide) ?_
          refine lv_imul hx hb d_History_fact_42 ?_
          refine ga_asi (v := nI ((w + 32 - i) % 32 * 4)) (pk_mul _ 4) ?_
          refine lv_iload_n hx hb d_History_fact_43 rfl (lv_at hl 3 rfl) ?_
          refine lv_iadd hx hb d_History_fact_44 ?_
          refine ga_asi (v := nI ((w + 32 - i) % 32 * 4 + j)) (by rw [ej]; exact nI_add _ _) ?_
          refine xr_facts (v := (xa_F x) (nI ((w + 32 - i) % 32 * 4 + j)).toNatClampNeg) hC hw (vp_in_nI (by have := Nat.mod_lt (w + 32 - i) (show 0 < 32 by decide); omega) (by decide)) d_History_fact_45 rfl ?_
          exact ga_iret (u := x) hC hr hlocks hw ⟨rfl, Or.inr ⟨i, j, hi, ei, hj, ej, by rw [nI_clamp (by omega)]⟩⟩ (Nat.le_of_ble_eq_true rfl) (Nat.le_of_ble_eq_true rfl) d_History_fact_46
        · refine lv_iconst (v := (-1)) hx hb d_History_fact_21 (by decide) ?_
          exact ga_iret (u := x) hC hr hlocks hw ⟨rfl, Or.inl ⟨rfl, Or.inr (Or.inr (Or.inr c_18))⟩⟩ (Nat.le_of_ble_eq_true rfl) (Nat.le_of_ble_eq_true rfl) d_History_fact_22
set_option maxHeartbeats 4000000 in
set_option maxRecDepth 100000 in
theorem lp_NetWires_feed {p : Program} {l : Launch} {e : Env} {s : State} {m : MethodId} {args : Array Value} {below : List Frame} {meth : Method} {c : Code} {Q : State → Prop} {A : Nat → Prop} {k : xa_k} {x : XS} {e9 : Int64} {t n : Nat} (hC : CallFix p m c b_NetWires_feed 5 s args ga_T "NetWires") (hn : n ≤ 8) (ht : t + n ≤ 2048)
    (kx : ∀ (H : Heap) (locs : List Loc) (ls : Array Slot), ga_w (xa_K k) (xa_W k (xa_sI (xa_sT x (xa_fd (xa_T x) t e9 n)) 6 (nI (t + n)))) A s H locs → lv_has ls 5 [(4, .int (nI n)), (0, .ref (xa_a k 0)), (1, .long e9), (3, .int (nI n))] → W p l e ({ frames := 6, cells := 1, slots := 6, locals := 82 }) s m args below meth c H locs 0 0 Q (F0 m 73 ls [])) :
    ∀ (d i : Nat) (H : Heap) (locs : List Loc) (ls : Array Slot), d + i = n → ga_w (xa_K k) (xa_W k (xa_sI (xa_sT x (xa_fd (xa_T x) t e9 i)) 6 (nI (t + i)))) A s H locs → lv_has ls 5 [(4, .int (nI i)), (0, .ref (xa_a k 0)), (1, .long e9), (3, .int (nI n))] → W p l e ({ frames := 6, cells := 1, slots := 6, locals := 82 }) s m args below meth c H locs 0 0 Q (F0 m 45 ls []) := by
  have hx := hC.1
  have hb := hC.2.1
  intro d
  induction d with
  | zero =>
    intro i H locs ls hd hw hl
    have e : i = n := by omega
    subst e
    refine lv_iload hx hb d_NetWires_feed_45 (lv_at hl 0 rfl) ?_
    refine lv_iload_n hx hb d_NetWires_feed_47 rfl (lv_at hl 3 rfl) ?_
    refine lv_icmp_ge (tgt := 73) hx hb d_NetWires_feed_48 (by decide) (fun c_48 => ?_) (fun c_48 => ?_)
    · exact kx H locs ls hw hl
    · exact absurd (Int32.le_refl _) c_48
  | succ d ih =>
    intro i H locs ls hd hw hl
    have hi2 : i < n := by omega
    refine lv_iload hx hb d_NetWires_feed_45 (lv_at hl 0 rfl) ?_
    refine lv_iload_n hx hb d_NetWires_feed_47 rfl (lv_at hl 3 rfl) ?_
    refine lv_icmp_ge (tgt := 73) hx hb d_NetWires_feed_48 (by decide) (fun c_48 => ?_) (fun c_48 => ?_)
    · exact absurd c_48 (nI_ge hi2 (by omega))
    · refine lv_aload_n hx hb d_NetWires_feed_51 rfl (lv_at hl 1 rfl) ?_
      refine xg_NetWires_tape hC hw fl_NetWires_12 d_NetWires_feed_52 ?_
      refine lv_lload_n hx hb d_NetWires_feed_55 rfl (lv_at hl 2 rfl) ?_
      refine lv_bipush (v := 8) hx hb d_NetWires_feed_56 (by decide) ?_
      refine lv_iload hx hb d_NetWires_feed_58 (lv_at hl 0 rfl) ?_
      refine lv_imul hx hb d_NetWires_feed_60 ?_
      refine lv_lushr hx hb d_NetWires_feed_61 rfl ?_
      refine lv_l2i hx hb d_NetWires_feed_62 rfl ?_
      refine lv_i2b hx hb d_NetWires_feed_63 rfl ?_
      refine ga_Vv (As := [.int ((((e9.toUInt64 >>> ((8 * (nI i)).toInt64.toUInt64 &&& Int64.toUInt64 63)).toInt64).toInt32).toInt8.toInt32)]) (rest := []) hC hw (c_Tape_append l k (xa_sI (xa_sT x (xa_fd (xa_T x) t e9 i)) 6 (nI (t + i))) ((((e9.toUInt64 >>> ((8 * (nI i)).toInt64.toUInt64 &&& Int64.toUInt64 63)).toInt64).toInt32).toInt8.toInt32) (t + i) rfl (by omega) _) m_Tape_append ml_NetWires_89 (ga_recv hw (q0 := 1) rfl rfl) rfl rfl ⟨Nat.le_of_ble_eq_true rfl, Nat.le_of_ble_eq_true rfl⟩ rfl hl.1 rfl (Nat.le_of_ble_eq_true rfl) d_NetWires_feed_64 ⟨Nat.le_of_ble_eq_true rfl, Nat.le_of_ble_eq_true rfl⟩ (fun u H locs hp hw => ?_)
      subst hp
      have hw : ga_w (xa_K k) (xa_W k (xa_sI (xa_sT x (xa_fd (xa_T x) t e9 (i + 1))) 6 (nI (t + (i + 1))))) A s H locs := by rw [← xa_fd_s]; exact hw
      refine lv_iinc (v := nI (i + 1)) (lv' := [(4, .int (nI (i + 1))), (0, .ref (xa_a k 0)), (1, .long e9), (3, .int (nI n))]) hx hb d_NetWires_feed_67 hl (k := 0) rfl (nI_1 i) (by decide) rfl (fun ls hl => ?_)
      refine lv_goto (tgt := 45) hx hb d_NetWires_feed_70 (by decide) ?_
      exact ih (i + 1) H locs ls (by omega) hw hl
set_option maxHeartbeats 4000000 in
set_option maxRecDepth 100000 in
theorem c_NetWires_feed (l : Launch) (k : xa_k) (hst : l.stackTraces = false) (x : XS) (e9 : Int64) (n9 : Int32) (t : Nat) (ht : x.1 6 = nI t) (ht2 : t ≤ 2048) (sz : Nat) : vx_Met l y_NetWires_feed (Cond.code y_NetWires_feed b_NetWires_feed 5 (some .int) :: ga_T) ({ frames := 6, cells := 1, slots := 6, locals := 82 }) (va_Pc [.ref (xa_a k 0), .long e9, .int n9] (ga_pre (xa_K k) (xa_W k x) sz)) (va_Qi (fun (r : Int32) (u : XS) => ∃ n, 1 ≤ n ∧ n ≤ 8 ∧ n9 = nI n ∧ t + n ≤ 2048 ∧ r = nI (t + n) ∧ u = xa_sI (xa_sT x (xa_fd (xa_T x) t e9 n)) 6 (nI (t + n))) (ga_post (xa_K k) (xa_W k x) sz (xa_W k)) (va_A (xa_W k x) sz)) (ga_XC (xa_K k) (xa_W k x) sz (xa_W k) (fun E u => x = u ∧ ((E = ga_IAE ∧ (n9 < 1 ∨ ¬ n9 ≤ 8)) ∨ (E = ga_ISE ∧ ∃ n, 1 ≤ n ∧ n ≤ 8 ∧ n9 = nI n ∧ 2048 < t + n)))) 1 6 (va_A (xa_W k x) sz) := by
  refine ga_MetX (by decide) (Nat.le_of_ble_eq_true rfl) ?_
  intro p e s m below meth c hC hr hlocks hT hw ls hl
  have hx := hC.1
  have hb := hC.2.1
  have hl : lv_has ls 5 [(0, .ref (xa_a k 0)), (1, .long e9), (3, .int n9)] := hl
  refine lv_iload_n hx hb d_NetWires_feed_0 rfl (lv_at hl 2 rfl) ?_
  refine lv_iconst (v := 1) hx hb d_NetWires_feed_1 (by decide) ?_
  refine lv_icmp_lt (tgt := 11) hx hb d_NetWires_feed_2 (by decide) (fun c_2 => ?_) (fun c_2 => ?_)
  · exact ga_thIAE (u := x) hst hC hT hlocks hw hl.1 (is := 75) (tx := "n is not 1 .. 8") (by decide +kernel) ⟨rfl, Or.inl ⟨rfl, Or.inl c_2⟩⟩ d_NetWires_feed_11 d_NetWires_feed_14 d_NetWires_feed_15 d_NetWires_feed_17 d_NetWires_feed_20 (Nat.le_of_ble_eq_true rfl) (Nat.le_of_ble_eq_true rfl) (Nat.le_of_ble_eq_true rfl) (Nat.le_of_ble_eq_true rfl) (Nat.le_of_ble_eq_true rfl) (Nat.le_of_ble_eq_true rfl)
  · refine lv_iload_n hx hb d_NetWires_feed_5 rfl (lv_at hl 2 rfl) ?_
    refine lv_bipush (v := 8) hx hb d_NetWires_feed_6 (by decide) ?_
    refine lv_icmp_le (tgt := 21) hx hb d_NetWires_feed_8 (by decide) (fun c_8 => ?_) (fun c_8 => ?_)
    · obtain ⟨n, hn2, hn1, rfl⟩ := xa_1to8 c_2 c_8
      refine lv_aload_n hx hb d_NetWires_feed_21 rfl (lv_at hl 0 rfl) ?_
      refine xg_NetWires_tape hC hw fl_NetWires_12 d_NetWires_feed_22 ?_
      refine lv_iload_n hx hb d_NetWires_feed_25 rfl (lv_at hl 2 rfl) ?_
      refine ga_Vi (As := [.int (nI n)]) (rest := []) hC hw (c_Tape_hasRoomFor l k x (nI n) _) m_Tape_hasRoomFor ml_NetWires_80 (ga_recv hw (q0 := 1) rfl rfl) rfl rfl ⟨Nat.le_of_ble_eq_true rfl, Nat.le_of_ble_eq_true rfl⟩ rfl hl.1 rfl (Nat.le_of_ble_eq_true rfl) d_NetWires_feed_26 ⟨Nat.le_of_ble_eq_true rfl, Nat.le_of_ble_eq_true rfl⟩ (fun r u H locs hp hw => ?_)
      obtain ⟨rfl, hp⟩ := hp
      rcases hp with ⟨rfl, h_26⟩ | ⟨rfl, h_26⟩
      · refine lv_if_ne (tgt := 42) hx hb d_NetWires_feed_29 (by decide) (fun c_29 => ?_) (fun c_29 => ?_)
        · refine lv_iconst (v := 0) hx hb d_NetWires_feed_42 (by decide) ?_
          refine lv_istore (lv' := [(4, .int 0), (0, .ref (xa_a k 0)), (1, .long e9), (3, .int (nI n))]) hx hb d_NetWires_feed_43 hl (by decide) rfl (fun ls hl => ?_)
          have hlt : t + n ≤ 2048 := Nat.le_of_not_lt (fun h => h_26 ((xa_room ht ht2 (by omega)).mpr h))
          have hw : ga_w (xa_K k) (xa_W k (xa_sI (xa_sT x (xa_fd (xa_T x) t e9 0)) 6 (nI (t + 0)))) (va_A (xa_W k x) sz) s H locs := by rw [xa_fd_0, xa_sI_id (y := xa_sT x (xa_T x)) (i := 6) (v := nI (t + 0)) ht]; exact hw
          refine lp_NetWires_feed hC hn2 hlt (fun H locs ls hw hl => ?_) n 0 H locs ls (Nat.add_zero n) hw hl
          refine lv_aload_n hx hb d_NetWires_feed_73 rfl (lv_at hl 1 rfl) ?_
          refine xg_NetWires_tape hC hw fl_NetWires_12 d_NetWires_feed_74 ?_
          refine xg_Tape_length (v := (xa_sI (xa_sT x (xa_fd (xa_T x) t e9 n)) 6 (nI (t + n))).1 6) hC hw fl_NetWires_93 d_NetWires_feed_77 rfl ?_
          exact vx_ret (ga_iret (u := xa_sI (xa_sT x (xa_fd (xa_T x) t e9 n)) 6 (nI (t + n))) hC hr hlocks hw ⟨n, hn1, hn2, rfl, hlt, rfl, rfl⟩ (Nat.le_of_ble_eq_true rfl) (Nat.le_of_ble_eq_true rfl) d_NetWires_feed_80)
        · exact absurd c_29 (by decide)
      · refine lv_if_ne (tgt := 42) hx hb d_NetWires_feed_29 (by decide) (fun c_29 => ?_) (fun c_29 => ?_)
        · exact absurd c_29 (by decide)
        · exact ga_thISE (u := x) hst hC hT hlocks hw hl.1 (is := 86) (tx := "the tape is full") (by decide +kernel) ⟨rfl, Or.inr ⟨rfl, n, hn1, hn2, rfl, (xa_room ht ht2 (by omega)).mp h_26⟩⟩ d_NetWires_feed_32 d_NetWires_feed_35 d_NetWires_feed_36 d_NetWires_feed_38 d_NetWires_feed_41 (Nat.le_of_ble_eq_true rfl) (Nat.le_of_ble_eq_true rfl) (Nat.le_of_ble_eq_true rfl) (Nat.le_of_ble_eq_true rfl) (Nat.le_of_ble_eq_true rfl) (Nat.le_of_ble_eq_true rfl)
    · exact ga_thIAE (u := x) hst hC hT hlocks hw hl.1 (is := 75) (tx := "n is not 1 .. 8") (by decide +kernel) ⟨rfl, Or.inl ⟨rfl, Or.inr c_8⟩⟩ d_NetWires_feed_11 d_NetWires_feed_14 d_NetWires_feed_15 d_NetWires_feed_17 d_NetWires_feed_20 (Nat.le_of_ble_eq_true rfl) (Nat.le_of_ble_eq_true rfl) (Nat.le_of_ble_eq_true rfl) (Nat.le_of_ble_eq_true rfl) (Nat.le_of_ble_eq_true rfl) (Nat.le_of_ble_eq_true rfl)
