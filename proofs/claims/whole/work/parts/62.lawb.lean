set_option maxHeartbeats 4000000 in
set_option maxRecDepth 100000 in
theorem lc_run {p : Program} {l : Launch} {e : Env} {s : State} {m : MethodId} {below : List Frame} {meth : Method} {c : Code} {Q : State → Prop} {k : xa_k} {a : Nat → Nat} {o b L ix cc cs ss : Nat} {xs : Nat → Int32} {x : XS} {y : MS} {g : Nat → Int64} {H : Heap} {locs : List Loc} {ls : Array Slot} (hst : l.stackTraces = false) (hC : CallFix p m c code 7 s #[Value.ref b] ga_T "NetWiresLaw") (hX : va_X b L xs s s.heap) (hbl : b < s.heap.size) (hL : L ≤ 3072) (hix : ix + 6 ≤ L) (hsi : si k x y cc) (hcc : cc ≤ 511) (hcs : cs + 8 ≤ 601024) (hss : ss + 2100 ≤ 7293034)
    (kx : ∀ (x : XS) (y : MS) (g : Nat → Int64) (H : Heap) (locs : List Loc) (ls : Array Slot), si k x y (cc + 1) → ga_w (xa_K k) (la_W k o (g, x) ++ ma_W k a y) (fun q : Nat => s.heap.size ≤ q) s H locs → lv_has ls 7 [(4, .int (nI ix)), (0, .ref b), (1, .ref (xa_a k 0)), (2, .ref (a 0)), (3, .ref o)] → W p l e room_1 s m #[Value.ref b] below meth c H locs (cs + 8) (ss + 2100) Q (F0 m 1319 ls []))
    (hw : ga_w (xa_K k) (la_W k o (g, x) ++ ma_W k a y) (fun q : Nat => s.heap.size ≤ q) s H locs) (hl : lv_has ls 7 [(4, .int (nI ix)), (0, .ref b), (1, .ref (xa_a k 0)), (2, .ref (a 0)), (3, .ref o)]) : W p l e room_1 s m #[Value.ref b] below meth c H locs cs ss Q (F0 m 589 ls []) := by
  obtain ⟨n, M, U, t, D, num, h, hc⟩ := hsi
  have hx := hC.1
  have hb := hC.2.1
  have hI := h.2.1
  have hS := h.2.2.2.2.1
  have hT := h.2.2.2.2.2.1
  have hH := h.2.2.2.2.2.2.2
  refine lv_aload_n hx hb d_L_law_589 rfl (lv_at hl 2 rfl) ?_
  refine lv_aload_n hx hb d_L_law_590 rfl (lv_at hl 1 rfl) ?_
  refine lv_iload hx hb d_L_law_591 (lv_at hl 0 rfl) ?_
  refine lv_iconst (v := 1) hx hb d_L_law_593 (by decide) ?_
  refine lv_iadd hx hb d_L_law_594 ?_
  refine ga_asi (v := nI (ix + 1)) (nI_add ix 1) ?_
  refine la_sld hC hX hbl hw (by omega) hL d_L_law_595 ?_
  refine lv_aload_n hx hb d_L_law_596 rfl (lv_at hl 4 rfl) ?_
  refine ga_SwL (As := [.ref (xa_a k 0), .int (xs (ix + 1)), .ref o]) (rest := []) hC hw (c_L_run l k hst x o g (xs (ix + 1)) n (D % 32) (min D 32) h.1 h.hi _) m_L_run ml_L_105 rfl rfl ⟨Nat.le_of_ble_eq_true rfl, Nat.le_of_ble_eq_true rfl⟩ rfl hl.1 rfl (Nat.le_of_ble_eq_true rfl) d_L_law_597 ⟨by show cs + 1 ≤ 601024; omega, by show ss + 6 ≤ 7293034; omega⟩ (fun r u H locs hp hw => ?_)
  refine lv_istore (lv' := [(5, .int r), (4, .int (nI ix)), (0, .ref b), (1, .ref (xa_a k 0)), (2, .ref (a 0)), (3, .ref o)]) hx hb d_L_law_600 hl (by decide) rfl (fun ls hl => ?_)
  refine lv_aload_n hx hb d_L_law_602 rfl (lv_at hl 4 rfl) ?_
  refine lv_aload_n hx hb d_L_law_603 rfl (lv_at hl 2 rfl) ?_
  refine lv_iload hx hb d_L_law_604 (lv_at hl 1 rfl) ?_
  refine lv_iconst (v := 1) hx hb d_L_law_606 (by decide) ?_
  refine lv_iadd hx hb d_L_law_607 ?_
  refine ga_asi (v := nI (ix + 1)) (nI_add ix 1) ?_
  refine la_sld hC hX hbl hw (by omega) hL d_L_law_608 ?_
  refine ga_ViR (As := [.int (xs (ix + 1))]) (rest := []) hC hw (c_M_run l k a y (xs (ix + 1)) M D hI.2.1 (by omega) hH.1.2.2.2 (by omega) _) m_M_run ml_L_107 (ga_recv (ga_subR hw) (q0 := 0) rfl rfl) rfl rfl ⟨Nat.le_of_ble_eq_true rfl, Nat.le_of_ble_eq_true rfl⟩ rfl hl.1 rfl (Nat.le_of_ble_eq_true rfl) d_L_law_609 ⟨by show cs + 1 + 0 ≤ 601024; omega, by show ss + 6 + 0 ≤ 7293034; omega⟩ (fun r2 u2 H locs hp2 hw => ?_)
  refine lv_istore (lv' := [(6, .int r2), (5, .int r), (4, .int (nI ix)), (0, .ref b), (1, .ref (xa_a k 0)), (2, .ref (a 0)), (3, .ref o)]) hx hb d_L_law_612 hl (by decide) rfl (fun ls hl => ?_)
  refine lv_aload_n hx hb d_L_law_614 rfl (lv_at hl 5 rfl) ?_
  refine ga_ViR (As := []) (rest := []) hC hw (c_M_thrown l k a u2 _) m_M_thrown ml_L_80 (ga_recv (ga_subR hw) (q0 := 0) rfl rfl) rfl rfl ⟨Nat.le_of_ble_eq_true rfl, Nat.le_of_ble_eq_true rfl⟩ rfl hl.1 rfl (Nat.le_of_ble_eq_true rfl) d_L_law_615 ⟨by show cs + 1 + 0 + 0 ≤ 601024; omega, by show ss + 6 + 0 + 0 ≤ 7293034; omega⟩ (fun r3 u3 H locs hp3 hw => ?_)
  obtain ⟨rfl, rfl⟩ := hp3
  have hso := so_run h hc (by omega) (by omega) hp hp2
  refine lv_iload hx hb d_L_law_618 (lv_at hl 1 rfl) ?_
  refine lv_icmp_eq (tgt := 625) hx hb d_L_law_620 (by decide) (fun c_620 => ?_) (fun c_620 => ?_)
  · refine lv_iload hx hb d_L_law_625 (lv_at hl 1 rfl) ?_
    refine lv_if_ne (tgt := 642) hx hb d_L_law_627 (by decide) (fun c_627 => ?_) (fun c_627 => ?_)
    · refine lv_goto (tgt := 1319) hx hb d_L_law_642 (by decide) ?_
      refine W.widen (k := cs + 8) (n := ss + 2100) (by omega) (by omega) ?_
      exact kx u.2 u2 u.1 H locs ls hso.1.2 hw (lv_sub hl [2, 3, 4, 5, 6] rfl)
    · refine lv_aload_n hx hb d_L_law_630 rfl (lv_at hl 6 rfl) ?_
      refine lv_iconst (v := 0) hx hb d_L_law_631 (by decide) ?_
      refine la_get (x := u.2) (g := u.1) (o := o) (k := k) (ex := ma_W k a u2) hC hw d_L_law_632 ?_
      refine lv_iload hx hb d_L_law_633 (lv_at hl 0 rfl) ?_
      refine lv_i2l hx hb d_L_law_635 rfl ?_
      refine W.lcmp hx hb d_L_law_636 ?_
      refine lv_if_eq (tgt := 642) hx hb d_L_law_637 (by decide) (fun c_637 => ?_) (fun c_637 => ?_)
      · refine lv_goto (tgt := 1319) hx hb d_L_law_642 (by decide) ?_
        refine W.widen (k := cs + 8) (n := ss + 2100) (by omega) (by omega) ?_
        exact kx u.2 u2 u.1 H locs ls hso.1.2 hw (lv_sub hl [2, 3, 4, 5, 6] rfl)
      · exact absurd (by rw [hso.2 c_627]; exact lg_same _) c_637
  · exact absurd hso.1.1 c_620

set_option maxHeartbeats 4000000 in
set_option maxRecDepth 100000 in
theorem lc_delay {p : Program} {l : Launch} {e : Env} {s : State} {m : MethodId} {below : List Frame} {meth : Method} {c : Code} {Q : State → Prop} {k : xa_k} {a : Nat → Nat} {o b L ix cc cs ss : Nat} {xs : Nat → Int32} {x : XS} {y : MS} {g : Nat → Int64} {H : Heap} {locs : List Loc} {ls : Array Slot} (hst : l.stackTraces = false) (hC : CallFix p m c code 7 s #[Value.ref b] ga_T "NetWiresLaw") (hX : va_X b L xs s s.heap) (hbl : b < s.heap.size) (hL : L ≤ 3072) (hix : ix + 6 ≤ L) (hsi : si k x y cc) (hcc : cc ≤ 511) (hcs : cs + 8 ≤ 601024) (hss : ss + 2100 ≤ 7293034)
    (kx : ∀ (x : XS) (y : MS) (g : Nat → Int64) (H : Heap) (locs : List Loc) (ls : Array Slot), si k x y (cc + 1) → ga_w (xa_K k) (la_W k o (g, x) ++ ma_W k a y) (fun q : Nat => s.heap.size ≤ q) s H locs → lv_has ls 7 [(4, .int (nI ix)), (0, .ref b), (1, .ref (xa_a k 0)), (2, .ref (a 0)), (3, .ref o)] → W p l e room_1 s m #[Value.ref b] below meth c H locs (cs + 8) (ss + 2100) Q (F0 m 1319 ls []))
    (hw : ga_w (xa_K k) (la_W k o (g, x) ++ ma_W k a y) (fun q : Nat => s.heap.size ≤ q) s H locs) (hl : lv_has ls 7 [(4, .int (nI ix)), (0, .ref b), (1, .ref (xa_a k 0)), (2, .ref (a 0)), (3, .ref o)]) : W p l e room_1 s m #[Value.ref b] below meth c H locs cs ss Q (F0 m 645 ls []) := by
  obtain ⟨n, M, U, t, D, num, h, hc⟩ := hsi
  have hx := hC.1
  have hb := hC.2.1
  have hI := h.2.1
  have hS := h.2.2.2.2.1
  have hT := h.2.2.2.2.2.1
  have hH := h.2.2.2.2.2.2.2
  refine lv_aload_n hx hb d_L_law_645 rfl (lv_at hl 2 rfl) ?_
  refine lv_aload_n hx hb d_L_law_646 rfl (lv_at hl 1 rfl) ?_
  refine lv_iload hx hb d_L_law_647 (lv_at hl 0 rfl) ?_
  refine lv_iconst (v := 1) hx hb d_L_law_649 (by decide) ?_
  refine lv_iadd hx hb d_L_law_650 ?_
  refine ga_asi (v := nI (ix + 1)) (nI_add ix 1) ?_
  refine la_sld hC hX hbl hw (by omega) hL d_L_law_651 ?_
  refine lv_aload_n hx hb d_L_law_652 rfl (lv_at hl 1 rfl) ?_
  refine lv_iload hx hb d_L_law_653 (lv_at hl 0 rfl) ?_
  refine lv_iconst (v := 2) hx hb d_L_law_655 (by decide) ?_
  refine lv_iadd hx hb d_L_law_656 ?_
  refine ga_asi (v := nI (ix + 2)) (nI_add ix 2) ?_
  refine la_sld hC hX hbl hw (by omega) hL d_L_law_657 ?_
  refine lv_aload_n hx hb d_L_law_658 rfl (lv_at hl 1 rfl) ?_
  refine lv_iload hx hb d_L_law_659 (lv_at hl 0 rfl) ?_
  refine lv_iconst (v := 3) hx hb d_L_law_661 (by decide) ?_
  refine lv_iadd hx hb d_L_law_662 ?_
  refine ga_asi (v := nI (ix + 3)) (nI_add ix 3) ?_
  refine la_sld hC hX hbl hw (by omega) hL d_L_law_663 ?_
  refine lv_aload_n hx hb d_L_law_664 rfl (lv_at hl 4 rfl) ?_
  refine ga_SwL (As := [.ref (xa_a k 0), .int (xs (ix + 1)), .int (xs (ix + 2)), .int (xs (ix + 3)), .ref o]) (rest := []) hC hw (c_L_delay l k hst x o g (xs (ix + 1)) (xs (ix + 2)) (xs (ix + 3)) _) m_L_delay ml_L_108 rfl rfl ⟨Nat.le_of_ble_eq_true rfl, Nat.le_of_ble_eq_true rfl⟩ rfl hl.1 rfl (Nat.le_of_ble_eq_true rfl) d_L_law_665 ⟨by show cs + 3 ≤ 601024; omega, by show ss + 18 ≤ 7293034; omega⟩ (fun r u H locs hp hw => ?_)
  refine lv_istore (lv' := [(5, .int r), (4, .int (nI ix)), (0, .ref b), (1, .ref (xa_a k 0)), (2, .ref (a 0)), (3, .ref o)]) hx hb d_L_law_668 hl (by decide) rfl (fun ls hl => ?_)
  refine lv_aload_n hx hb d_L_law_670 rfl (lv_at hl 4 rfl) ?_
  refine lv_aload_n hx hb d_L_law_671 rfl (lv_at hl 2 rfl) ?_
  refine lv_iload hx hb d_L_law_672 (lv_at hl 1 rfl) ?_
  refine lv_iconst (v := 1) hx hb d_L_law_674 (by decide) ?_
  refine lv_iadd hx hb d_L_law_675 ?_
  refine ga_asi (v := nI (ix + 1)) (nI_add ix 1) ?_
  refine la_sld hC hX hbl hw (by omega) hL d_L_law_676 ?_
  refine lv_aload_n hx hb d_L_law_677 rfl (lv_at hl 2 rfl) ?_
  refine lv_iload hx hb d_L_law_678 (lv_at hl 1 rfl) ?_
  refine lv_iconst (v := 2) hx hb d_L_law_680 (by decide) ?_
  refine lv_iadd hx hb d_L_law_681 ?_
  refine ga_asi (v := nI (ix + 2)) (nI_add ix 2) ?_
  refine la_sld hC hX hbl hw (by omega) hL d_L_law_682 ?_
  refine lv_aload_n hx hb d_L_law_683 rfl (lv_at hl 2 rfl) ?_
  refine lv_iload hx hb d_L_law_684 (lv_at hl 1 rfl) ?_
  refine lv_iconst (v := 3) hx hb d_L_law_686 (by decide) ?_
  refine lv_iadd hx hb d_L_law_687 ?_
  refine ga_asi (v := nI (ix + 3)) (nI_add ix 3) ?_
  refine la_sld hC hX hbl hw (by omega) hL d_L_law_688 ?_
  refine ga_ViR (As := [.int (xs (ix + 1)), .int (xs (ix + 2)), .int (xs (ix + 3))]) (rest := []) hC hw (c_M_delay l k a y (xs (ix + 1)) (xs (ix + 2)) (xs (ix + 3)) _) m_M_delay ml_L_111 (ga_recv (ga_subR hw) (q0 := 0) rfl rfl) rfl rfl ⟨Nat.le_of_ble_eq_true rfl, Nat.le_of_ble_eq_true rfl⟩ rfl hl.1 rfl (Nat.le_of_ble_eq_true rfl) d_L_law_689 ⟨by show cs + 3 + 0 ≤ 601024; omega, by show ss + 18 + 0 ≤ 7293034; omega⟩ (fun r2 u2 H locs hp2 hw => ?_)
  refine lv_istore (lv' := [(6, .int r2), (5, .int r), (4, .int (nI ix)), (0, .ref b), (1, .ref (xa_a k 0)), (2, .ref (a 0)), (3, .ref o)]) hx hb d_L_law_692 hl (by decide) rfl (fun ls hl => ?_)
  refine lv_aload_n hx hb d_L_law_694 rfl (lv_at hl 5 rfl) ?_
  refine ga_ViR (As := []) (rest := []) hC hw (c_M_thrown l k a u2 _) m_M_thrown ml_L_80 (ga_recv (ga_subR hw) (q0 := 0) rfl rfl) rfl rfl ⟨Nat.le_of_ble_eq_true rfl, Nat.le_of_ble_eq_true rfl⟩ rfl hl.1 rfl (Nat.le_of_ble_eq_true rfl) d_L_law_695 ⟨by show cs + 3 + 0 + 0 ≤ 601024; omega, by show ss + 18 + 0 + 0 ≤ 7293034; omega⟩ (fun r3 u3 H locs hp3 hw => ?_)
  obtain ⟨rfl, rfl⟩ := hp3
  have hso := so_delay h hc hp hp2
  refine lv_iload hx hb d_L_law_698 (lv_at hl 1 rfl) ?_
  refine lv_icmp_eq (tgt := 705) hx hb d_L_law_700 (by decide) (fun c_700 => ?_) (fun c_700 => ?_)
  · refine lv_iload hx hb d_L_law_705 (lv_at hl 1 rfl) ?_
    refine lv_if_ne (tgt := 722) hx hb d_L_law_707 (by decide) (fun c_707 => ?_) (fun c_707 => ?_)
    · refine lv_goto (tgt := 1319) hx hb d_L_law_722 (by decide) ?_
      refine W.widen (k := cs + 8) (n := ss + 2100) (by omega) (by omega) ?_
      exact kx u.2 u2 u.1 H locs ls hso.1.2 hw (lv_sub hl [2, 3, 4, 5, 6] rfl)
    · refine lv_aload_n hx hb d_L_law_710 rfl (lv_at hl 6 rfl) ?_
      refine lv_iconst (v := 0) hx hb d_L_law_711 (by decide) ?_
      refine la_get (x := u.2) (g := u.1) (o := o) (k := k) (ex := ma_W k a u2) hC hw d_L_law_712 ?_
      refine lv_iload hx hb d_L_law_713 (lv_at hl 0 rfl) ?_
      refine lv_i2l hx hb d_L_law_715 rfl ?_
      refine W.lcmp hx hb d_L_law_716 ?_
      refine lv_if_eq (tgt := 722) hx hb d_L_law_717 (by decide) (fun c_717 => ?_) (fun c_717 => ?_)
      · refine lv_goto (tgt := 1319) hx hb d_L_law_722 (by decide) ?_
        refine W.widen (k := cs + 8) (n := ss + 2100) (by omega) (by omega) ?_
        exact kx u.2 u2 u.1 H locs ls hso.1.2 hw (lv_sub hl [2, 3, 4, 5, 6] rfl)
      · exact absurd (by rw [hso.2 c_707]; exact lg_same _) c_717
  · exact absurd hso.1.1 c_700

set_option maxHeartbeats 4000000 in
set_option maxRecDepth 100000 in
theorem lc_part {p : Program} {l : Launch} {e : Env} {s : State} {m : MethodId} {below : List Frame} {meth : Method} {c : Code} {Q : State → Prop} {k : xa_k} {a : Nat → Nat} {o b L ix cc cs ss : Nat} {xs : Nat → Int32} {x : XS} {y : MS} {g : Nat → Int64} {H : Heap} {locs : List Loc} {ls : Array Slot} (hst : l.stackTraces = false) (hC : CallFix p m c code 7 s #[Value.ref b] ga_T "NetWiresLaw") (hX : va_X b L xs s s.heap) (hbl : b < s.heap.size) (hL : L ≤ 3072) (hix : ix + 6 ≤ L) (hsi : si k x y cc) (hcc : cc ≤ 511) (hcs : cs + 8 ≤ 601024) (hss : ss + 2100 ≤ 7293034)
    (kx : ∀ (x : XS) (y : MS) (g : Nat → Int64) (H : Heap) (locs : List Loc) (ls : Array Slot), si k x y (cc + 1) → ga_w (xa_K k) (la_W k o (g, x) ++ ma_W k a y) (fun q : Nat => s.heap.size ≤ q) s H locs → lv_has ls 7 [(4, .int (nI ix)), (0, .ref b), (1, .ref (xa_a k 0)), (2, .ref (a 0)), (3, .ref o)] → W p l e room_1 s m #[Value.ref b] below meth c H locs (cs + 8) (ss + 2100) Q (F0 m 1319 ls []))
    (hw : ga_w (xa_K k) (la_W k o (g, x) ++ ma_W k a y) (fun q : Nat => s.heap.size ≤ q) s H locs) (hl : lv_has ls 7 [(4, .int (nI ix)), (0, .ref b), (1, .ref (xa_a k 0)), (2, .ref (a 0)), (3, .ref o)]) : W p l e room_1 s m #[Value.ref b] below meth c H locs cs ss Q (F0 m 725 ls []) := by
  obtain ⟨n, M, U, t, D, num, h, hc⟩ := hsi
  have hx := hC.1
  have hb := hC.2.1
  have hI := h.2.1
  have hS := h.2.2.2.2.1
  have hT := h.2.2.2.2.2.1
  have hH := h.2.2.2.2.2.2.2
  refine lv_aload_n hx hb d_L_law_725 rfl (lv_at hl 2 rfl) ?_
  refine lv_aload_n hx hb d_L_law_726 rfl (lv_at hl 1 rfl) ?_
  refine lv_iload hx hb d_L_law_727 (lv_at hl 0 rfl) ?_
  refine lv_iconst (v := 1) hx hb d_L_law_729 (by decide) ?_
  refine lv_iadd hx hb d_L_law_730 ?_
  refine ga_asi (v := nI (ix + 1)) (nI_add ix 1) ?_
  refine la_sld hC hX hbl hw (by omega) hL d_L_law_731 ?_
  refine lv_aload_n hx hb d_L_law_732 rfl (lv_at hl 4 rfl) ?_
  refine ga_SwL (As := [.ref (xa_a k 0), .int (xs (ix + 1)), .ref o]) (rest := []) hC hw (c_L_part l k hst x o g (xs (ix + 1)) _) m_L_part ml_L_112 rfl rfl ⟨Nat.le_of_ble_eq_true rfl, Nat.le_of_ble_eq_true rfl⟩ rfl hl.1 rfl (Nat.le_of_ble_eq_true rfl) d_L_law_733 ⟨by show cs + 1 ≤ 601024; omega, by show ss + 6 ≤ 7293034; omega⟩ (fun r u H locs hp hw => ?_)
  refine lv_istore (lv' := [(5, .int r), (4, .int (nI ix)), (0, .ref b), (1, .ref (xa_a k 0)), (2, .ref (a 0)), (3, .ref o)]) hx hb d_L_law_736 hl (by decide) rfl (fun ls hl => ?_)
  refine lv_aload_n hx hb d_L_law_738 rfl (lv_at hl 4 rfl) ?_
  refine lv_aload_n hx hb d_L_law_739 rfl (lv_at hl 2 rfl) ?_
  refine lv_iload hx hb d_L_law_740 (lv_at hl 1 rfl) ?_
  refine lv_iconst (v := 1) hx hb d_L_law_742 (by decide) ?_
  refine lv_iadd hx hb d_L_law_743 ?_
  refine ga_asi (v := nI (ix + 1)) (nI_add ix 1) ?_
  refine la_sld hC hX hbl hw (by omega) hL d_L_law_744 ?_
  refine ga_ViR (As := [.int (xs (ix + 1))]) (rest := []) hC hw (c_M_part l k a y (xs (ix + 1)) _) m_M_part ml_L_114 (ga_recv (ga_subR hw) (q0 := 0) rfl rfl) rfl rfl ⟨Nat.le_of_ble_eq_true rfl, Nat.le_of_ble_eq_true rfl⟩ rfl hl.1 rfl (Nat.le_of_ble_eq_true rfl) d_L_law_745 ⟨by show cs + 1 + 0 ≤ 601024; omega, by show ss + 6 + 0 ≤ 7293034; omega⟩ (fun r2 u2 H locs hp2 hw => ?_)
  refine lv_istore (lv' := [(6, .int r2), (5, .int r), (4, .int (nI ix)), (0, .ref b), (1, .ref (xa_a k 0)), (2, .ref (a 0)), (3, .ref o)]) hx hb d_L_law_748 hl (by decide) rfl (fun ls hl => ?_)
  refine lv_aload_n hx hb d_L_law_750 rfl (lv_at hl 5 rfl) ?_
  refine ga_ViR (As := []) (rest := []) hC hw (c_M_thrown l k a u2 _) m_M_thrown ml_L_80 (ga_recv (ga_subR hw) (q0 := 0) rfl rfl) rfl rfl ⟨Nat.le_of_ble_eq_true rfl, Nat.le_of_ble_eq_true rfl⟩ rfl hl.1 rfl (Nat.le_of_ble_eq_true rfl) d_L_law_751 ⟨by show cs + 1 + 0 + 0 ≤ 601024; omega, by show ss + 6 + 0 + 0 ≤ 7293034; omega⟩ (fun r3 u3 H locs hp3 hw => ?_)
  obtain ⟨rfl, rfl⟩ := hp3
  have hso := so_part h hc hp hp2
  refine lv_iload hx hb d_L_law_754 (lv_at hl 1 rfl) ?_
  refine lv_icmp_eq (tgt := 761) hx hb d_L_law_756 (by decide) (fun c_756 => ?_) (fun c_756 => ?_)
  · refine lv_iload hx hb d_L_law_761 (lv_at hl 1 rfl) ?_
    refine lv_if_ne (tgt := 778) hx hb d_L_law_763 (by decide) (fun c_763 => ?_) (fun c_763 => ?_)
    · refine lv_goto (tgt := 1319) hx hb d_L_law_778 (by decide) ?_
      refine W.widen (k := cs + 8) (n := ss + 2100) (by omega) (by omega) ?_
      exact kx u.2 u2 u.1 H locs ls hso.1.2 hw (lv_sub hl [2, 3, 4, 5, 6] rfl)
    · refine lv_aload_n hx hb d_L_law_766 rfl (lv_at hl 6 rfl) ?_
      refine lv_iconst (v := 0) hx hb d_L_law_767 (by decide) ?_
      refine la_get (x := u.2) (g := u.1) (o := o) (k := k) (ex := ma_W k a u2) hC hw d_L_law_768 ?_
      refine lv_iload hx hb d_L_law_769 (lv_at hl 0 rfl) ?_
      refine lv_i2l hx hb d_L_law_771 rfl ?_
      refine W.lcmp hx hb d_L_law_772 ?_
      refine lv_if_eq (tgt := 778) hx hb d_L_law_773 (by decide) (fun c_773 => ?_) (fun c_773 => ?_)
      · refine lv_goto (tgt := 1319) hx hb d_L_law_778 (by decide) ?_
        refine W.widen (k := cs + 8) (n := ss + 2100) (by omega) (by omega) ?_
        exact kx u.2 u2 u.1 H locs ls hso.1.2 hw (lv_sub hl [2, 3, 4, 5, 6] rfl)
      · exact absurd (by rw [hso.2 c_763]; exact lg_same _) c_773
  · exact absurd hso.1.1 c_756

set_option maxHeartbeats 4000000 in
set_option maxRecDepth 100000 in
theorem lc_down {p : Program} {l : Launch} {e : Env} {s : State} {m : MethodId} {below : List Frame} {meth : Method} {c : Code} {Q : State → Prop} {k : xa_k} {a : Nat → Nat} {o b L ix cc cs ss : Nat} {xs : Nat → Int32} {x : XS} {y : MS} {g : Nat → Int64} {H : Heap} {locs : List Loc} {ls : Array Slot} (hst : l.stackTraces = false) (hC : CallFix p m c code 7 s #[Value.ref b] ga_T "NetWiresLaw") (hX : va_X b L xs s s.heap) (hbl : b < s.heap.size) (hL : L ≤ 3072) (hix : ix + 6 ≤ L) (hsi : si k x y cc) (hcc : cc ≤ 511) (hcs : cs + 8 ≤ 601024) (hss : ss + 2100 ≤ 7293034)
    (kx : ∀ (x : XS) (y : MS) (g : Nat → Int64) (H : Heap) (locs : List Loc) (ls : Array Slot), si k x y (cc + 1) → ga_w (xa_K k) (la_W k o (g, x) ++ ma_W k a y) (fun q : Nat => s.heap.size ≤ q) s H locs → lv_has ls 7 [(4, .int (nI ix)), (0, .ref b), (1, .ref (xa_a k 0)), (2, .ref (a 0)), (3, .ref o)] → W p l e room_1 s m #[Value.ref b] below meth c H locs (cs + 8) (ss + 2100) Q (F0 m 1319 ls []))
    (hw : ga_w (xa_K k) (la_W k o (g, x) ++ ma_W k a y) (fun q : Nat => s.heap.size ≤ q) s H locs) (hl : lv_has ls 7 [(4, .int (nI ix)), (0, .ref b), (1, .ref (xa_a k 0)), (2, .ref (a 0)), (3, .ref o)]) : W p l e room_1 s m #[Value.ref b] below meth c H locs cs ss Q (F0 m 781 ls []) := by
  obtain ⟨n, M, U, t, D, num, h, hc⟩ := hsi
  have hx := hC.1
  have hb := hC.2.1
  have hI := h.2.1
  have hS := h.2.2.2.2.1
  have hT := h.2.2.2.2.2.1
  have hH := h.2.2.2.2.2.2.2
  refine lv_aload_n hx hb d_L_law_781 rfl (lv_at hl 2 rfl) ?_
  refine lv_aload_n hx hb d_L_law_782 rfl (lv_at hl 1 rfl) ?_
  refine lv_iload hx hb d_L_law_783 (lv_at hl 0 rfl) ?_
  refine lv_iconst (v := 1) hx hb d_L_law_785 (by decide) ?_
  refine lv_iadd hx hb d_L_law_786 ?_
  refine ga_asi (v := nI (ix + 1)) (nI_add ix 1) ?_
  refine la_sld hC hX hbl hw (by omega) hL d_L_law_787 ?_
  refine lv_aload_n hx hb d_L_law_788 rfl (lv_at hl 4 rfl) ?_
  refine ga_SwL (As := [.ref (xa_a k 0), .int (xs (ix + 1)), .ref o]) (rest := []) hC hw (c_L_down l k hst x o g (xs (ix + 1)) _) m_L_down ml_L_115 rfl rfl ⟨Nat.le_of_ble_eq_true rfl, Nat.le_of_ble_eq_true rfl⟩ rfl hl.1 rfl (Nat.le_of_ble_eq_true rfl) d_L_law_789 ⟨by show cs + 1 ≤ 601024; omega, by show ss + 6 ≤ 7293034; omega⟩ (fun r u H locs hp hw => ?_)
  refine lv_istore (lv' := [(5, .int r), (4, .int (nI ix)), (0, .ref b), (1, .ref (xa_a k 0)), (2, .ref (a 0)), (3, .ref o)]) hx hb d_L_law_792 hl (by decide) rfl (fun ls hl => ?_)
  refine lv_aload_n hx hb d_L_law_794 rfl (lv_at hl 4 rfl) ?_
  refine lv_aload_n hx hb d_L_law_795 rfl (lv_at hl 2 rfl) ?_
  refine lv_iload hx hb d_L_law_796 (lv_at hl 1 rfl) ?_
  refine lv_iconst (v := 1) hx hb d_L_law_798 (by decide) ?_
  refine lv_iadd hx hb d_L_law_799 ?_
  refine ga_asi (v := nI (ix + 1)) (nI_add ix 1) ?_
  refine la_sld hC hX hbl hw (by omega) hL d_L_law_800 ?_
  refine ga_ViR (As := [.int (xs (ix + 1))]) (rest := []) hC hw (c_M_down l k a y (xs (ix + 1)) _) m_M_down ml_L_117 (ga_recv (ga_subR hw) (q0 := 0) rfl rfl) rfl rfl ⟨Nat.le_of_ble_eq_true rfl, Nat.le_of_ble_eq_true rfl⟩ rfl hl.1 rfl (Nat.le_of_ble_eq_true rfl) d_L_law_801 ⟨by show cs + 1 + 0 ≤ 601024; omega, by show ss + 6 + 0 ≤ 7293034; omega⟩ (fun r2 u2 H locs hp2 hw => ?_)
  refine lv_istore (lv' := [(6, .int r2), (5, .int r), (4, .int (nI ix)), (0, .ref b), (1, .ref (xa_a k 0)), (2, .ref (a 0)), (3, .ref o)]) hx hb d_L_law_804 hl (by decide) rfl (fun ls hl => ?_)
  refine lv_aload_n hx hb d_L_law_806 rfl (lv_at hl 5 rfl) ?_
  refine ga_ViR (As := []) (rest := []) hC hw (c_M_thrown l k a u2 _) m_M_thrown ml_L_80 (ga_recv (ga_subR hw) (q0 := 0) rfl rfl) rfl rfl ⟨Nat.le_of_ble_eq_true rfl, Nat.le_of_ble_eq_true rfl⟩ rfl hl.1 rfl (Nat.le_of_ble_eq_true rfl) d_L_law_807 ⟨by show cs + 1 + 0 + 0 ≤ 601024; omega, by show ss + 6 + 0 + 0 ≤ 7293034; omega⟩ (fun r3 u3 H locs hp3 hw => ?_)
  obtain ⟨rfl, rfl⟩ := hp3
  have hso := so_down h hc hp hp2
  refine lv_iload hx hb d_L_law_810 (lv_at hl 1 rfl) ?_
  refine lv_icmp_eq (tgt := 817) hx hb d_L_law_812 (by decide) (fun c_812 => ?_) (fun c_812 => ?_)
  · refine lv_iload hx hb d_L_law_817 (lv_at hl 1 rfl) ?_
    refine lv_if_ne (tgt := 834) hx hb d_L_law_819 (by decide) (fun c_819 => ?_) (fun c_819 => ?_)
    · refine lv_goto (tgt := 1319) hx hb d_L_law_834 (by decide) ?_
      refine W.widen (k := cs + 8) (n := ss + 2100) (by omega) (by omega) ?_
      exact kx u.2 u2 u.1 H locs ls hso.1.2 hw (lv_sub hl [2, 3, 4, 5, 6] rfl)
    · refine lv_aload_n hx hb d_L_law_822 rfl (lv_at hl 6 rfl) ?_
      refine lv_iconst (v := 0) hx hb d_L_law_823 (by decide) ?_
      refine la_get (x := u.2) (g := u.1) (o := o) (k := k) (ex := ma_W k a u2) hC hw d_L_law_824 ?_
      refine lv_iload hx hb d_L_law_825 (lv_at hl 0 rfl) ?_
      refine lv_i2l hx hb d_L_law_827 rfl ?_
      refine W.lcmp hx hb d_L_law_828 ?_
      refine lv_if_eq (tgt := 834) hx hb d_L_law_829 (by decide) (fun c_829 => ?_) (fun c_829 => ?_)
      · refine lv_goto (tgt := 1319) hx hb d_L_law_834 (by decide) ?_
        refine W.widen (k := cs + 8) (n := ss + 2100) (by omega) (by omega) ?_
        exact kx u.2 u2 u.1 H locs ls hso.1.2 hw (lv_sub hl [2, 3, 4, 5, 6] rfl)
      · exact absurd (by rw [hso.2 c_819]; exact lg_same _) c_829
  · exact absurd hso.1.1 c_812

set_option maxHeartbeats 4000000 in
set_option maxRecDepth 100000 in
theorem lc_noise {p : Program} {l : Launch} {e : Env} {s : State} {m : MethodId} {below : List Frame} {meth : Method} {c : Code} {Q : State → Prop} {k : xa_k} {a : Nat → Nat} {o b L ix cc cs ss : Nat} {xs : Nat → Int32} {x : XS} {y : MS} {g : Nat → Int64} {H : Heap} {locs : List Loc} {ls : Array Slot} (hst : l.stackTraces = false) (hC : CallFix p m c code 7 s #[Value.ref b] ga_T "NetWiresLaw") (hX : va_X b L xs s s.heap) (hbl : b < s.heap.size) (hL : L ≤ 3072) (hix : ix + 6 ≤ L) (hsi : si k x y cc) (hcc : cc ≤ 511) (hcs : cs + 8 ≤ 601024) (hss : ss + 2100 ≤ 7293034)
    (kx : ∀ (x : XS) (y : MS) (g : Nat → Int64) (H : Heap) (locs : List Loc) (ls : Array Slot), si k x y (cc + 1) → ga_w (xa_K k) (la_W k o (g, x) ++ ma_W k a y) (fun q : Nat => s.heap.size ≤ q) s H locs → lv_has ls 7 [(4, .int (nI ix)), (0, .ref b), (1, .ref (xa_a k 0)), (2, .ref (a 0)), (3, .ref o)] → W p l e room_1 s m #[Value.ref b] below meth c H locs (cs + 8) (ss + 2100) Q (F0 m 1319 ls []))
    (hw : ga_w (xa_K k) (la_W k o (g, x) ++ ma_W k a y) (fun q : Nat => s.heap.size ≤ q) s H locs) (hl : lv_has ls 7 [(4, .int (nI ix)), (0, .ref b), (1, .ref (xa_a k 0)), (2, .ref (a 0)), (3, .ref o)]) : W p l e room_1 s m #[Value.ref b] below meth c H locs cs ss Q (F0 m 837 ls []) := by
  obtain ⟨n, M, U, t, D, num, h, hc⟩ := hsi
  have hx := hC.1
  have hb := hC.2.1
  have hI := h.2.1
  have hS := h.2.2.2.2.1
  have hT := h.2.2.2.2.2.1
  have hH := h.2.2.2.2.2.2.2
  refine lv_aload_n hx hb d_L_law_837 rfl (lv_at hl 2 rfl) ?_
  refine lv_aload_n hx hb d_L_law_838 rfl (lv_at hl 1 rfl) ?_
  refine lv_iload hx hb d_L_law_839 (lv_at hl 0 rfl) ?_
  refine lv_iconst (v := 1) hx hb d_L_law_841 (by decide) ?_
  refine lv_iadd hx hb d_L_law_842 ?_
  refine ga_asi (v := nI (ix + 1)) (nI_add ix 1) ?_
  refine la_sld hC hX hbl hw (by omega) hL d_L_law_843 ?_
  refine lv_aload_n hx hb d_L_law_844 rfl (lv_at hl 1 rfl) ?_
  refine lv_iload hx hb d_L_law_845 (lv_at hl 0 rfl) ?_
  refine lv_iconst (v := 2) hx hb d_L_law_847 (by decide) ?_
  refine lv_iadd hx hb d_L_law_848 ?_
  refine ga_asi (v := nI (ix + 2)) (nI_add ix 2) ?_
  refine la_sld hC hX hbl hw (by omega) hL d_L_law_849 ?_
  refine lv_aload_n hx hb d_L_law_850 rfl (lv_at hl 1 rfl) ?_
  refine lv_iload hx hb d_L_law_851 (lv_at hl 0 rfl) ?_
  refine lv_iconst (v := 3) hx hb d_L_law_853 (by decide) ?_
  refine lv_iadd hx hb d_L_law_854 ?_
  refine ga_asi (v := nI (ix + 3)) (nI_add ix 3) ?_
  refine la_sld hC hX hbl hw (by omega) hL d_L_law_855 ?_
  refine lv_aload_n hx hb d_L_law_856 rfl (lv_at hl 1 rfl) ?_
  refine lv_iload hx hb d_L_law_857 (lv_at hl 0 rfl) ?_
  refine lv_iconst (v := 4) hx hb d_L_law_859 (by decide) ?_
  refine lv_iadd hx hb d_L_law_860 ?_
  refine ga_asi (v := nI (ix + 4)) (nI_add ix 4) ?_
  refine la_sld hC hX hbl hw (by omega) hL d_L_law_861 ?_
  refine lv_i2l hx hb d_L_law_862 rfl ?_
  refine lv_bipush (v := 32) hx hb d_L_law_863 (by decide) ?_
  refine lv_lshl hx hb d_L_law_865 rfl ?_
  refine lv_aload_n hx hb d_L_law_866 rfl (lv_at hl 1 rfl) ?_
  refine lv_iload hx hb d_L_law_867 (lv_at hl 0 rfl) ?_
  refine lv_iconst (v := 5) hx hb d_L_law_869 (by decide) ?_
  refine lv_iadd hx hb d_L_law_870 ?_
  refine ga_asi (v := nI (ix + 5)) (nI_add ix 5) ?_
  refine la_sld hC hX hbl hw (by omega) hL d_L_law_871 ?_
  refine lv_i2l hx hb d_L_law_872 rfl ?_
  refine lv_ldc2 (v := 4294967295) hx hb hC.2.2.2.1 (hC.2.2.2.2 _ kc_L_72) d_L_law_873 ?_
  refine lv_land hx hb d_L_law_876 ?_
  refine lv_lor hx hb d_L_law_877 ?_
  refine lv_topl (fun e9 e_e9 => ?_)
  refine ga_SwL (As := [.ref (xa_a k 0), .int (xs (ix + 1)), .int (xs (ix + 2)), .int (xs (ix + 3)), .long e9]) (rest := []) hC hw (c_L_noise l k hst x o g (xs (ix + 1)) (xs (ix + 2)) (xs (ix + 3)) e9 _) m_L_noise ml_L_118 rfl rfl ⟨Nat.le_of_ble_eq_true rfl, Nat.le_of_ble_eq_true rfl⟩ rfl hl.1 rfl (Nat.le_of_ble_eq_true rfl) d_L_law_878 ⟨by show cs + 1 ≤ 601024; omega, by show ss + 6 ≤ 7293034; omega⟩ (fun r u H locs hp hw => ?_)
  refine lv_istore (lv' := [(5, .int r), (4, .int (nI ix)), (0, .ref b), (1, .ref (xa_a k 0)), (2, .ref (a 0)), (3, .ref o)]) hx hb d_L_law_881 hl (by decide) rfl (fun ls hl => ?_)
  refine lv_aload_n hx hb d_L_law_883 rfl (lv_at hl 4 rfl) ?_
  refine lv_aload_n hx hb d_L_law_884 rfl (lv_at hl 2 rfl) ?_
  refine lv_iload hx hb d_L_law_885 (lv_at hl 1 rfl) ?_
  refine lv_iconst (v := 1) hx hb d_L_law_887 (by decide) ?_
  refine lv_iadd hx hb d_L_law_888 ?_
  refine ga_asi (v := nI (ix + 1)) (nI_add ix 1) ?_
  refine la_sld hC hX hbl hw (by omega) hL d_L_law_889 ?_
  refine lv_aload_n hx hb d_L_law_890 rfl (lv_at hl 2 rfl) ?_
  refine lv_iload hx hb d_L_law_891 (lv_at hl 1 rfl) ?_
  refine lv_iconst (v := 2) hx hb d_L_law_893 (by decide) ?_
  refine lv_iadd hx hb d_L_law_894 ?_
  refine ga_asi (v := nI (ix + 2)) (nI_add ix 2) ?_
  refine la_sld hC hX hbl hw (by omega) hL d_L_law_895 ?_
  refine lv_aload_n hx hb d_L_law_896 rfl (lv_at hl 2 rfl) ?_
  refine lv_iload hx hb d_L_law_897 (lv_at hl 1 rfl) ?_
  refine lv_iconst (v := 3) hx hb d_L_law_899 (by decide) ?_
  refine lv_iadd hx hb d_L_law_900 ?_
  refine ga_asi (v := nI (ix + 3)) (nI_add ix 3) ?_
  refine la_sld hC hX hbl hw (by omega) hL d_L_law_901 ?_
  refine lv_aload_n hx hb d_L_law_902 rfl (lv_at hl 2 rfl) ?_
  refine lv_iload hx hb d_L_law_903 (lv_at hl 1 rfl) ?_
  refine lv_iconst (v := 4) hx hb d_L_law_905 (by decide) ?_
  refine lv_iadd hx hb d_L_law_906 ?_
  refine ga_asi (v := nI (ix + 4)) (nI_add ix 4) ?_
  refine la_sld hC hX hbl hw (by omega) hL d_L_law_907 ?_
  refine lv_i2l hx hb d_L_law_908 rfl ?_
  refine lv_bipush (v := 32) hx hb d_L_law_909 (by decide) ?_
  refine lv_lshl hx hb d_L_law_911 rfl ?_
  refine lv_aload_n hx hb d_L_law_912 rfl (lv_at hl 2 rfl) ?_
  refine lv_iload hx hb d_L_law_913 (lv_at hl 1 rfl) ?_
  refine lv_iconst (v := 5) hx hb d_L_law_915 (by decide) ?_
  refine lv_iadd hx hb d_L_law_916 ?_
  refine ga_asi (v := nI (ix + 5)) (nI_add ix 5) ?_
  refine la_sld hC hX hbl hw (by omega) hL d_L_law_917 ?_
  refine lv_i2l hx hb d_L_law_918 rfl ?_
  refine lv_ldc2 (v := 4294967295) hx hb hC.2.2.2.1 (hC.2.2.2.2 _ kc_L_72) d_L_law_919 ?_
  refine lv_land hx hb d_L_law_922 ?_
  refine lv_lor hx hb d_L_law_923 ?_
  refine ga_asl (v := e9) (e_e9.symm) ?_
  refine ga_VvR (As := [.int (xs (ix + 1)), .int (xs (ix + 2)), .int (xs (ix + 3)), .long e9]) (rest := []) hC hw (c_M_noise l k a y (xs (ix + 1)) (xs (ix + 2)) (xs (ix + 3)) e9 _) m_M_noise ml_L_121 (ga_recv (ga_subR hw) (q0 := 0) rfl rfl) rfl rfl ⟨Nat.le_of_ble_eq_true rfl, Nat.le_of_ble_eq_true rfl⟩ rfl hl.1 rfl (Nat.le_of_ble_eq_true rfl) d_L_law_924 ⟨by show cs + 1 + 0 ≤ 601024; omega, by show ss + 6 + 0 ≤ 7293034; omega⟩ (fun u2 H locs hp2 hw => ?_)
  refine lv_aload_n hx hb d_L_law_927 rfl (lv_at hl 4 rfl) ?_
  refine ga_ViR (As := []) (rest := []) hC hw (c_M_thrown l k a u2 _) m_M_thrown ml_L_80 (ga_recv (ga_subR hw) (q0 := 0) rfl rfl) rfl rfl ⟨Nat.le_of_ble_eq_true rfl, Nat.le_of_ble_eq_true rfl⟩ rfl hl.1 rfl (Nat.le_of_ble_eq_true rfl) d_L_law_928 ⟨by show cs + 1 + 0 + 0 ≤ 601024; omega, by show ss + 6 + 0 + 0 ≤ 7293034; omega⟩ (fun r3 u3 H locs hp3 hw => ?_)
  obtain ⟨rfl, rfl⟩ := hp3
  have hso := so_noise h hc hp hp2
  refine lv_iload hx hb d_L_law_931 (lv_at hl 0 rfl) ?_
  refine lv_icmp_eq (tgt := 938) hx hb d_L_law_933 (by decide) (fun c_933 => ?_) (fun c_933 => ?_)
  · refine lv_goto (tgt := 1319) hx hb d_L_law_938 (by decide) ?_
    refine W.widen (k := cs + 8) (n := ss + 2100) (by omega) (by omega) ?_
    exact kx u.2 u2 u.1 H locs ls hso.2 hw (lv_sub hl [1, 2, 3, 4, 5] rfl)
  · exact absurd hso.1 c_933

set_option maxHeartbeats 4000000 in
set_option maxRecDepth 100000 in
theorem lc_meddle {p : Program} {l : Launch} {e : Env} {s : State} {m : MethodId} {below : List Frame} {meth : Method} {c : Code} {Q : State → Prop} {k : xa_k} {a : Nat → Nat} {o b L ix cc cs ss : Nat} {xs : Nat → Int32} {x : XS} {y : MS} {g : Nat → Int64} {H : Heap} {locs : List Loc} {ls : Array Slot} (hst : l.stackTraces = false) (hC : CallFix p m c code 7 s #[Value.ref b] ga_T "NetWiresLaw") (hX : va_X b L xs s s.heap) (hbl : b < s.heap.size) (hL : L ≤ 3072) (hix : ix + 6 ≤ L) (hsi : si k x y cc) (hcc : cc ≤ 511) (hcs : cs + 8 ≤ 601024) (hss : ss + 2100 ≤ 7293034)
    (kx : ∀ (x : XS) (y : MS) (g : Nat → Int64) (H : Heap) (locs : List Loc) (ls : Array Slot), si k x y (cc + 1) → ga_w (xa_K k) (la_W k o (g, x) ++ ma_W k a y) (fun q : Nat => s.heap.size ≤ q) s H locs → lv_has ls 7 [(4, .int (nI ix)), (0, .ref b), (1, .ref (xa_a k 0)), (2, .ref (a 0)), (3, .ref o)] → W p l e room_1 s m #[Value.ref b] below meth c H locs (cs + 8) (ss + 2100) Q (F0 m 1319 ls []))
    (hw : ga_w (xa_K k) (la_W k o (g, x) ++ ma_W k a y) (fun q : Nat => s.heap.size ≤ q) s H locs) (hl : lv_has ls 7 [(4, .int (nI ix)), (0, .ref b), (1, .ref (xa_a k 0)), (2, .ref (a 0)), (3, .ref o)]) : W p l e room_1 s m #[Value.ref b] below meth c H locs cs ss Q (F0 m 941 ls []) := by
  obtain ⟨n, M, U, t, D, num, h, hc⟩ := hsi
  have hx := hC.1
  have hb := hC.2.1
  have hI := h.2.1
  have hS := h.2.2.2.2.1
  have hT := h.2.2.2.2.2.1
  have hH := h.2.2.2.2.2.2.2
  refine lv_aload_n hx hb d_L_law_941 rfl (lv_at hl 2 rfl) ?_
  refine lv_aload_n hx hb d_L_law_942 rfl (lv_at hl 1 rfl) ?_
  refine lv_iload hx hb d_L_law_943 (lv_at hl 0 rfl) ?_
  refine lv_iconst (v := 1) hx hb d_L_law_945 (by decide) ?_
  refine lv_iadd hx hb d_L_law_946 ?_
  refine ga_asi (v := nI (ix + 1)) (nI_add ix 1) ?_
  refine la_sld hC hX hbl hw (by omega) hL d_L_law_947 ?_
  refine lv_aload_n hx hb d_L_law_948 rfl (lv_at hl 1 rfl) ?_
  refine lv_iload hx hb d_L_law_949 (lv_at hl 0 rfl) ?_
  refine lv_iconst (v := 2) hx hb d_L_law_951 (by decide) ?_
  refine lv_iadd hx hb d_L_law_952 ?_
  refine ga_asi (v := nI (ix + 2)) (nI_add ix 2) ?_
  refine la_sld hC hX hbl hw (by omega) hL d_L_law_953 ?_
  refine lv_aload_n hx hb d_L_law_954 rfl (lv_at hl 1 rfl) ?_
  refine lv_iload hx hb d_L_law_955 (lv_at hl 0 rfl) ?_
  refine lv_iconst (v := 3) hx hb d_L_law_957 (by decide) ?_
  refine lv_iadd hx hb d_L_law_958 ?_
  refine ga_asi (v := nI (ix + 3)) (nI_add ix 3) ?_
  refine la_sld hC hX hbl hw (by omega) hL d_L_law_959 ?_
  refine lv_aload_n hx hb d_L_law_960 rfl (lv_at hl 4 rfl) ?_
  refine ga_SwL (As := [.ref (xa_a k 0), .int (xs (ix + 1)), .int (xs (ix + 2)), .int (xs (ix + 3)), .ref o]) (rest := []) hC hw (c_L_meddle l k hst x o g (xs (ix + 1)) (xs (ix + 2)) (xs (ix + 3)) n h.1 h.hepx h.rm1 _) m_L_meddle ml_L_122 rfl rfl ⟨Nat.le_of_ble_eq_true rfl, Nat.le_of_ble_eq_true rfl⟩ rfl hl.1 rfl (Nat.le_of_ble_eq_true rfl) d_L_law_961 ⟨by show cs + 1 ≤ 601024; omega, by show ss + 6 ≤ 7293034; omega⟩ (fun r u H locs hp hw => ?_)
  refine lv_istore (lv' := [(5, .int r), (4, .int (nI ix)), (0, .ref b), (1, .ref (xa_a k 0)), (2, .ref (a 0)), (3, .ref o)]) hx hb d_L_law_964 hl (by decide) rfl (fun ls hl => ?_)
  refine lv_aload_n hx hb d_L_law_966 rfl (lv_at hl 4 rfl) ?_
  refine lv_aload_n hx hb d_L_law_967 rfl (lv_at hl 2 rfl) ?_
  refine lv_iload hx hb d_L_law_968 (lv_at hl 1 rfl) ?_
  refine lv_iconst (v := 1) hx hb d_L_law_970 (by decide) ?_
  refine lv_iadd hx hb d_L_law_971 ?_
  refine ga_asi (v := nI (ix + 1)) (nI_add ix 1) ?_
  refine la_sld hC hX hbl hw (by omega) hL d_L_law_972 ?_
  refine lv_aload_n hx hb d_L_law_973 rfl (lv_at hl 2 rfl) ?_
  refine lv_iload hx hb d_L_law_974 (lv_at hl 1 rfl) ?_
  refine lv_iconst (v := 2) hx hb d_L_law_976 (by decide) ?_
  refine lv_iadd hx hb d_L_law_977 ?_
  refine ga_asi (v := nI (ix + 2)) (nI_add ix 2) ?_
  refine la_sld hC hX hbl hw (by omega) hL d_L_law_978 ?_
  refine lv_aload_n hx hb d_L_law_979 rfl (lv_at hl 2 rfl) ?_
  refine lv_iload hx hb d_L_law_980 (lv_at hl 1 rfl) ?_
  refine lv_iconst (v := 3) hx hb d_L_law_982 (by decide) ?_
  refine lv_iadd hx hb d_L_law_983 ?_
  refine ga_asi (v := nI (ix + 3)) (nI_add ix 3) ?_
  refine la_sld hC hX hbl hw (by omega) hL d_L_law_984 ?_
  refine ga_ViR (As := [.int (xs (ix + 1)), .int (xs (ix + 2)), .int (xs (ix + 3))]) (rest := []) hC hw (c_M_meddle l k a y (xs (ix + 1)) (xs (ix + 2)) (xs (ix + 3)) M hI.2.1 (by omega) h.hepm _) m_M_meddle ml_L_124 (ga_recv (ga_subR hw) (q0 := 0) rfl rfl) rfl rfl ⟨Nat.le_of_ble_eq_true rfl, Nat.le_of_ble_eq_true rfl⟩ rfl hl.1 rfl (Nat.le_of_ble_eq_true rfl) d_L_law_985 ⟨by show cs + 1 + 0 ≤ 601024; omega, by show ss + 6 + 0 ≤ 7293034; omega⟩ (fun r2 u2 H locs hp2 hw => ?_)
  refine lv_istore (lv' := [(6, .int r2), (5, .int r), (4, .int (nI ix)), (0, .ref b), (1, .ref (xa_a k 0)), (2, .ref (a 0)), (3, .ref o)]) hx hb d_L_law_988 hl (by decide) rfl (fun ls hl => ?_)
  refine lv_aload_n hx hb d_L_law_990 rfl (lv_at hl 5 rfl) ?_
  refine ga_ViR (As := []) (rest := []) hC hw (c_M_thrown l k a u2 _) m_M_thrown ml_L_80 (ga_recv (ga_subR hw) (q0 := 0) rfl rfl) rfl rfl ⟨Nat.le_of_ble_eq_true rfl, Nat.le_of_ble_eq_true rfl⟩ rfl hl.1 rfl (Nat.le_of_ble_eq_true rfl) d_L_law_991 ⟨by show cs + 1 + 0 + 0 ≤ 601024; omega, by show ss + 6 + 0 + 0 ≤ 7293034; omega⟩ (fun r3 u3 H locs hp3 hw => ?_)
  obtain ⟨rfl, rfl⟩ := hp3
  have hso := so_meddle h hc hp hp2
  refine lv_iload hx hb d_L_law_994 (lv_at hl 1 rfl) ?_
  refine lv_icmp_eq (tgt := 1001) hx hb d_L_law_996 (by decide) (fun c_996 => ?_) (fun c_996 => ?_)
  · refine lv_iload hx hb d_L_law_1001 (lv_at hl 1 rfl) ?_
    refine lv_if_ne (tgt := 1025) hx hb d_L_law_1003 (by decide) (fun c_1003 => ?_) (fun c_1003 => ?_)
    · refine lv_goto (tgt := 1319) hx hb d_L_law_1025 (by decide) ?_
      refine W.widen (k := cs + 8) (n := ss + 2100) (by omega) (by omega) ?_
      exact kx u.2 u2 u.1 H locs ls hso.1.2 hw (lv_sub hl [2, 3, 4, 5, 6] rfl)
    · refine lv_aload_n hx hb d_L_law_1006 rfl (lv_at hl 6 rfl) ?_
      refine lv_iconst (v := 0) hx hb d_L_law_1007 (by decide) ?_
      refine la_get (x := u.2) (g := u.1) (o := o) (k := k) (ex := ma_W k a u2) hC hw d_L_law_1008 ?_
      refine lv_iload hx hb d_L_law_1009 (lv_at hl 0 rfl) ?_
      refine lv_if_eq (tgt := 1018) hx hb d_L_law_1011 (by decide) (fun c_1011 => ?_) (fun c_1011 => ?_)
      · refine lv_lconst (v := 0) hx hb d_L_law_1018 (by decide) ?_
        refine W.lcmp hx hb d_L_law_1019 ?_
        refine lv_if_eq (tgt := 1025) hx hb d_L_law_1020 (by decide) (fun c_1020 => ?_) (fun c_1020 => ?_)
        · refine lv_goto (tgt := 1319) hx hb d_L_law_1025 (by decide) ?_
          refine W.widen (k := cs + 8) (n := ss + 2100) (by omega) (by omega) ?_
          exact kx u.2 u2 u.1 H locs ls hso.1.2 hw (lv_sub hl [2, 3, 4, 5, 6] rfl)
        · exact absurd (by rw [hso.2 c_1003, if_pos c_1011]; exact lg_same _) c_1020
      · refine lv_lconst (v := 1) hx hb d_L_law_1014 (by decide) ?_
        refine lv_goto (tgt := 1019) hx hb d_L_law_1015 (by decide) ?_
        refine W.lcmp hx hb d_L_law_1019 ?_
        refine lv_if_eq (tgt := 1025) hx hb d_L_law_1020 (by decide) (fun c_1020 => ?_) (fun c_1020 => ?_)
        · refine lv_goto (tgt := 1319) hx hb d_L_law_1025 (by decide) ?_
          refine W.widen (k := cs + 8) (n := ss + 2100) (by omega) (by omega) ?_
          exact kx u.2 u2 u.1 H locs ls hso.1.2 hw (lv_sub hl [2, 3, 4, 5, 6] rfl)
        · exact absurd (by rw [hso.2 c_1003, if_neg c_1011]; exact lg_same _) c_1020
  · exact absurd hso.1.1 c_996
