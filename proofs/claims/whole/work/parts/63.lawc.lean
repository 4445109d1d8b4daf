set_option maxHeartbeats 4000000 in
set_option maxRecDepth 100000 in
theorem lc_message {p : Program} {l : Launch} {e : Env} {s : State} {m : MethodId} {below : List Frame} {meth : Method} {c : Code} {Q : State → Prop} {k : xa_k} {a : Nat → Nat} {o b L ix cc cs ss : Nat} {xs : Nat → Int32} {x : XS} {y : MS} {g : Nat → Int64} {H : Heap} {locs : List Loc} {ls : Array Slot} (hst : l.stackTraces = false) (hC : CallFix p m c code 7 s #[Value.ref b] ga_T "NetWiresLaw") (hX : va_X b L xs s s.heap) (hbl : b < s.heap.size) (hL : L ≤ 3072) (hix : ix + 6 ≤ L) (hsi : si k x y cc) (hcc : cc ≤ 511) (hcs : cs + 8 ≤ 601024) (hss : ss + 2100 ≤ 7293034)
    (kx : ∀ (x : XS) (y : MS) (g : Nat → Int64) (H : Heap) (locs : List Loc) (ls : Array Slot), si k x y (cc + 1) → ga_w (xa_K k) (la_W k o (g, x) ++ ma_W k a y) (fun q : Nat => s.heap.size ≤ q) s H locs → lv_has ls 7 [(4, .int (nI ix)), (0, .ref b), (1, .ref (xa_a k 0)), (2, .ref (a 0)), (3, .ref o)] → W p l e room_1 s m #[Value.ref b] below meth c H locs (cs + 8) (ss + 2100) Q (F0 m 1319 ls []))
    (hw : ga_w (xa_K k) (la_W k o (g, x) ++ ma_W k a y) (fun q : Nat => s.heap.size ≤ q) s H locs) (hl : lv_has ls 7 [(4, .int (nI ix)), (0, .ref b), (1, .ref (xa_a k 0)), (2, .ref (a 0)), (3, .ref o)]) : W p l e room_1 s m #[Value.ref b] below meth c H locs cs ss Q (F0 m 1028 ls []) := by
  obtain ⟨n, M, U, t, D, num, h, hc⟩ := hsi
  have hx := hC.1
  have hb := hC.2.1
  have hI := h.2.1
  have hS := h.2.2.2.2.1
  have hT := h.2.2.2.2.2.1
  have hH := h.2.2.2.2.2.2.2
  obtain ⟨bl, bf, hB1, hB2, hB3⟩ := h.bytes
  refine lv_aload_n hx hb d_L_law_1028 rfl (lv_at hl 2 rfl) ?_
  refine lv_aload_n hx hb d_L_law_1029 rfl (lv_at hl 1 rfl) ?_
  refine lv_iload hx hb d_L_law_1030 (lv_at hl 0 rfl) ?_
  refine lv_iconst (v := 1) hx hb d_L_law_1032 (by decide) ?_
  refine lv_iadd hx hb d_L_law_1033 ?_
  refine ga_asi (v := nI (ix + 1)) (nI_add ix 1) ?_
  refine la_sld hC hX hbl hw (by omega) hL d_L_law_1034 ?_
  refine lv_aload_n hx hb d_L_law_1035 rfl (lv_at hl 1 rfl) ?_
  refine lv_iload hx hb d_L_law_1036 (lv_at hl 0 rfl) ?_
  refine lv_iconst (v := 2) hx hb d_L_law_1038 (by decide) ?_
  refine lv_iadd hx hb d_L_law_1039 ?_
  refine ga_asi (v := nI (ix + 2)) (nI_add ix 2) ?_
  refine la_sld hC hX hbl hw (by omega) hL d_L_law_1040 ?_
  have hw : ga_w (xa_K k) (xa_W k x ++ ([la_o k o g] ++ ma_W k a y)) (fun q : Nat => s.heap.size ≤ q) s H locs := by rw [← List.append_assoc]; exact hw
  refine ga_ViL (As := [.int (xs (ix + 1)), .int (xs (ix + 2))]) (rest := []) hC hw (c_NetWires_message l k x (xs (ix + 1)) (xs (ix + 2)) n bl bf h.1 hB1 _) m_NetWires_message ml_L_125 (ga_recv (ga_subL hw) (q0 := 0) rfl rfl) rfl rfl ⟨Nat.le_of_ble_eq_true rfl, Nat.le_of_ble_eq_true rfl⟩ rfl hl.1 rfl (Nat.le_of_ble_eq_true rfl) d_L_law_1041 ⟨by show cs + 0 ≤ 601024; omega, by show ss + 0 ≤ 7293034; omega⟩ (fun r u H locs hp hw => ?_)
  have hw : ga_w (xa_K k) (la_W k o (g, u) ++ ma_W k a y) (fun q : Nat => s.heap.size ≤ q) s H locs := by rw [← List.append_assoc] at hw; exact hw
  refine lv_aload_n hx hb d_L_law_1044 rfl (lv_at hl 3 rfl) ?_
  refine lv_aload_n hx hb d_L_law_1045 rfl (lv_at hl 1 rfl) ?_
  refine lv_iload hx hb d_L_law_1046 (lv_at hl 0 rfl) ?_
  refine lv_iconst (v := 1) hx hb d_L_law_1048 (by decide) ?_
  refine lv_iadd hx hb d_L_law_1049 ?_
  refine ga_asi (v := nI (ix + 1)) (nI_add ix 1) ?_
  refine la_sld hC hX hbl hw (by omega) hL d_L_law_1050 ?_
  refine lv_aload_n hx hb d_L_law_1051 rfl (lv_at hl 1 rfl) ?_
  refine lv_iload hx hb d_L_law_1052 (lv_at hl 0 rfl) ?_
  refine lv_iconst (v := 2) hx hb d_L_law_1054 (by decide) ?_
  refine lv_iadd hx hb d_L_law_1055 ?_
  refine ga_asi (v := nI (ix + 2)) (nI_add ix 2) ?_
  refine la_sld hC hX hbl hw (by omega) hL d_L_law_1056 ?_
  refine ga_ViR (As := [.int (xs (ix + 1)), .int (xs (ix + 2))]) (rest := [.int r]) hC hw (c_M_message l k a y (xs (ix + 1)) (xs (ix + 2)) M hI.2.1 (by omega) _) m_M_message ml_L_128 (ga_recv (ga_subR hw) (q0 := 0) rfl rfl) rfl rfl ⟨Nat.le_of_ble_eq_true rfl, Nat.le_of_ble_eq_true rfl⟩ rfl hl.1 rfl (Nat.le_of_ble_eq_true rfl) d_L_law_1057 ⟨by show cs + 0 + 0 ≤ 601024; omega, by show ss + 0 + 0 ≤ 7293034; omega⟩ (fun r2 u2 H locs hp2 hw => ?_)
  have hso := so_message h hc (fun j hj hm => by obtain ⟨_, _, q, _⟩ := hB3 j hj hm; exact q) hp hp2
  refine lv_icmp_eq (tgt := 1319) hx hb d_L_law_1060 (by decide) (fun c_1060 => ?_) (fun c_1060 => ?_)
  · refine W.widen (k := cs + 8) (n := ss + 2100) (by omega) (by omega) ?_
    exact kx u u2 g H locs ls hso.1.2 hw (lv_sub hl [0, 1, 2, 3, 4] rfl)
  · exact absurd hso.2 c_1060

set_option maxHeartbeats 4000000 in
set_option maxRecDepth 100000 in
theorem lc_messageAt {p : Program} {l : Launch} {e : Env} {s : State} {m : MethodId} {below : List Frame} {meth : Method} {c : Code} {Q : State → Prop} {k : xa_k} {a : Nat → Nat} {o b L ix cc cs ss : Nat} {xs : Nat → Int32} {x : XS} {y : MS} {g : Nat → Int64} {H : Heap} {locs : List Loc} {ls : Array Slot} (hst : l.stackTraces = false) (hC : CallFix p m c code 7 s #[Value.ref b] ga_T "NetWiresLaw") (hX : va_X b L xs s s.heap) (hbl : b < s.heap.size) (hL : L ≤ 3072) (hix : ix + 6 ≤ L) (hsi : si k x y cc) (hcc : cc ≤ 511) (hcs : cs + 8 ≤ 601024) (hss : ss + 2100 ≤ 7293034)
    (kx : ∀ (x : XS) (y : MS) (g : Nat → Int64) (H : Heap) (locs : List Loc) (ls : Array Slot), si k x y (cc + 1) → ga_w (xa_K k) (la_W k o (g, x) ++ ma_W k a y) (fun q : Nat => s.heap.size ≤ q) s H locs → lv_has ls 7 [(4, .int (nI ix)), (0, .ref b), (1, .ref (xa_a k 0)), (2, .ref (a 0)), (3, .ref o)] → W p l e room_1 s m #[Value.ref b] below meth c H locs (cs + 8) (ss + 2100) Q (F0 m 1319 ls []))
    (hw : ga_w (xa_K k) (la_W k o (g, x) ++ ma_W k a y) (fun q : Nat => s.heap.size ≤ q) s H locs) (hl : lv_has ls 7 [(4, .int (nI ix)), (0, .ref b), (1, .ref (xa_a k 0)), (2, .ref (a 0)), (3, .ref o)]) : W p l e room_1 s m #[Value.ref b] below meth c H locs cs ss Q (F0 m 1065 ls []) := by
  obtain ⟨n, M, U, t, D, num, h, hc⟩ := hsi
  have hx := hC.1
  have hb := hC.2.1
  have hI := h.2.1
  have hS := h.2.2.2.2.1
  have hT := h.2.2.2.2.2.1
  have hH := h.2.2.2.2.2.2.2
  obtain ⟨bl, bf, hB1, hB2, hB3⟩ := h.bytes
  refine lv_aload_n hx hb d_L_law_1065 rfl (lv_at hl 2 rfl) ?_
  refine lv_aload_n hx hb d_L_law_1066 rfl (lv_at hl 1 rfl) ?_
  refine lv_iload hx hb d_L_law_1067 (lv_at hl 0 rfl) ?_
  refine lv_iconst (v := 1) hx hb d_L_law_1069 (by decide) ?_
  refine lv_iadd hx hb d_L_law_1070 ?_
  refine ga_asi (v := nI (ix + 1)) (nI_add ix 1) ?_
  refine la_sld hC hX hbl hw (by omega) hL d_L_law_1071 ?_
  refine lv_aload_n hx hb d_L_law_1072 rfl (lv_at hl 1 rfl) ?_
  refine lv_iload hx hb d_L_law_1073 (lv_at hl 0 rfl) ?_
  refine lv_iconst (v := 2) hx hb d_L_law_1075 (by decide) ?_
  refine lv_iadd hx hb d_L_law_1076 ?_
  refine ga_asi (v := nI (ix + 2)) (nI_add ix 2) ?_
  refine la_sld hC hX hbl hw (by omega) hL d_L_law_1077 ?_
  refine lv_aload_n hx hb d_L_law_1078 rfl (lv_at hl 4 rfl) ?_
  refine ga_SwL (As := [.ref (xa_a k 0), .int (xs (ix + 1)), .int (xs (ix + 2)), .ref o]) (rest := []) hC hw (c_L_messageAt l k hst x o g (xs (ix + 1)) (xs (ix + 2)) n bl bf h.1 hB1 (fun j hj => Nat.lt_of_le_of_lt (hB2 j hj) (by decide)) _) m_L_messageAt ml_L_129 rfl rfl ⟨Nat.le_of_ble_eq_true rfl, Nat.le_of_ble_eq_true rfl⟩ rfl hl.1 rfl (Nat.le_of_ble_eq_true rfl) d_L_law_1079 ⟨by show cs + 1 ≤ 601024; omega, by show ss + 6 ≤ 7293034; omega⟩ (fun r u H locs hp hw => ?_)
  refine lv_istore (lv' := [(5, .int r), (4, .int (nI ix)), (0, .ref b), (1, .ref (xa_a k 0)), (2, .ref (a 0)), (3, .ref o)]) hx hb d_L_law_1082 hl (by decide) rfl (fun ls hl => ?_)
  refine lv_aload_n hx hb d_L_law_1084 rfl (lv_at hl 4 rfl) ?_
  refine lv_aload_n hx hb d_L_law_1085 rfl (lv_at hl 2 rfl) ?_
  refine lv_iload hx hb d_L_law_1086 (lv_at hl 1 rfl) ?_
  refine lv_iconst (v := 1) hx hb d_L_law_1088 (by decide) ?_
  refine lv_iadd hx hb d_L_law_1089 ?_
  refine ga_asi (v := nI (ix + 1)) (nI_add ix 1) ?_
  refine la_sld hC hX hbl hw (by omega) hL d_L_law_1090 ?_
  refine lv_aload_n hx hb d_L_law_1091 rfl (lv_at hl 2 rfl) ?_
  refine lv_iload hx hb d_L_law_1092 (lv_at hl 1 rfl) ?_
  refine lv_iconst (v := 2) hx hb d_L_law_1094 (by decide) ?_
  refine lv_iadd hx hb d_L_law_1095 ?_
  refine ga_asi (v := nI (ix + 2)) (nI_add ix 2) ?_
  refine la_sld hC hX hbl hw (by omega) hL d_L_law_1096 ?_
  refine ga_ViR (As := [.int (xs (ix + 1)), .int (xs (ix + 2))]) (rest := []) hC hw (c_M_messageAt l k a y (xs (ix + 1)) (xs (ix + 2)) M hI.2.1 (by omega) (h.hBm (by omega)) _) m_M_messageAt ml_L_131 (ga_recv (ga_subR hw) (q0 := 0) rfl rfl) rfl rfl ⟨Nat.le_of_ble_eq_true rfl, Nat.le_of_ble_eq_true rfl⟩ rfl hl.1 rfl (Nat.le_of_ble_eq_true rfl) d_L_law_1097 ⟨by show cs + 1 + 0 ≤ 601024; omega, by show ss + 6 + 0 ≤ 7293034; omega⟩ (fun r2 u2 H locs hp2 hw => ?_)
  refine lv_istore (lv' := [(6, .int r2), (5, .int r), (4, .int (nI ix)), (0, .ref b), (1, .ref (xa_a k 0)), (2, .ref (a 0)), (3, .ref o)]) hx hb d_L_law_1100 hl (by decide) rfl (fun ls hl => ?_)
  refine lv_aload_n hx hb d_L_law_1102 rfl (lv_at hl 5 rfl) ?_
  refine ga_ViR (As := []) (rest := []) hC hw (c_M_thrown l k a u2 _) m_M_thrown ml_L_80 (ga_recv (ga_subR hw) (q0 := 0) rfl rfl) rfl rfl ⟨Nat.le_of_ble_eq_true rfl, Nat.le_of_ble_eq_true rfl⟩ rfl hl.1 rfl (Nat.le_of_ble_eq_true rfl) d_L_law_1103 ⟨by show cs + 1 + 0 + 0 ≤ 601024; omega, by show ss + 6 + 0 + 0 ≤ 7293034; omega⟩ (fun r3 u3 H locs hp3 hw => ?_)
  obtain ⟨rfl, rfl⟩ := hp3
  have hso := so_messageAt h hc (by omega) hB3 hp hp2
  refine lv_iload hx hb d_L_law_1106 (lv_at hl 1 rfl) ?_
  refine lv_icmp_eq (tgt := 1113) hx hb d_L_law_1108 (by decide) (fun c_1108 => ?_) (fun c_1108 => ?_)
  · refine lv_iload hx hb d_L_law_1113 (lv_at hl 1 rfl) ?_
    refine lv_if_ne (tgt := 1130) hx hb d_L_law_1115 (by decide) (fun c_1115 => ?_) (fun c_1115 => ?_)
    · refine lv_goto (tgt := 1319) hx hb d_L_law_1130 (by decide) ?_
      refine W.widen (k := cs + 8) (n := ss + 2100) (by omega) (by omega) ?_
      exact kx u.2 u2 u.1 H locs ls hso.1.2 hw (lv_sub hl [2, 3, 4, 5, 6] rfl)
    · refine lv_aload_n hx hb d_L_law_1118 rfl (lv_at hl 6 rfl) ?_
      refine lv_iconst (v := 0) hx hb d_L_law_1119 (by decide) ?_
      refine la_get (x := u.2) (g := u.1) (o := o) (k := k) (ex := ma_W k a u2) hC hw d_L_law_1120 ?_
      refine lv_iload hx hb d_L_law_1121 (lv_at hl 0 rfl) ?_
      refine lv_i2l hx hb d_L_law_1123 rfl ?_
      refine W.lcmp hx hb d_L_law_1124 ?_
      refine lv_if_eq (tgt := 1130) hx hb d_L_law_1125 (by decide) (fun c_1125 => ?_) (fun c_1125 => ?_)
      · refine lv_goto (tgt := 1319) hx hb d_L_law_1130 (by decide) ?_
        refine W.widen (k := cs + 8) (n := ss + 2100) (by omega) (by omega) ?_
        exact kx u.2 u2 u.1 H locs ls hso.1.2 hw (lv_sub hl [2, 3, 4, 5, 6] rfl)
      · exact absurd (by rw [hso.2 c_1115]; exact lg_same _) c_1125
  · exact absurd hso.1.1 c_1108

set_option maxHeartbeats 4000000 in
set_option maxRecDepth 100000 in
theorem lc_happened {p : Program} {l : Launch} {e : Env} {s : State} {m : MethodId} {below : List Frame} {meth : Method} {c : Code} {Q : State → Prop} {k : xa_k} {a : Nat → Nat} {o b L ix cc cs ss : Nat} {xs : Nat → Int32} {x : XS} {y : MS} {g : Nat → Int64} {H : Heap} {locs : List Loc} {ls : Array Slot} (hst : l.stackTraces = false) (hC : CallFix p m c code 7 s #[Value.ref b] ga_T "NetWiresLaw") (hX : va_X b L xs s s.heap) (hbl : b < s.heap.size) (hL : L ≤ 3072) (hix : ix + 6 ≤ L) (hsi : si k x y cc) (hcc : cc ≤ 511) (hcs : cs + 8 ≤ 601024) (hss : ss + 2100 ≤ 7293034)
    (kx : ∀ (x : XS) (y : MS) (g : Nat → Int64) (H : Heap) (locs : List Loc) (ls : Array Slot), si k x y (cc + 1) → ga_w (xa_K k) (la_W k o (g, x) ++ ma_W k a y) (fun q : Nat => s.heap.size ≤ q) s H locs → lv_has ls 7 [(4, .int (nI ix)), (0, .ref b), (1, .ref (xa_a k 0)), (2, .ref (a 0)), (3, .ref o)] → W p l e room_1 s m #[Value.ref b] below meth c H locs (cs + 8) (ss + 2100) Q (F0 m 1319 ls []))
    (hw : ga_w (xa_K k) (la_W k o (g, x) ++ ma_W k a y) (fun q : Nat => s.heap.size ≤ q) s H locs) (hl : lv_has ls 7 [(4, .int (nI ix)), (0, .ref b), (1, .ref (xa_a k 0)), (2, .ref (a 0)), (3, .ref o)]) : W p l e room_1 s m #[Value.ref b] below meth c H locs cs ss Q (F0 m 1133 ls []) := by
  obtain ⟨n, M, U, t, D, num, h, hc⟩ := hsi
  have hx := hC.1
  have hb := hC.2.1
  have hI := h.2.1
  have hS := h.2.2.2.2.1
  have hT := h.2.2.2.2.2.1
  have hH := h.2.2.2.2.2.2.2
  refine lv_aload_n hx hb d_L_law_1133 rfl (lv_at hl 2 rfl) ?_
  refine lv_aload_n hx hb d_L_law_1134 rfl (lv_at hl 1 rfl) ?_
  refine lv_iload hx hb d_L_law_1135 (lv_at hl 0 rfl) ?_
  refine lv_iconst (v := 1) hx hb d_L_law_1137 (by decide) ?_
  refine lv_iadd hx hb d_L_law_1138 ?_
  refine ga_asi (v := nI (ix + 1)) (nI_add ix 1) ?_
  refine la_sld hC hX hbl hw (by omega) hL d_L_law_1139 ?_
  refine lv_aload_n hx hb d_L_law_1140 rfl (lv_at hl 1 rfl) ?_
  refine lv_iload hx hb d_L_law_1141 (lv_at hl 0 rfl) ?_
  refine lv_iconst (v := 2) hx hb d_L_law_1143 (by decide) ?_
  refine lv_iadd hx hb d_L_law_1144 ?_
  refine ga_asi (v := nI (ix + 2)) (nI_add ix 2) ?_
  refine la_sld hC hX hbl hw (by omega) hL d_L_law_1145 ?_
  have hw : ga_w (xa_K k) (xa_W k x ++ ([la_o k o g] ++ ma_W k a y)) (fun q : Nat => s.heap.size ≤ q) s H locs := by rw [← List.append_assoc]; exact hw
  refine ga_ViL (As := [.int (xs (ix + 1)), .int (xs (ix + 2))]) (rest := []) hC hw (c_NetWires_happened l k x (xs (ix + 1)) (xs (ix + 2)) (D % 32) (min D 32) h.hi.1 h.hi.2.1 h.hi.2.2.1 h.hi.2.2.2 _) m_NetWires_happened ml_L_132 (ga_recv (ga_subL hw) (q0 := 0) rfl rfl) rfl rfl ⟨Nat.le_of_ble_eq_true rfl, Nat.le_of_ble_eq_true rfl⟩ rfl hl.1 rfl (Nat.le_of_ble_eq_true rfl) d_L_law_1146 ⟨by show cs + 0 ≤ 601024; omega, by show ss + 0 ≤ 7293034; omega⟩ (fun r u H locs hp hw => ?_)
  have hw : ga_w (xa_K k) (la_W k o (g, u) ++ ma_W k a y) (fun q : Nat => s.heap.size ≤ q) s H locs := by rw [← List.append_assoc] at hw; exact hw
  refine lv_aload_n hx hb d_L_law_1149 rfl (lv_at hl 3 rfl) ?_
  refine lv_aload_n hx hb d_L_law_1150 rfl (lv_at hl 1 rfl) ?_
  refine lv_iload hx hb d_L_law_1151 (lv_at hl 0 rfl) ?_
  refine lv_iconst (v := 1) hx hb d_L_law_1153 (by decide) ?_
  refine lv_iadd hx hb d_L_law_1154 ?_
  refine ga_asi (v := nI (ix + 1)) (nI_add ix 1) ?_
  refine la_sld hC hX hbl hw (by omega) hL d_L_law_1155 ?_
  refine lv_aload_n hx hb d_L_law_1156 rfl (lv_at hl 1 rfl) ?_
  refine lv_iload hx hb d_L_law_1157 (lv_at hl 0 rfl) ?_
  refine lv_iconst (v := 2) hx hb d_L_law_1159 (by decide) ?_
  refine lv_iadd hx hb d_L_law_1160 ?_
  refine ga_asi (v := nI (ix + 2)) (nI_add ix 2) ?_
  refine la_sld hC hX hbl hw (by omega) hL d_L_law_1161 ?_
  refine ga_ViR (As := [.int (xs (ix + 1)), .int (xs (ix + 2))]) (rest := [.int r]) hC hw (c_M_happened l k a y (xs (ix + 1)) (xs (ix + 2)) D hH.1.2.2.2 (by omega) hH.2.1 _) m_M_happened ml_L_135 (ga_recv (ga_subR hw) (q0 := 0) rfl rfl) rfl rfl ⟨Nat.le_of_ble_eq_true rfl, Nat.le_of_ble_eq_true rfl⟩ rfl hl.1 rfl (Nat.le_of_ble_eq_true rfl) d_L_law_1162 ⟨by show cs + 0 + 0 ≤ 601024; omega, by show ss + 0 + 0 ≤ 7293034; omega⟩ (fun r2 u2 H locs hp2 hw => ?_)
  have hso := so_happened h hc (by omega) (by omega) hp hp2
  refine lv_icmp_eq (tgt := 1319) hx hb d_L_law_1165 (by decide) (fun c_1165 => ?_) (fun c_1165 => ?_)
  · refine W.widen (k := cs + 8) (n := ss + 2100) (by omega) (by omega) ?_
    exact kx u u2 g H locs ls hso.1.2 hw (lv_sub hl [0, 1, 2, 3, 4] rfl)
  · exact absurd hso.2 c_1165

set_option maxHeartbeats 4000000 in
set_option maxRecDepth 100000 in
theorem lc_byteAt {p : Program} {l : Launch} {e : Env} {s : State} {m : MethodId} {below : List Frame} {meth : Method} {c : Code} {Q : State → Prop} {k : xa_k} {a : Nat → Nat} {o b L ix cc cs ss : Nat} {xs : Nat → Int32} {x : XS} {y : MS} {g : Nat → Int64} {H : Heap} {locs : List Loc} {ls : Array Slot} (hst : l.stackTraces = false) (hC : CallFix p m c code 7 s #[Value.ref b] ga_T "NetWiresLaw") (hX : va_X b L xs s s.heap) (hbl : b < s.heap.size) (hL : L ≤ 3072) (hix : ix + 6 ≤ L) (hsi : si k x y cc) (hcc : cc ≤ 511) (hcs : cs + 8 ≤ 601024) (hss : ss + 2100 ≤ 7293034)
    (kx : ∀ (x : XS) (y : MS) (g : Nat → Int64) (H : Heap) (locs : List Loc) (ls : Array Slot), si k x y (cc + 1) → ga_w (xa_K k) (la_W k o (g, x) ++ ma_W k a y) (fun q : Nat => s.heap.size ≤ q) s H locs → lv_has ls 7 [(4, .int (nI ix)), (0, .ref b), (1, .ref (xa_a k 0)), (2, .ref (a 0)), (3, .ref o)] → W p l e room_1 s m #[Value.ref b] below meth c H locs (cs + 8) (ss + 2100) Q (F0 m 1319 ls []))
    (hw : ga_w (xa_K k) (la_W k o (g, x) ++ ma_W k a y) (fun q : Nat => s.heap.size ≤ q) s H locs) (hl : lv_has ls 7 [(4, .int (nI ix)), (0, .ref b), (1, .ref (xa_a k 0)), (2, .ref (a 0)), (3, .ref o)]) : W p l e room_1 s m #[Value.ref b] below meth c H locs cs ss Q (F0 m 1170 ls []) := by
  obtain ⟨n, M, U, t, D, num, h, hc⟩ := hsi
  have hx := hC.1
  have hb := hC.2.1
  have hI := h.2.1
  have hS := h.2.2.2.2.1
  have hT := h.2.2.2.2.2.1
  have hH := h.2.2.2.2.2.2.2
  obtain ⟨al, af, hA1, hA2, hA3⟩ := h.2.2.2.2.2.2.1
  refine lv_aload_n hx hb d_L_law_1170 rfl (lv_at hl 2 rfl) ?_
  refine lv_aload_n hx hb d_L_law_1171 rfl (lv_at hl 1 rfl) ?_
  refine lv_iload hx hb d_L_law_1172 (lv_at hl 0 rfl) ?_
  refine lv_iconst (v := 1) hx hb d_L_law_1174 (by decide) ?_
  refine lv_iadd hx hb d_L_law_1175 ?_
  refine ga_asi (v := nI (ix + 1)) (nI_add ix 1) ?_
  refine la_sld hC hX hbl hw (by omega) hL d_L_law_1176 ?_
  refine lv_aload_n hx hb d_L_law_1177 rfl (lv_at hl 4 rfl) ?_
  refine ga_SwL (As := [.ref (xa_a k 0), .int (xs (ix + 1)), .ref o]) (rest := []) hC hw (c_L_byteAt l k hst x o g (xs (ix + 1)) al af hA1 (Nat.lt_of_le_of_lt hA2 (by decide)) _) m_L_byteAt ml_L_136 rfl rfl ⟨Nat.le_of_ble_eq_true rfl, Nat.le_of_ble_eq_true rfl⟩ rfl hl.1 rfl (Nat.le_of_ble_eq_true rfl) d_L_law_1178 ⟨by show cs + 1 ≤ 601024; omega, by show ss + 6 ≤ 7293034; omega⟩ (fun r u H locs hp hw => ?_)
  refine lv_istore (lv' := [(5, .int r), (4, .int (nI ix)), (0, .ref b), (1, .ref (xa_a k 0)), (2, .ref (a 0)), (3, .ref o)]) hx hb d_L_law_1181 hl (by decide) rfl (fun ls hl => ?_)
  refine lv_aload_n hx hb d_L_law_1183 rfl (lv_at hl 4 rfl) ?_
  refine lv_aload_n hx hb d_L_law_1184 rfl (lv_at hl 2 rfl) ?_
  refine lv_iload hx hb d_L_law_1185 (lv_at hl 1 rfl) ?_
  refine lv_iconst (v := 1) hx hb d_L_law_1187 (by decide) ?_
  refine lv_iadd hx hb d_L_law_1188 ?_
  refine ga_asi (v := nI (ix + 1)) (nI_add ix 1) ?_
  refine la_sld hC hX hbl hw (by omega) hL d_L_law_1189 ?_
  refine ga_ViR (As := [.int (xs (ix + 1))]) (rest := []) hC hw (c_M_byteAt l k a y (xs (ix + 1)) (h.hAr (by omega) (by omega)) _) m_M_byteAt ml_L_138 (ga_recv (ga_subR hw) (q0 := 0) rfl rfl) rfl rfl ⟨Nat.le_of_ble_eq_true rfl, Nat.le_of_ble_eq_true rfl⟩ rfl hl.1 rfl (Nat.le_of_ble_eq_true rfl) d_L_law_1190 ⟨by show cs + 1 + 0 ≤ 601024; omega, by show ss + 6 + 0 ≤ 7293034; omega⟩ (fun r2 u2 H locs hp2 hw => ?_)
  refine lv_istore (lv' := [(6, .int r2), (5, .int r), (4, .int (nI ix)), (0, .ref b), (1, .ref (xa_a k 0)), (2, .ref (a 0)), (3, .ref o)]) hx hb d_L_law_1193 hl (by decide) rfl (fun ls hl => ?_)
  refine lv_aload_n hx hb d_L_law_1195 rfl (lv_at hl 5 rfl) ?_
  refine ga_ViR (As := []) (rest := []) hC hw (c_M_thrown l k a u2 _) m_M_thrown ml_L_80 (ga_recv (ga_subR hw) (q0 := 0) rfl rfl) rfl rfl ⟨Nat.le_of_ble_eq_true rfl, Nat.le_of_ble_eq_true rfl⟩ rfl hl.1 rfl (Nat.le_of_ble_eq_true rfl) d_L_law_1196 ⟨by show cs + 1 + 0 + 0 ≤ 601024; omega, by show ss + 6 + 0 + 0 ≤ 7293034; omega⟩ (fun r3 u3 H locs hp3 hw => ?_)
  obtain ⟨rfl, rfl⟩ := hp3
  have hso := so_byteAt h hc (by omega) (by omega) hA3 hp hp2
  refine lv_iload hx hb d_L_law_1199 (lv_at hl 1 rfl) ?_
  refine lv_icmp_eq (tgt := 1206) hx hb d_L_law_1201 (by decide) (fun c_1201 => ?_) (fun c_1201 => ?_)
  · refine lv_iload hx hb d_L_law_1206 (lv_at hl 1 rfl) ?_
    refine lv_if_ne (tgt := 1223) hx hb d_L_law_1208 (by decide) (fun c_1208 => ?_) (fun c_1208 => ?_)
    · refine lv_goto (tgt := 1319) hx hb d_L_law_1223 (by decide) ?_
      refine W.widen (k := cs + 8) (n := ss + 2100) (by omega) (by omega) ?_
      exact kx u.2 u2 u.1 H locs ls hso.1.2 hw (lv_sub hl [2, 3, 4, 5, 6] rfl)
    · refine lv_aload_n hx hb d_L_law_1211 rfl (lv_at hl 6 rfl) ?_
      refine lv_iconst (v := 0) hx hb d_L_law_1212 (by decide) ?_
      refine la_get (x := u.2) (g := u.1) (o := o) (k := k) (ex := ma_W k a u2) hC hw d_L_law_1213 ?_
      refine lv_iload hx hb d_L_law_1214 (lv_at hl 0 rfl) ?_
      refine lv_i2l hx hb d_L_law_1216 rfl ?_
      refine W.lcmp hx hb d_L_law_1217 ?_
      refine lv_if_eq (tgt := 1223) hx hb d_L_law_1218 (by decide) (fun c_1218 => ?_) (fun c_1218 => ?_)
      · refine lv_goto (tgt := 1319) hx hb d_L_law_1223 (by decide) ?_
        refine W.widen (k := cs + 8) (n := ss + 2100) (by omega) (by omega) ?_
        exact kx u.2 u2 u.1 H locs ls hso.1.2 hw (lv_sub hl [2, 3, 4, 5, 6] rfl)
      · exact absurd (by rw [hso.2 c_1208]; exact lg_same _) c_1218
  · exact absurd hso.1.1 c_1201

set_option maxHeartbeats 4000000 in
set_option maxRecDepth 100000 in
theorem lc_when {p : Program} {l : Launch} {e : Env} {s : State} {m : MethodId} {below : List Frame} {meth : Method} {c : Code} {Q : State → Prop} {k : xa_k} {a : Nat → Nat} {o b L ix cc cs ss : Nat} {xs : Nat → Int32} {x : XS} {y : MS} {g : Nat → Int64} {H : Heap} {locs : List Loc} {ls : Array Slot} (hst : l.stackTraces = false) (hC : CallFix p m c code 7 s #[Value.ref b] ga_T "NetWiresLaw") (hX : va_X b L xs s s.heap) (hbl : b < s.heap.size) (hL : L ≤ 3072) (hix : ix + 6 ≤ L) (hsi : si k x y cc) (hcc : cc ≤ 511) (hcs : cs + 8 ≤ 601024) (hss : ss + 2100 ≤ 7293034)
    (kx : ∀ (x : XS) (y : MS) (g : Nat → Int64) (H : Heap) (locs : List Loc) (ls : Array Slot), si k x y (cc + 1) → ga_w (xa_K k) (la_W k o (g, x) ++ ma_W k a y) (fun q : Nat => s.heap.size ≤ q) s H locs → lv_has ls 7 [(4, .int (nI ix)), (0, .ref b), (1, .ref (xa_a k 0)), (2, .ref (a 0)), (3, .ref o)] → W p l e room_1 s m #[Value.ref b] below meth c H locs (cs + 8) (ss + 2100) Q (F0 m 1319 ls []))
    (hw : ga_w (xa_K k) (la_W k o (g, x) ++ ma_W k a y) (fun q : Nat => s.heap.size ≤ q) s H locs) (hl : lv_has ls 7 [(4, .int (nI ix)), (0, .ref b), (1, .ref (xa_a k 0)), (2, .ref (a 0)), (3, .ref o)]) : W p l e room_1 s m #[Value.ref b] below meth c H locs cs ss Q (F0 m 1226 ls []) := by
  obtain ⟨n, M, U, t, D, num, h, hc⟩ := hsi
  have hx := hC.1
  have hb := hC.2.1
  have hI := h.2.1
  have hS := h.2.2.2.2.1
  have hT := h.2.2.2.2.2.1
  have hH := h.2.2.2.2.2.2.2
  refine lv_aload_n hx hb d_L_law_1226 rfl (lv_at hl 2 rfl) ?_
  refine lv_aload_n hx hb d_L_law_1227 rfl (lv_at hl 1 rfl) ?_
  refine lv_iload hx hb d_L_law_1228 (lv_at hl 0 rfl) ?_
  refine lv_iconst (v := 1) hx hb d_L_law_1230 (by decide) ?_
  refine lv_iadd hx hb d_L_law_1231 ?_
  refine ga_asi (v := nI (ix + 1)) (nI_add ix 1) ?_
  refine la_sld hC hX hbl hw (by omega) hL d_L_law_1232 ?_
  refine lv_aload_n hx hb d_L_law_1233 rfl (lv_at hl 1 rfl) ?_
  refine lv_iload hx hb d_L_law_1234 (lv_at hl 0 rfl) ?_
  refine lv_iconst (v := 2) hx hb d_L_law_1236 (by decide) ?_
  refine lv_iadd hx hb d_L_law_1237 ?_
  refine ga_asi (v := nI (ix + 2)) (nI_add ix 2) ?_
  refine la_sld hC hX hbl hw (by omega) hL d_L_law_1238 ?_
  refine lv_aload_n hx hb d_L_law_1239 rfl (lv_at hl 4 rfl) ?_
  refine ga_SwL (As := [.ref (xa_a k 0), .int (xs (ix + 1)), .int (xs (ix + 2)), .ref o]) (rest := []) hC hw (c_L_when l k hst x o g (xs (ix + 1)) (xs (ix + 2)) n h.1 _) m_L_when ml_L_139 rfl rfl ⟨Nat.le_of_ble_eq_true rfl, Nat.le_of_ble_eq_true rfl⟩ rfl hl.1 rfl (Nat.le_of_ble_eq_true rfl) d_L_law_1240 ⟨by show cs + 2 ≤ 601024; omega, by show ss + 12 ≤ 7293034; omega⟩ (fun r u H locs hp hw => ?_)
  refine lv_istore (lv' := [(5, .int r), (4, .int (nI ix)), (0, .ref b), (1, .ref (xa_a k 0)), (2, .ref (a 0)), (3, .ref o)]) hx hb d_L_law_1243 hl (by decide) rfl (fun ls hl => ?_)
  refine lv_aload_n hx hb d_L_law_1245 rfl (lv_at hl 4 rfl) ?_
  refine lv_aload_n hx hb d_L_law_1246 rfl (lv_at hl 2 rfl) ?_
  refine lv_iload hx hb d_L_law_1247 (lv_at hl 1 rfl) ?_
  refine lv_iconst (v := 1) hx hb d_L_law_1249 (by decide) ?_
  refine lv_iadd hx hb d_L_law_1250 ?_
  refine ga_asi (v := nI (ix + 1)) (nI_add ix 1) ?_
  refine la_sld hC hX hbl hw (by omega) hL d_L_law_1251 ?_
  refine lv_aload_n hx hb d_L_law_1252 rfl (lv_at hl 2 rfl) ?_
  refine lv_iload hx hb d_L_law_1253 (lv_at hl 1 rfl) ?_
  refine lv_iconst (v := 2) hx hb d_L_law_1255 (by decide) ?_
  refine lv_iadd hx hb d_L_law_1256 ?_
  refine ga_asi (v := nI (ix + 2)) (nI_add ix 2) ?_
  refine la_sld hC hX hbl hw (by omega) hL d_L_law_1257 ?_
  refine ga_ViR (As := [.int (xs (ix + 1)), .int (xs (ix + 2))]) (rest := []) hC hw (c_M_when l k a y (xs (ix + 1)) (xs (ix + 2)) M hI.2.1 (by omega) _) m_M_when ml_L_141 (ga_recv (ga_subR hw) (q0 := 0) rfl rfl) rfl rfl ⟨Nat.le_of_ble_eq_true rfl, Nat.le_of_ble_eq_true rfl⟩ rfl hl.1 rfl (Nat.le_of_ble_eq_true rfl) d_L_law_1258 ⟨by show cs + 2 + 0 ≤ 601024; omega, by show ss + 12 + 0 ≤ 7293034; omega⟩ (fun r2 u2 H locs hp2 hw => ?_)
  refine lv_istore (lv' := [(6, .int r2), (5, .int r), (4, .int (nI ix)), (0, .ref b), (1, .ref (xa_a k 0)), (2, .ref (a 0)), (3, .ref o)]) hx hb d_L_law_1261 hl (by decide) rfl (fun ls hl => ?_)
  refine lv_aload_n hx hb d_L_law_1263 rfl (lv_at hl 5 rfl) ?_
  refine ga_ViR (As := []) (rest := []) hC hw (c_M_thrown l k a u2 _) m_M_thrown ml_L_80 (ga_recv (ga_subR hw) (q0 := 0) rfl rfl) rfl rfl ⟨Nat.le_of_ble_eq_true rfl, Nat.le_of_ble_eq_true rfl⟩ rfl hl.1 rfl (Nat.le_of_ble_eq_true rfl) d_L_law_1264 ⟨by show cs + 2 + 0 + 0 ≤ 601024; omega, by show ss + 12 + 0 + 0 ≤ 7293034; omega⟩ (fun r3 u3 H locs hp3 hw => ?_)
  obtain ⟨rfl, rfl⟩ := hp3
  have hso := so_when h hc hp hp2
  refine lv_iload hx hb d_L_law_1267 (lv_at hl 1 rfl) ?_
  refine lv_icmp_eq (tgt := 1274) hx hb d_L_law_1269 (by decide) (fun c_1269 => ?_) (fun c_1269 => ?_)
  · refine lv_iload hx hb d_L_law_1274 (lv_at hl 1 rfl) ?_
    refine lv_if_ne (tgt := 1291) hx hb d_L_law_1276 (by decide) (fun c_1276 => ?_) (fun c_1276 => ?_)
    · refine lv_goto (tgt := 1319) hx hb d_L_law_1291 (by decide) ?_
      refine W.widen (k := cs + 8) (n := ss + 2100) (by omega) (by omega) ?_
      exact kx u.2 u2 u.1 H locs ls hso.1.2 hw (lv_sub hl [2, 3, 4, 5, 6] rfl)
    · refine lv_aload_n hx hb d_L_law_1279 rfl (lv_at hl 6 rfl) ?_
      refine lv_iconst (v := 0) hx hb d_L_law_1280 (by decide) ?_
      refine la_get (x := u.2) (g := u.1) (o := o) (k := k) (ex := ma_W k a u2) hC hw d_L_law_1281 ?_
      refine lv_iload hx hb d_L_law_1282 (lv_at hl 0 rfl) ?_
      refine lv_i2l hx hb d_L_law_1284 rfl ?_
      refine W.lcmp hx hb d_L_law_1285 ?_
      refine lv_if_eq (tgt := 1291) hx hb d_L_law_1286 (by decide) (fun c_1286 => ?_) (fun c_1286 => ?_)
      · refine lv_goto (tgt := 1319) hx hb d_L_law_1291 (by decide) ?_
        refine W.widen (k := cs + 8) (n := ss + 2100) (by omega) (by omega) ?_
        exact kx u.2 u2 u.1 H locs ls hso.1.2 hw (lv_sub hl [2, 3, 4, 5, 6] rfl)
      · exact absurd (by rw [hso.2 c_1276]; exact lg_same _) c_1286
  · exact absurd hso.1.1 c_1269

set_option maxHeartbeats 4000000 in
set_option maxRecDepth 100000 in
theorem lc_count {p : Program} {l : Launch} {e : Env} {s : State} {m : MethodId} {below : List Frame} {meth : Method} {c : Code} {Q : State → Prop} {k : xa_k} {a : Nat → Nat} {o b L ix cc cs ss : Nat} {xs : Nat → Int32} {x : XS} {y : MS} {g : Nat → Int64} {H : Heap} {locs : List Loc} {ls : Array Slot} (hst : l.stackTraces = false) (hC : CallFix p m c code 7 s #[Value.ref b] ga_T "NetWiresLaw") (hX : va_X b L xs s s.heap) (hbl : b < s.heap.size) (hL : L ≤ 3072) (hix : ix + 6 ≤ L) (hsi : si k x y cc) (hcc : cc ≤ 511) (hcs : cs + 8 ≤ 601024) (hss : ss + 2100 ≤ 7293034)
    (kx : ∀ (x : XS) (y : MS) (g : Nat → Int64) (H : Heap) (locs : List Loc) (ls : Array Slot), si k x y (cc + 1) → ga_w (xa_K k) (la_W k o (g, x) ++ ma_W k a y) (fun q : Nat => s.heap.size ≤ q) s H locs → lv_has ls 7 [(4, .int (nI ix)), (0, .ref b), (1, .ref (xa_a k 0)), (2, .ref (a 0)), (3, .ref o)] → W p l e room_1 s m #[Value.ref b] below meth c H locs (cs + 8) (ss + 2100) Q (F0 m 1319 ls []))
    (hw : ga_w (xa_K k) (la_W k o (g, x) ++ ma_W k a y) (fun q : Nat => s.heap.size ≤ q) s H locs) (hl : lv_has ls 7 [(4, .int (nI ix)), (0, .ref b), (1, .ref (xa_a k 0)), (2, .ref (a 0)), (3, .ref o)]) : W p l e room_1 s m #[Value.ref b] below meth c H locs cs ss Q (F0 m 1294 ls []) := by
  obtain ⟨n, M, U, t, D, num, h, hc⟩ := hsi
  have hx := hC.1
  have hb := hC.2.1
  have hI := h.2.1
  have hS := h.2.2.2.2.1
  have hT := h.2.2.2.2.2.1
  have hH := h.2.2.2.2.2.2.2
  obtain ⟨al, af, hA1, hA2, hA3⟩ := h.2.2.2.2.2.2.1
  refine lv_aload_n hx hb d_L_law_1294 rfl (lv_at hl 2 rfl) ?_
  refine lv_aload_n hx hb d_L_law_1295 rfl (lv_at hl 1 rfl) ?_
  refine lv_iload hx hb d_L_law_1296 (lv_at hl 0 rfl) ?_
  refine lv_iconst (v := 1) hx hb d_L_law_1298 (by decide) ?_
  refine lv_iadd hx hb d_L_law_1299 ?_
  refine ga_asi (v := nI (ix + 1)) (nI_add ix 1) ?_
  refine la_sld hC hX hbl hw (by omega) hL d_L_law_1300 ?_
  have hw : ga_w (xa_K k) (xa_W k x ++ ([la_o k o g] ++ ma_W k a y)) (fun q : Nat => s.heap.size ≤ q) s H locs := by rw [← List.append_assoc]; exact hw
  refine ga_ViL (As := [.int (xs (ix + 1))]) (rest := []) hC hw (c_NetWires_count l k x (xs (ix + 1)) al af hA1 _) m_NetWires_count ml_L_142 (ga_recv (ga_subL hw) (q0 := 0) rfl rfl) rfl rfl ⟨Nat.le_of_ble_eq_true rfl, Nat.le_of_ble_eq_true rfl⟩ rfl hl.1 rfl (Nat.le_of_ble_eq_true rfl) d_L_law_1301 ⟨by show cs + 0 ≤ 601024; omega, by show ss + 0 ≤ 7293034; omega⟩ (fun r u H locs hp hw => ?_)
  have hw : ga_w (xa_K k) (la_W k o (g, u) ++ ma_W k a y) (fun q : Nat => s.heap.size ≤ q) s H locs := by rw [← List.append_assoc] at hw; exact hw
  refine lv_aload_n hx hb d_L_law_1304 rfl (lv_at hl 3 rfl) ?_
  refine lv_aload_n hx hb d_L_law_1305 rfl (lv_at hl 1 rfl) ?_
  refine lv_iload hx hb d_L_law_1306 (lv_at hl 0 rfl) ?_
  refine lv_iconst (v := 1) hx hb d_L_law_1308 (by decide) ?_
  refine lv_iadd hx hb d_L_law_1309 ?_
  refine ga_asi (v := nI (ix + 1)) (nI_add ix 1) ?_
  refine la_sld hC hX hbl hw (by omega) hL d_L_law_1310 ?_
  refine ga_ViR (As := [.int (xs (ix + 1))]) (rest := [.int r]) hC hw (c_M_count l k a y (xs (ix + 1)) (h.hAc (by omega)) _) m_M_count ml_L_145 (ga_recv (ga_subR hw) (q0 := 0) rfl rfl) rfl rfl ⟨Nat.le_of_ble_eq_true rfl, Nat.le_of_ble_eq_true rfl⟩ rfl hl.1 rfl (Nat.le_of_ble_eq_true rfl) d_L_law_1311 ⟨by show cs + 0 + 0 ≤ 601024; omega, by show ss + 0 + 0 ≤ 7293034; omega⟩ (fun r2 u2 H locs hp2 hw => ?_)
  have hso := so_count h hc (by omega) (hA3.imp id (fun ⟨e, _, q1, q2, q3, _⟩ => ⟨e, q1, q2, q3⟩)) hp hp2
  refine lv_icmp_eq (tgt := 1319) hx hb d_L_law_1314 (by decide) (fun c_1314 => ?_) (fun c_1314 => ?_)
  · refine W.widen (k := cs + 8) (n := ss + 2100) (by omega) (by omega) ?_
    exact kx u u2 g H locs ls hso.1.2 hw (lv_sub hl [0, 1, 2, 3, 4] rfl)
  · exact absurd hso.2 c_1314
