set_option maxHeartbeats 4000000 in
set_option maxRecDepth 100000 in
theorem lc_feed {p : Program} {l : Launch} {e : Env} {s : State} {m : MethodId} {below : List Frame} {meth : Method} {c : Code} {Q : State → Prop} {k : xa_k} {a : Nat → Nat} {o b L ix cc cs ss : Nat} {xs : Nat → Int32} {x : XS} {y : MS} {g : Nat → Int64} {H : Heap} {locs : List Loc} {ls : Array Slot} (hst : l.stackTraces = false) (hC : CallFix p m c code 7 s #[Value.ref b] ga_T "NetWiresLaw") (hX : va_X b L xs s s.heap) (hbl : b < s.heap.size) (hL : L ≤ 3072) (hix : ix + 6 ≤ L) (hsi : si k x y cc) (hcc : cc ≤ 511) (hcs : cs + 8 ≤ 601024) (hss : ss + 2100 ≤ 7293034)
    (kx : ∀ (x : XS) (y : MS) (g : Nat → Int64) (H : Heap) (locs : List Loc) (ls : Array Slot), si k x y (cc + 1) → ga_w (xa_K k) (la_W k o (g, x) ++ ma_W k a y) (fun q : Nat => s.heap.size ≤ q) s H locs → lv_has ls 7 [(4, .int (nI ix)), (0, .ref b), (1, .ref (xa_a k 0)), (2, .ref (a 0)), (3, .ref o)] → W p l e room_1 s m #[Value.ref b] below meth c H locs (cs + 8) (ss + 2100) Q (F0 m 1319 ls []))
    (hw : ga_w (xa_K k) (la_W k o (g, x) ++ ma_W k a y) (fun q : Nat => s.heap.size ≤ q) s H locs) (hl : lv_has ls 7 [(4, .int (nI ix)), (0, .ref b), (1, .ref (xa_a k 0)), (2, .ref (a 0)), (3, .ref o)]) : W p l e room_1 s m #[Value.ref b] below meth c H locs cs ss Q (F0 m 132 ls []) := by
  obtain ⟨n, M, U, t, D, num, h, hc⟩ := hsi
  have hx := hC.1
  have hb := hC.2.1
  have hI := h.2.1
  have hS := h.2.2.2.2.1
  have hT := h.2.2.2.2.2.1
  have hH := h.2.2.2.2.2.2.2
  refine lv_aload_n hx hb d_L_law_132 rfl (lv_at hl 2 rfl) ?_
  refine lv_aload_n hx hb d_L_law_133 rfl (lv_at hl 1 rfl) ?_
  refine lv_iload hx hb d_L_law_134 (lv_at hl 0 rfl) ?_
  refine lv_iconst (v := 1) hx hb d_L_law_136 (by decide) ?_
  refine lv_iadd hx hb d_L_law_137 ?_
  refine ga_asi (v := nI (ix + 1)) (nI_add ix 1) ?_
  refine la_sld hC hX hbl hw (by omega) hL d_L_law_138 ?_
  refine lv_i2l hx hb d_L_law_139 rfl ?_
  refine lv_bipush (v := 32) hx hb d_L_law_140 (by decide) ?_
  refine lv_lshl hx hb d_L_law_142 rfl ?_
  refine lv_aload_n hx hb d_L_law_143 rfl (lv_at hl 1 rfl) ?_
  refine lv_iload hx hb d_L_law_144 (lv_at hl 0 rfl) ?_
  refine lv_iconst (v := 2) hx hb d_L_law_146 (by decide) ?_
  refine lv_iadd hx hb d_L_law_147 ?_
  refine ga_asi (v := nI (ix + 2)) (nI_add ix 2) ?_
  refine la_sld hC hX hbl hw (by omega) hL d_L_law_148 ?_
  refine lv_i2l hx hb d_L_law_149 rfl ?_
  refine lv_ldc2 (v := 4294967295) hx hb hC.2.2.2.1 (hC.2.2.2.2 _ kc_L_72) d_L_law_150 ?_
  refine lv_land hx hb d_L_law_153 ?_
  refine lv_lor hx hb d_L_law_154 ?_
  refine lv_topl (fun e9 e_e9 => ?_)
  refine lv_aload_n hx hb d_L_law_155 rfl (lv_at hl 1 rfl) ?_
  refine lv_iload hx hb d_L_law_156 (lv_at hl 0 rfl) ?_
  refine lv_iconst (v := 3) hx hb d_L_law_158 (by decide) ?_
  refine lv_iadd hx hb d_L_law_159 ?_
  refine ga_asi (v := nI (ix + 3)) (nI_add ix 3) ?_
  refine la_sld hC hX hbl hw (by omega) hL d_L_law_160 ?_
  refine lv_aload_n hx hb d_L_law_161 rfl (lv_at hl 4 rfl) ?_
  refine ga_SwL (As := [.ref (xa_a k 0), .long e9, .int (xs (ix + 3)), .ref o]) (rest := []) hC hw (c_L_feed l k hst x o g e9 (xs (ix + 3)) t hT.1 hT.2.2.1 _) m_L_feed ml_L_74 rfl rfl ⟨Nat.le_of_ble_eq_true rfl, Nat.le_of_ble_eq_true rfl⟩ rfl hl.1 rfl (Nat.le_of_ble_eq_true rfl) d_L_law_162 ⟨by show cs + 1 ≤ 601024; omega, by show ss + 6 ≤ 7293034; omega⟩ (fun r u H locs hp hw => ?_)
  refine lv_istore (lv' := [(5, .int r), (4, .int (nI ix)), (0, .ref b), (1, .ref (xa_a k 0)), (2, .ref (a 0)), (3, .ref o)]) hx hb d_L_law_165 hl (by decide) rfl (fun ls hl => ?_)
  refine lv_aload_n hx hb d_L_law_167 rfl (lv_at hl 4 rfl) ?_
  refine lv_aload_n hx hb d_L_law_168 rfl (lv_at hl 2 rfl) ?_
  refine lv_iload hx hb d_L_law_169 (lv_at hl 1 rfl) ?_
  refine lv_iconst (v := 1) hx hb d_L_law_171 (by decide) ?_
  refine lv_iadd hx hb d_L_law_172 ?_
  refine ga_asi (v := nI (ix + 1)) (nI_add ix 1) ?_
  refine la_sld hC hX hbl hw (by omega) hL d_L_law_173 ?_
  refine lv_i2l hx hb d_L_law_174 rfl ?_
  refine lv_bipush (v := 32) hx hb d_L_law_175 (by decide) ?_
  refine lv_lshl hx hb d_L_law_177 rfl ?_
  refine lv_aload_n hx hb d_L_law_178 rfl (lv_at hl 2 rfl) ?_
  refine lv_iload hx hb d_L_law_179 (lv_at hl 1 rfl) ?_
  refine lv_iconst (v := 2) hx hb d_L_law_181 (by decide) ?_
  refine lv_iadd hx hb d_L_law_182 ?_
  refine ga_asi (v := nI (ix + 2)) (nI_add ix 2) ?_
  refine la_sld hC hX hbl hw (by omega) hL d_L_law_183 ?_
  refine lv_i2l hx hb d_L_law_184 rfl ?_
  refine lv_ldc2 (v := 4294967295) hx hb hC.2.2.2.1 (hC.2.2.2.2 _ kc_L_72) d_L_law_185 ?_
  refine lv_land hx hb d_L_law_188 ?_
  refine lv_lor hx hb d_L_law_189 ?_
  refine ga_asl (v := e9) (e_e9.symm) ?_
  refine lv_aload_n hx hb d_L_law_190 rfl (lv_at hl 2 rfl) ?_
  refine lv_iload hx hb d_L_law_191 (lv_at hl 1 rfl) ?_
  refine lv_iconst (v := 3) hx hb d_L_law_193 (by decide) ?_
  refine lv_iadd hx hb d_L_law_194 ?_
  refine ga_asi (v := nI (ix + 3)) (nI_add ix 3) ?_
  refine la_sld hC hX hbl hw (by omega) hL d_L_law_195 ?_
  refine ga_ViR (As := [.long e9, .int (xs (ix + 3))]) (rest := []) hC hw (c_M_feed l k a y e9 (xs (ix + 3)) t hT.2.1 hT.2.2.1 _) m_M_feed ml_L_79 (ga_recv (ga_subR hw) (q0 := 0) rfl rfl) rfl rfl ⟨Nat.le_of_ble_eq_true rfl, Nat.le_of_ble_eq_true rfl⟩ rfl hl.1 rfl (Nat.le_of_ble_eq_true rfl) d_L_law_196 ⟨by show cs + 1 + 0 ≤ 601024; omega, by show ss + 6 + 0 ≤ 7293034; omega⟩ (fun r2 u2 H locs hp2 hw => ?_)
  refine lv_istore (lv' := [(6, .int r2), (5, .int r), (4, .int (nI ix)), (0, .ref b), (1, .ref (xa_a k 0)), (2, .ref (a 0)), (3, .ref o)]) hx hb d_L_law_199 hl (by decide) rfl (fun ls hl => ?_)
  refine lv_aload_n hx hb d_L_law_201 rfl (lv_at hl 5 rfl) ?_
  refine ga_ViR (As := []) (rest := []) hC hw (c_M_thrown l k a u2 _) m_M_thrown ml_L_80 (ga_recv (ga_subR hw) (q0 := 0) rfl rfl) rfl rfl ⟨Nat.le_of_ble_eq_true rfl, Nat.le_of_ble_eq_true rfl⟩ rfl hl.1 rfl (Nat.le_of_ble_eq_true rfl) d_L_law_202 ⟨by show cs + 1 + 0 + 0 ≤ 601024; omega, by show ss + 6 + 0 + 0 ≤ 7293034; omega⟩ (fun r3 u3 H locs hp3 hw => ?_)
  obtain ⟨rfl, rfl⟩ := hp3
  have hso := so_feed h hc hp hp2
  refine lv_iload hx hb d_L_law_205 (lv_at hl 1 rfl) ?_
  refine lv_icmp_eq (tgt := 212) hx hb d_L_law_207 (by decide) (fun c_207 => ?_) (fun c_207 => ?_)
  · refine lv_iload hx hb d_L_law_212 (lv_at hl 1 rfl) ?_
    refine lv_if_ne (tgt := 229) hx hb d_L_law_214 (by decide) (fun c_214 => ?_) (fun c_214 => ?_)
    · refine lv_goto (tgt := 1319) hx hb d_L_law_229 (by decide) ?_
      refine W.widen (k := cs + 8) (n := ss + 2100) (by omega) (by omega) ?_
      exact kx u.2 u2 u.1 H locs ls hso.1.2 hw (lv_sub hl [2, 3, 4, 5, 6] rfl)
    · refine lv_aload_n hx hb d_L_law_217 rfl (lv_at hl 6 rfl) ?_
      refine lv_iconst (v := 0) hx hb d_L_law_218 (by decide) ?_
      refine la_get (x := u.2) (g := u.1) (o := o) (k := k) (ex := ma_W k a u2) hC hw d_L_law_219 ?_
      refine lv_iload hx hb d_L_law_220 (lv_at hl 0 rfl) ?_
      refine lv_i2l hx hb d_L_law_222 rfl ?_
      refine W.lcmp hx hb d_L_law_223 ?_
      refine lv_if_eq (tgt := 229) hx hb d_L_law_224 (by decide) (fun c_224 => ?_) (fun c_224 => ?_)
      · refine lv_goto (tgt := 1319) hx hb d_L_law_229 (by decide) ?_
        refine W.widen (k := cs + 8) (n := ss + 2100) (by omega) (by omega) ?_
        exact kx u.2 u2 u.1 H locs ls hso.1.2 hw (lv_sub hl [2, 3, 4, 5, 6] rfl)
      · exact absurd (by rw [hso.2 c_214]; exact lg_same _) c_224
  · exact absurd hso.1.1 c_207

set_option maxHeartbeats 4000000 in
set_option maxRecDepth 100000 in
theorem lc_send {p : Program} {l : Launch} {e : Env} {s : State} {m : MethodId} {below : List Frame} {meth : Method} {c : Code} {Q : State → Prop} {k : xa_k} {a : Nat → Nat} {o b L ix cc cs ss : Nat} {xs : Nat → Int32} {x : XS} {y : MS} {g : Nat → Int64} {H : Heap} {locs : List Loc} {ls : Array Slot} (hst : l.stackTraces = false) (hC : CallFix p m c code 7 s #[Value.ref b] ga_T "NetWiresLaw") (hX : va_X b L xs s s.heap) (hbl : b < s.heap.size) (hL : L ≤ 3072) (hix : ix + 6 ≤ L) (hsi : si k x y cc) (hcc : cc ≤ 511) (hcs : cs + 8 ≤ 601024) (hss : ss + 2100 ≤ 7293034)
    (kx : ∀ (x : XS) (y : MS) (g : Nat → Int64) (H : Heap) (locs : List Loc) (ls : Array Slot), si k x y (cc + 1) → ga_w (xa_K k) (la_W k o (g, x) ++ ma_W k a y) (fun q : Nat => s.heap.size ≤ q) s H locs → lv_has ls 7 [(4, .int (nI ix)), (0, .ref b), (1, .ref (xa_a k 0)), (2, .ref (a 0)), (3, .ref o)] → W p l e room_1 s m #[Value.ref b] below meth c H locs (cs + 8) (ss + 2100) Q (F0 m 1319 ls []))
    (hw : ga_w (xa_K k) (la_W k o (g, x) ++ ma_W k a y) (fun q : Nat => s.heap.size ≤ q) s H locs) (hl : lv_has ls 7 [(4, .int (nI ix)), (0, .ref b), (1, .ref (xa_a k 0)), (2, .ref (a 0)), (3, .ref o)]) : W p l e room_1 s m #[Value.ref b] below meth c H locs cs ss Q (F0 m 232 ls []) := by
  obtain ⟨n, M, U, t, D, num, h, hc⟩ := hsi
  have hx := hC.1
  have hb := hC.2.1
  have hI := h.2.1
  have hS := h.2.2.2.2.1
  have hT := h.2.2.2.2.2.1
  have hH := h.2.2.2.2.2.2.2
  obtain ⟨_, _, sp, _, _, hsp2, _, _, hsp⟩ := hS.2.2.1
  refine lv_aload_n hx hb d_L_law_232 rfl (lv_at hl 2 rfl) ?_
  refine lv_aload_n hx hb d_L_law_233 rfl (lv_at hl 1 rfl) ?_
  refine lv_iload hx hb d_L_law_234 (lv_at hl 0 rfl) ?_
  refine lv_iconst (v := 1) hx hb d_L_law_236 (by decide) ?_
  refine lv_iadd hx hb d_L_law_237 ?_
  refine ga_asi (v := nI (ix + 1)) (nI_add ix 1) ?_
  refine la_sld hC hX hbl hw (by omega) hL d_L_law_238 ?_
  refine lv_aload_n hx hb d_L_law_239 rfl (lv_at hl 1 rfl) ?_
  refine lv_iload hx hb d_L_law_240 (lv_at hl 0 rfl) ?_
  refine lv_iconst (v := 2) hx hb d_L_law_242 (by decide) ?_
  refine lv_iadd hx hb d_L_law_243 ?_
  refine ga_asi (v := nI (ix + 2)) (nI_add ix 2) ?_
  refine la_sld hC hX hbl hw (by omega) hL d_L_law_244 ?_
  refine lv_aload_n hx hb d_L_law_245 rfl (lv_at hl 4 rfl) ?_
  refine ga_SwL (As := [.ref (xa_a k 0), .int (xs (ix + 1)), .int (xs (ix + 2)), .ref o]) (rest := []) hC hw (c_L_send l k hst x o g (xs (ix + 1)) (xs (ix + 2)) n t sp h.1 hT.1 hT.2.2.1 hT.2.2.2.1 hsp hsp2 h.rm1 h.rm2 _) m_L_send ml_L_84 rfl rfl ⟨Nat.le_of_ble_eq_true rfl, Nat.le_of_ble_eq_true rfl⟩ rfl hl.1 rfl (Nat.le_of_ble_eq_true rfl) d_L_law_246 ⟨by show cs + 5 ≤ 601024; omega, by show ss + 2072 ≤ 7293034; omega⟩ (fun r u H locs hp hw => ?_)
  refine lv_istore (lv' := [(5, .int r), (4, .int (nI ix)), (0, .ref b), (1, .ref (xa_a k 0)), (2, .ref (a 0)), (3, .ref o)]) hx hb d_L_law_249 hl (by decide) rfl (fun ls hl => ?_)
  refine lv_aload_n hx hb d_L_law_251 rfl (lv_at hl 4 rfl) ?_
  refine lv_aload_n hx hb d_L_law_252 rfl (lv_at hl 2 rfl) ?_
  refine lv_iload hx hb d_L_law_253 (lv_at hl 1 rfl) ?_
  refine lv_iconst (v := 1) hx hb d_L_law_255 (by decide) ?_
  refine lv_iadd hx hb d_L_law_256 ?_
  refine ga_asi (v := nI (ix + 1)) (nI_add ix 1) ?_
  refine la_sld hC hX hbl hw (by omega) hL d_L_law_257 ?_
  refine lv_aload_n hx hb d_L_law_258 rfl (lv_at hl 2 rfl) ?_
  refine lv_iload hx hb d_L_law_259 (lv_at hl 1 rfl) ?_
  refine lv_iconst (v := 2) hx hb d_L_law_261 (by decide) ?_
  refine lv_iadd hx hb d_L_law_262 ?_
  refine ga_asi (v := nI (ix + 2)) (nI_add ix 2) ?_
  refine la_sld hC hX hbl hw (by omega) hL d_L_law_263 ?_
  refine ga_ViR (As := [.int (xs (ix + 1)), .int (xs (ix + 2))]) (rest := []) hC hw (c_M_send l k a y (xs (ix + 1)) (xs (ix + 2)) M U t sp hI.2.1 (by omega) hI.2.2 hT.2.1 hT.2.2.1 (by omega) (hS.2.1.2.2.1.symm.trans hsp) hsp2 _) m_M_send ml_L_87 (ga_recv (ga_subR hw) (q0 := 0) rfl rfl) rfl rfl ⟨Nat.le_of_ble_eq_true rfl, Nat.le_of_ble_eq_true rfl⟩ rfl hl.1 rfl (Nat.le_of_ble_eq_true rfl) d_L_law_264 ⟨by show cs + 5 + 0 ≤ 601024; omega, by show ss + 2072 + 0 ≤ 7293034; omega⟩ (fun r2 u2 H locs hp2 hw => ?_)
  refine lv_istore (lv' := [(6, .int r2), (5, .int r), (4, .int (nI ix)), (0, .ref b), (1, .ref (xa_a k 0)), (2, .ref (a 0)), (3, .ref o)]) hx hb d_L_law_267 hl (by decide) rfl (fun ls hl => ?_)
  refine lv_aload_n hx hb d_L_law_269 rfl (lv_at hl 5 rfl) ?_
  refine ga_ViR (As := []) (rest := []) hC hw (c_M_thrown l k a u2 _) m_M_thrown ml_L_80 (ga_recv (ga_subR hw) (q0 := 0) rfl rfl) rfl rfl ⟨Nat.le_of_ble_eq_true rfl, Nat.le_of_ble_eq_true rfl⟩ rfl hl.1 rfl (Nat.le_of_ble_eq_true rfl) d_L_law_270 ⟨by show cs + 5 + 0 + 0 ≤ 601024; omega, by show ss + 2072 + 0 + 0 ≤ 7293034; omega⟩ (fun r3 u3 H locs hp3 hw => ?_)
  obtain ⟨rfl, rfl⟩ := hp3
  have hso := so_send h hc hp hp2
  refine lv_iload hx hb d_L_law_273 (lv_at hl 1 rfl) ?_
  refine lv_icmp_eq (tgt := 280) hx hb d_L_law_275 (by decide) (fun c_275 => ?_) (fun c_275 => ?_)
  · refine lv_iload hx hb d_L_law_280 (lv_at hl 1 rfl) ?_
    refine lv_if_ne (tgt := 297) hx hb d_L_law_282 (by decide) (fun c_282 => ?_) (fun c_282 => ?_)
    · refine lv_goto (tgt := 1319) hx hb d_L_law_297 (by decide) ?_
      refine W.widen (k := cs + 8) (n := ss + 2100) (by omega) (by omega) ?_
      exact kx u.2 u2 u.1 H locs ls hso.1.2 hw (lv_sub hl [2, 3, 4, 5, 6] rfl)
    · refine lv_aload_n hx hb d_L_law_285 rfl (lv_at hl 6 rfl) ?_
      refine lv_iconst (v := 0) hx hb d_L_law_286 (by decide) ?_
      refine la_get (x := u.2) (g := u.1) (o := o) (k := k) (ex := ma_W k a u2) hC hw d_L_law_287 ?_
      refine lv_iload hx hb d_L_law_288 (lv_at hl 0 rfl) ?_
      refine lv_i2l hx hb d_L_law_290 rfl ?_
      refine W.lcmp hx hb d_L_law_291 ?_
      refine lv_if_eq (tgt := 297) hx hb d_L_law_292 (by decide) (fun c_292 => ?_) (fun c_292 => ?_)
      · refine lv_goto (tgt := 1319) hx hb d_L_law_297 (by decide) ?_
        refine W.widen (k := cs + 8) (n := ss + 2100) (by omega) (by omega) ?_
        exact kx u.2 u2 u.1 H locs ls hso.1.2 hw (lv_sub hl [2, 3, 4, 5, 6] rfl)
      · exact absurd (by rw [hso.2 c_282]; exact lg_same _) c_292
  · exact absurd hso.1.1 c_275

set_option maxHeartbeats 4000000 in
set_option maxRecDepth 100000 in
theorem lc_alarm {p : Program} {l : Launch} {e : Env} {s : State} {m : MethodId} {below : List Frame} {meth : Method} {c : Code} {Q : State → Prop} {k : xa_k} {a : Nat → Nat} {o b L ix cc cs ss : Nat} {xs : Nat → Int32} {x : XS} {y : MS} {g : Nat → Int64} {H : Heap} {locs : List Loc} {ls : Array Slot} (hst : l.stackTraces = false) (hC : CallFix p m c code 7 s #[Value.ref b] ga_T "NetWiresLaw") (hX : va_X b L xs s s.heap) (hbl : b < s.heap.size) (hL : L ≤ 3072) (hix : ix + 6 ≤ L) (hsi : si k x y cc) (hcc : cc ≤ 511) (hcs : cs + 8 ≤ 601024) (hss : ss + 2100 ≤ 7293034)
    (kx : ∀ (x : XS) (y : MS) (g : Nat → Int64) (H : Heap) (locs : List Loc) (ls : Array Slot), si k x y (cc + 1) → ga_w (xa_K k) (la_W k o (g, x) ++ ma_W k a y) (fun q : Nat => s.heap.size ≤ q) s H locs → lv_has ls 7 [(4, .int (nI ix)), (0, .ref b), (1, .ref (xa_a k 0)), (2, .ref (a 0)), (3, .ref o)] → W p l e room_1 s m #[Value.ref b] below meth c H locs (cs + 8) (ss + 2100) Q (F0 m 1319 ls []))
    (hw : ga_w (xa_K k) (la_W k o (g, x) ++ ma_W k a y) (fun q : Nat => s.heap.size ≤ q) s H locs) (hl : lv_has ls 7 [(4, .int (nI ix)), (0, .ref b), (1, .ref (xa_a k 0)), (2, .ref (a 0)), (3, .ref o)]) : W p l e room_1 s m #[Value.ref b] below meth c H locs cs ss Q (F0 m 300 ls []) := by
  obtain ⟨n, M, U, t, D, num, h, hc⟩ := hsi
  have hx := hC.1
  have hb := hC.2.1
  have hI := h.2.1
  have hS := h.2.2.2.2.1
  have hT := h.2.2.2.2.2.1
  have hH := h.2.2.2.2.2.2.2
  refine lv_aload_n hx hb d_L_law_300 rfl (lv_at hl 2 rfl) ?_
  refine lv_aload_n hx hb d_L_law_301 rfl (lv_at hl 1 rfl) ?_
  refine lv_iload hx hb d_L_law_302 (lv_at hl 0 rfl) ?_
  refine lv_iconst (v := 1) hx hb d_L_law_304 (by decide) ?_
  refine lv_iadd hx hb d_L_law_305 ?_
  refine ga_asi (v := nI (ix + 1)) (nI_add ix 1) ?_
  refine la_sld hC hX hbl hw (by omega) hL d_L_law_306 ?_
  refine lv_aload_n hx hb d_L_law_307 rfl (lv_at hl 1 rfl) ?_
  refine lv_iload hx hb d_L_law_308 (lv_at hl 0 rfl) ?_
  refine lv_iconst (v := 2) hx hb d_L_law_310 (by decide) ?_
  refine lv_iadd hx hb d_L_law_311 ?_
  refine ga_asi (v := nI (ix + 2)) (nI_add ix 2) ?_
  refine la_sld hC hX hbl hw (by omega) hL d_L_law_312 ?_
  refine lv_aload_n hx hb d_L_law_313 rfl (lv_at hl 4 rfl) ?_
  refine ga_SwL (As := [.ref (xa_a k 0), .int (xs (ix + 1)), .int (xs (ix + 2)), .ref o]) (rest := []) hC hw (c_L_alarm l k hst x o g (xs (ix + 1)) (xs (ix + 2)) n h.1 (fun o1 o2 hno => h.rm3 (s := 0) (by decide) rfl ⟨o1, o2⟩ hno) _) m_L_alarm ml_L_88 rfl rfl ⟨Nat.le_of_ble_eq_true rfl, Nat.le_of_ble_eq_true rfl⟩ rfl hl.1 rfl (Nat.le_of_ble_eq_true rfl) d_L_law_314 ⟨by show cs + 3 ≤ 601024; omega, by show ss + 18 ≤ 7293034; omega⟩ (fun r u H locs hp hw => ?_)
  refine lv_istore (lv' := [(5, .int r), (4, .int (nI ix)), (0, .ref b), (1, .ref (xa_a k 0)), (2, .ref (a 0)), (3, .ref o)]) hx hb d_L_law_317 hl (by decide) rfl (fun ls hl => ?_)
  refine lv_aload_n hx hb d_L_law_319 rfl (lv_at hl 4 rfl) ?_
  refine lv_aload_n hx hb d_L_law_320 rfl (lv_at hl 2 rfl) ?_
  refine lv_iload hx hb d_L_law_321 (lv_at hl 1 rfl) ?_
  refine lv_iconst (v := 1) hx hb d_L_law_323 (by decide) ?_
  refine lv_iadd hx hb d_L_law_324 ?_
  refine ga_asi (v := nI (ix + 1)) (nI_add ix 1) ?_
  refine la_sld hC hX hbl hw (by omega) hL d_L_law_325 ?_
  refine lv_aload_n hx hb d_L_law_326 rfl (lv_at hl 2 rfl) ?_
  refine lv_iload hx hb d_L_law_327 (lv_at hl 1 rfl) ?_
  refine lv_iconst (v := 2) hx hb d_L_law_329 (by decide) ?_
  refine lv_iadd hx hb d_L_law_330 ?_
  refine ga_asi (v := nI (ix + 2)) (nI_add ix 2) ?_
  refine la_sld hC hX hbl hw (by omega) hL d_L_law_331 ?_
  refine ga_ViR (As := [.int (xs (ix + 1)), .int (xs (ix + 2))]) (rest := []) hC hw (c_M_alarm l k a y (xs (ix + 1)) (xs (ix + 2)) M hI.2.1 (by omega) _) m_M_alarm ml_L_90 (ga_recv (ga_subR hw) (q0 := 0) rfl rfl) rfl rfl ⟨Nat.le_of_ble_eq_true rfl, Nat.le_of_ble_eq_true rfl⟩ rfl hl.1 rfl (Nat.le_of_ble_eq_true rfl) d_L_law_332 ⟨by show cs + 3 + 0 ≤ 601024; omega, by show ss + 18 + 0 ≤ 7293034; omega⟩ (fun r2 u2 H locs hp2 hw => ?_)
  refine lv_istore (lv' := [(6, .int r2), (5, .int r), (4, .int (nI ix)), (0, .ref b), (1, .ref (xa_a k 0)), (2, .ref (a 0)), (3, .ref o)]) hx hb d_L_law_335 hl (by decide) rfl (fun ls hl => ?_)
  refine lv_aload_n hx hb d_L_law_337 rfl (lv_at hl 5 rfl) ?_
  refine ga_ViR (As := []) (rest := []) hC hw (c_M_thrown l k a u2 _) m_M_thrown ml_L_80 (ga_recv (ga_subR hw) (q0 := 0) rfl rfl) rfl rfl ⟨Nat.le_of_ble_eq_true rfl, Nat.le_of_ble_eq_true rfl⟩ rfl hl.1 rfl (Nat.le_of_ble_eq_true rfl) d_L_law_338 ⟨by show cs + 3 + 0 + 0 ≤ 601024; omega, by show ss + 18 + 0 + 0 ≤ 7293034; omega⟩ (fun r3 u3 H locs hp3 hw => ?_)
  obtain ⟨rfl, rfl⟩ := hp3
  have hso := so_alarm h hc hp hp2
  refine lv_iload hx hb d_L_law_341 (lv_at hl 1 rfl) ?_
  refine lv_icmp_eq (tgt := 348) hx hb d_L_law_343 (by decide) (fun c_343 => ?_) (fun c_343 => ?_)
  · refine lv_iload hx hb d_L_law_348 (lv_at hl 1 rfl) ?_
    refine lv_if_ne (tgt := 372) hx hb d_L_law_350 (by decide) (fun c_350 => ?_) (fun c_350 => ?_)
    · refine lv_goto (tgt := 1319) hx hb d_L_law_372 (by decide) ?_
      refine W.widen (k := cs + 8) (n := ss + 2100) (by omega) (by omega) ?_
      exact kx u.2 u2 u.1 H locs ls hso.1.2 hw (lv_sub hl [2, 3, 4, 5, 6] rfl)
    · refine lv_aload_n hx hb d_L_law_353 rfl (lv_at hl 6 rfl) ?_
      refine lv_iconst (v := 0) hx hb d_L_law_354 (by decide) ?_
      refine la_get (x := u.2) (g := u.1) (o := o) (k := k) (ex := ma_W k a u2) hC hw d_L_law_355 ?_
      refine lv_iload hx hb d_L_law_356 (lv_at hl 0 rfl) ?_
      refine lv_if_eq (tgt := 365) hx hb d_L_law_358 (by decide) (fun c_358 => ?_) (fun c_358 => ?_)
      · refine lv_lconst (v := 0) hx hb d_L_law_365 (by decide) ?_
        refine W.lcmp hx hb d_L_law_366 ?_
        refine lv_if_eq (tgt := 372) hx hb d_L_law_367 (by decide) (fun c_367 => ?_) (fun c_367 => ?_)
        · refine lv_goto (tgt := 1319) hx hb d_L_law_372 (by decide) ?_
          refine W.widen (k := cs + 8) (n := ss + 2100) (by omega) (by omega) ?_
          exact kx u.2 u2 u.1 H locs ls hso.1.2 hw (lv_sub hl [2, 3, 4, 5, 6] rfl)
        · exact absurd (by rw [hso.2 c_350, if_pos c_358]; exact lg_same _) c_367
      · refine lv_lconst (v := 1) hx hb d_L_law_361 (by decide) ?_
        refine lv_goto (tgt := 366) hx hb d_L_law_362 (by decide) ?_
        refine W.lcmp hx hb d_L_law_366 ?_
        refine lv_if_eq (tgt := 372) hx hb d_L_law_367 (by decide) (fun c_367 => ?_) (fun c_367 => ?_)
        · refine lv_goto (tgt := 1319) hx hb d_L_law_372 (by decide) ?_
          refine W.widen (k := cs + 8) (n := ss + 2100) (by omega) (by omega) ?_
          exact kx u.2 u2 u.1 H locs ls hso.1.2 hw (lv_sub hl [2, 3, 4, 5, 6] rfl)
        · exact absurd (by rw [hso.2 c_350, if_neg c_358]; exact lg_same _) c_367
  · exact absurd hso.1.1 c_343

set_option maxHeartbeats 4000000 in
set_option maxRecDepth 100000 in
theorem lc_noAlarm {p : Program} {l : Launch} {e : Env} {s : State} {m : MethodId} {below : List Frame} {meth : Method} {c : Code} {Q : State → Prop} {k : xa_k} {a : Nat → Nat} {o b L ix cc cs ss : Nat} {xs : Nat → Int32} {x : XS} {y : MS} {g : Nat → Int64} {H : Heap} {locs : List Loc} {ls : Array Slot} (hst : l.stackTraces = false) (hC : CallFix p m c code 7 s #[Value.ref b] ga_T "NetWiresLaw") (hX : va_X b L xs s s.heap) (hbl : b < s.heap.size) (hL : L ≤ 3072) (hix : ix + 6 ≤ L) (hsi : si k x y cc) (hcc : cc ≤ 511) (hcs : cs + 8 ≤ 601024) (hss : ss + 2100 ≤ 7293034)
    (kx : ∀ (x : XS) (y : MS) (g : Nat → Int64) (H : Heap) (locs : List Loc) (ls : Array Slot), si k x y (cc + 1) → ga_w (xa_K k) (la_W k o (g, x) ++ ma_W k a y) (fun q : Nat => s.heap.size ≤ q) s H locs → lv_has ls 7 [(4, .int (nI ix)), (0, .ref b), (1, .ref (xa_a k 0)), (2, .ref (a 0)), (3, .ref o)] → W p l e room_1 s m #[Value.ref b] below meth c H locs (cs + 8) (ss + 2100) Q (F0 m 1319 ls []))
    (hw : ga_w (xa_K k) (la_W k o (g, x) ++ ma_W k a y) (fun q : Nat => s.heap.size ≤ q) s H locs) (hl : lv_has ls 7 [(4, .int (nI ix)), (0, .ref b), (1, .ref (xa_a k 0)), (2, .ref (a 0)), (3, .ref o)]) : W p l e room_1 s m #[Value.ref b] below meth c H locs cs ss Q (F0 m 375 ls []) := by
  obtain ⟨n, M, U, t, D, num, h, hc⟩ := hsi
  have hx := hC.1
  have hb := hC.2.1
  have hI := h.2.1
  have hS := h.2.2.2.2.1
  have hT := h.2.2.2.2.2.1
  have hH := h.2.2.2.2.2.2.2
  refine lv_aload_n hx hb d_L_law_375 rfl (lv_at hl 2 rfl) ?_
  refine lv_aload_n hx hb d_L_law_376 rfl (lv_at hl 1 rfl) ?_
  refine lv_iload hx hb d_L_law_377 (lv_at hl 0 rfl) ?_
  refine lv_iconst (v := 1) hx hb d_L_law_379 (by decide) ?_
  refine lv_iadd hx hb d_L_law_380 ?_
  refine ga_asi (v := nI (ix + 1)) (nI_add ix 1) ?_
  refine la_sld hC hX hbl hw (by omega) hL d_L_law_381 ?_
  refine lv_aload_n hx hb d_L_law_382 rfl (lv_at hl 4 rfl) ?_
  refine ga_SwL (As := [.ref (xa_a k 0), .int (xs (ix + 1)), .ref o]) (rest := []) hC hw (c_L_noAlarm l k hst x o g (xs (ix + 1)) n h.1 _) m_L_noAlarm ml_L_91 rfl rfl ⟨Nat.le_of_ble_eq_true rfl, Nat.le_of_ble_eq_true rfl⟩ rfl hl.1 rfl (Nat.le_of_ble_eq_true rfl) d_L_law_383 ⟨by show cs + 1 ≤ 601024; omega, by show ss + 6 ≤ 7293034; omega⟩ (fun r u H locs hp hw => ?_)
  refine lv_istore (lv' := [(5, .int r), (4, .int (nI ix)), (0, .ref b), (1, .ref (xa_a k 0)), (2, .ref (a 0)), (3, .ref o)]) hx hb d_L_law_386 hl (by decide) rfl (fun ls hl => ?_)
  refine lv_aload_n hx hb d_L_law_388 rfl (lv_at hl 4 rfl) ?_
  refine lv_aload_n hx hb d_L_law_389 rfl (lv_at hl 2 rfl) ?_
  refine lv_iload hx hb d_L_law_390 (lv_at hl 1 rfl) ?_
  refine lv_iconst (v := 1) hx hb d_L_law_392 (by decide) ?_
  refine lv_iadd hx hb d_L_law_393 ?_
  refine ga_asi (v := nI (ix + 1)) (nI_add ix 1) ?_
  refine la_sld hC hX hbl hw (by omega) hL d_L_law_394 ?_
  refine ga_ViR (As := [.int (xs (ix + 1))]) (rest := []) hC hw (c_M_noAlarm l k a y (xs (ix + 1)) M hI.2.1 (by omega) _) m_M_noAlarm ml_L_94 (ga_recv (ga_subR hw) (q0 := 0) rfl rfl) rfl rfl ⟨Nat.le_of_ble_eq_true rfl, Nat.le_of_ble_eq_true rfl⟩ rfl hl.1 rfl (Nat.le_of_ble_eq_true rfl) d_L_law_395 ⟨by show cs + 1 + 0 ≤ 601024; omega, by show ss + 6 + 0 ≤ 7293034; omega⟩ (fun r2 u2 H locs hp2 hw => ?_)
  refine lv_istore (lv' := [(6, .int r2), (5, .int r), (4, .int (nI ix)), (0, .ref b), (1, .ref (xa_a k 0)), (2, .ref (a 0)), (3, .ref o)]) hx hb d_L_law_398 hl (by decide) rfl (fun ls hl => ?_)
  refine lv_aload_n hx hb d_L_law_400 rfl (lv_at hl 5 rfl) ?_
  refine ga_ViR (As := []) (rest := []) hC hw (c_M_thrown l k a u2 _) m_M_thrown ml_L_80 (ga_recv (ga_subR hw) (q0 := 0) rfl rfl) rfl rfl ⟨Nat.le_of_ble_eq_true rfl, Nat.le_of_ble_eq_true rfl⟩ rfl hl.1 rfl (Nat.le_of_ble_eq_true rfl) d_L_law_401 ⟨by show cs + 1 + 0 + 0 ≤ 601024; omega, by show ss + 6 + 0 + 0 ≤ 7293034; omega⟩ (fun r3 u3 H locs hp3 hw => ?_)
  obtain ⟨rfl, rfl⟩ := hp3
  have hso := so_noAlarm h hc hp hp2
  refine lv_iload hx hb d_L_law_404 (lv_at hl 1 rfl) ?_
  refine lv_icmp_eq (tgt := 411) hx hb d_L_law_406 (by decide) (fun c_406 => ?_) (fun c_406 => ?_)
  · refine lv_iload hx hb d_L_law_411 (lv_at hl 1 rfl) ?_
    refine lv_if_ne (tgt := 435) hx hb d_L_law_413 (by decide) (fun c_413 => ?_) (fun c_413 => ?_)
    · refine lv_goto (tgt := 1319) hx hb d_L_law_435 (by decide) ?_
      refine W.widen (k := cs + 8) (n := ss + 2100) (by omega) (by omega) ?_
      exact kx u.2 u2 u.1 H locs ls hso.1.2 hw (lv_sub hl [2, 3, 4, 5, 6] rfl)
    · refine lv_aload_n hx hb d_L_law_416 rfl (lv_at hl 6 rfl) ?_
      refine lv_iconst (v := 0) hx hb d_L_law_417 (by decide) ?_
      refine la_get (x := u.2) (g := u.1) (o := o) (k := k) (ex := ma_W k a u2) hC hw d_L_law_418 ?_
      refine lv_iload hx hb d_L_law_419 (lv_at hl 0 rfl) ?_
      refine lv_if_eq (tgt := 428) hx hb d_L_law_421 (by decide) (fun c_421 => ?_) (fun c_421 => ?_)
      · refine lv_lconst (v := 0) hx hb d_L_law_428 (by decide) ?_
        refine W.lcmp hx hb d_L_law_429 ?_
        refine lv_if_eq (tgt := 435) hx hb d_L_law_430 (by decide) (fun c_430 => ?_) (fun c_430 => ?_)
        · refine lv_goto (tgt := 1319) hx hb d_L_law_435 (by decide) ?_
          refine W.widen (k := cs + 8) (n := ss + 2100) (by omega) (by omega) ?_
          exact kx u.2 u2 u.1 H locs ls hso.1.2 hw (lv_sub hl [2, 3, 4, 5, 6] rfl)
        · exact absurd (by rw [hso.2 c_413, if_pos c_421]; exact lg_same _) c_430
      · refine lv_lconst (v := 1) hx hb d_L_law_424 (by decide) ?_
        refine lv_goto (tgt := 429) hx hb d_L_law_425 (by decide) ?_
        refine W.lcmp hx hb d_L_law_429 ?_
        refine lv_if_eq (tgt := 435) hx hb d_L_law_430 (by decide) (fun c_430 => ?_) (fun c_430 => ?_)
        · refine lv_goto (tgt := 1319) hx hb d_L_law_435 (by decide) ?_
          refine W.widen (k := cs + 8) (n := ss + 2100) (by omega) (by omega) ?_
          exact kx u.2 u2 u.1 H locs ls hso.1.2 hw (lv_sub hl [2, 3, 4, 5, 6] rfl)
        · exact absurd (by rw [hso.2 c_413, if_neg c_421]; exact lg_same _) c_430
  · exact absurd hso.1.1 c_406

set_option maxHeartbeats 4000000 in
set_option maxRecDepth 100000 in
theorem lc_sync {p : Program} {l : Launch} {e : Env} {s : State} {m : MethodId} {below : List Frame} {meth : Method} {c : Code} {Q : State → Prop} {k : xa_k} {a : Nat → Nat} {o b L ix cc cs ss : Nat} {xs : Nat → Int32} {x : XS} {y : MS} {g : Nat → Int64} {H : Heap} {locs : List Loc} {ls : Array Slot} (hst : l.stackTraces = false) (hC : CallFix p m c code 7 s #[Value.ref b] ga_T "NetWiresLaw") (hX : va_X b L xs s s.heap) (hbl : b < s.heap.size) (hL : L ≤ 3072) (hix : ix + 6 ≤ L) (hsi : si k x y cc) (hcc : cc ≤ 511) (hcs : cs + 8 ≤ 601024) (hss : ss + 2100 ≤ 7293034)
    (kx : ∀ (x : XS) (y : MS) (g : Nat → Int64) (H : Heap) (locs : List Loc) (ls : Array Slot), si k x y (cc + 1) → ga_w (xa_K k) (la_W k o (g, x) ++ ma_W k a y) (fun q : Nat => s.heap.size ≤ q) s H locs → lv_has ls 7 [(4, .int (nI ix)), (0, .ref b), (1, .ref (xa_a k 0)), (2, .ref (a 0)), (3, .ref o)] → W p l e room_1 s m #[Value.ref b] below meth c H locs (cs + 8) (ss + 2100) Q (F0 m 1319 ls []))
    (hw : ga_w (xa_K k) (la_W k o (g, x) ++ ma_W k a y) (fun q : Nat => s.heap.size ≤ q) s H locs) (hl : lv_has ls 7 [(4, .int (nI ix)), (0, .ref b), (1, .ref (xa_a k 0)), (2, .ref (a 0)), (3, .ref o)]) : W p l e room_1 s m #[Value.ref b] below meth c H locs cs ss Q (F0 m 438 ls []) := by
  obtain ⟨n, M, U, t, D, num, h, hc⟩ := hsi
  have hx := hC.1
  have hb := hC.2.1
  have hI := h.2.1
  have hS := h.2.2.2.2.1
  have hT := h.2.2.2.2.2.1
  have hH := h.2.2.2.2.2.2.2
  refine lv_aload_n hx hb d_L_law_438 rfl (lv_at hl 2 rfl) ?_
  refine lv_aload_n hx hb d_L_law_439 rfl (lv_at hl 1 rfl) ?_
  refine lv_iload hx hb d_L_law_440 (lv_at hl 0 rfl) ?_
  refine lv_iconst (v := 1) hx hb d_L_law_442 (by decide) ?_
  refine lv_iadd hx hb d_L_law_443 ?_
  refine ga_asi (v := nI (ix + 1)) (nI_add ix 1) ?_
  refine la_sld hC hX hbl hw (by omega) hL d_L_law_444 ?_
  refine lv_aload_n hx hb d_L_law_445 rfl (lv_at hl 1 rfl) ?_
  refine lv_iload hx hb d_L_law_446 (lv_at hl 0 rfl) ?_
  refine lv_iconst (v := 2) hx hb d_L_law_448 (by decide) ?_
  refine lv_iadd hx hb d_L_law_449 ?_
  refine ga_asi (v := nI (ix + 2)) (nI_add ix 2) ?_
  refine la_sld hC hX hbl hw (by omega) hL d_L_law_450 ?_
  refine lv_aload_n hx hb d_L_law_451 rfl (lv_at hl 4 rfl) ?_
  refine ga_SwL (As := [.ref (xa_a k 0), .int (xs (ix + 1)), .int (xs (ix + 2)), .ref o]) (rest := []) hC hw (c_L_sync l k hst x o g (xs (ix + 1)) (xs (ix + 2)) n h.1 (fun o1 o2 hno => h.rm3 (s := 1) (by decide) rfl ⟨o1, o2⟩ hno) _) m_L_sync ml_L_95 rfl rfl ⟨Nat.le_of_ble_eq_true rfl, Nat.le_of_ble_eq_true rfl⟩ rfl hl.1 rfl (Nat.le_of_ble_eq_true rfl) d_L_law_452 ⟨by show cs + 3 ≤ 601024; omega, by show ss + 18 ≤ 7293034; omega⟩ (fun r u H locs hp hw => ?_)
  refine lv_istore (lv' := [(5, .int r), (4, .int (nI ix)), (0, .ref b), (1, .ref (xa_a k 0)), (2, .ref (a 0)), (3, .ref o)]) hx hb d_L_law_455 hl (by decide) rfl (fun ls hl => ?_)
  refine lv_aload_n hx hb d_L_law_457 rfl (lv_at hl 4 rfl) ?_
  refine lv_aload_n hx hb d_L_law_458 rfl (lv_at hl 2 rfl) ?_
  refine lv_iload hx hb d_L_law_459 (lv_at hl 1 rfl) ?_
  refine lv_iconst (v := 1) hx hb d_L_law_461 (by decide) ?_
  refine lv_iadd hx hb d_L_law_462 ?_
  refine ga_asi (v := nI (ix + 1)) (nI_add ix 1) ?_
  refine la_sld hC hX hbl hw (by omega) hL d_L_law_463 ?_
  refine lv_aload_n hx hb d_L_law_464 rfl (lv_at hl 2 rfl) ?_
  refine lv_iload hx hb d_L_law_465 (lv_at hl 1 rfl) ?_
  refine lv_iconst (v := 2) hx hb d_L_law_467 (by decide) ?_
  refine lv_iadd hx hb d_L_law_468 ?_
  refine ga_asi (v := nI (ix + 2)) (nI_add ix 2) ?_
  refine la_sld hC hX hbl hw (by omega) hL d_L_law_469 ?_
  refine ga_ViR (As := [.int (xs (ix + 1)), .int (xs (ix + 2))]) (rest := []) hC hw (c_M_sync l k a y (xs (ix + 1)) (xs (ix + 2)) M hI.2.1 (by omega) _) m_M_sync ml_L_97 (ga_recv (ga_subR hw) (q0 := 0) rfl rfl) rfl rfl ⟨Nat.le_of_ble_eq_true rfl, Nat.le_of_ble_eq_true rfl⟩ rfl hl.1 rfl (Nat.le_of_ble_eq_true rfl) d_L_law_470 ⟨by show cs + 3 + 0 ≤ 601024; omega, by show ss + 18 + 0 ≤ 7293034; omega⟩ (fun r2 u2 H locs hp2 hw => ?_)
  refine lv_istore (lv' := [(6, .int r2), (5, .int r), (4, .int (nI ix)), (0, .ref b), (1, .ref (xa_a k 0)), (2, .ref (a 0)), (3, .ref o)]) hx hb d_L_law_473 hl (by decide) rfl (fun ls hl => ?_)
  refine lv_aload_n hx hb d_L_law_475 rfl (lv_at hl 5 rfl) ?_
  refine ga_ViR (As := []) (rest := []) hC hw (c_M_thrown l k a u2 _) m_M_thrown ml_L_80 (ga_recv (ga_subR hw) (q0 := 0) rfl rfl) rfl rfl ⟨Nat.le_of_ble_eq_true rfl, Nat.le_of_ble_eq_true rfl⟩ rfl hl.1 rfl (Nat.le_of_ble_eq_true rfl) d_L_law_476 ⟨by show cs + 3 + 0 + 0 ≤ 601024; omega, by show ss + 18 + 0 + 0 ≤ 7293034; omega⟩ (fun r3 u3 H locs hp3 hw => ?_)
  obtain ⟨rfl, rfl⟩ := hp3
  have hso := so_sync h hc hp hp2
  refine lv_iload hx hb d_L_law_479 (lv_at hl 1 rfl) ?_
  refine lv_icmp_eq (tgt := 486) hx hb d_L_law_481 (by decide) (fun c_481 => ?_) (fun c_481 => ?_)
  · refine lv_iload hx hb d_L_law_486 (lv_at hl 1 rfl) ?_
    refine lv_if_ne (tgt := 510) hx hb d_L_law_488 (by decide) (fun c_488 => ?_) (fun c_488 => ?_)
    · refine lv_goto (tgt := 1319) hx hb d_L_law_510 (by decide) ?_
      refine W.widen (k := cs + 8) (n := ss + 2100) (by omega) (by omega) ?_
      exact kx u.2 u2 u.1 H locs ls hso.1.2 hw (lv_sub hl [2, 3, 4, 5, 6] rfl)
    · refine lv_aload_n hx hb d_L_law_491 rfl (lv_at hl 6 rfl) ?_
      refine lv_iconst (v := 0) hx hb d_L_law_492 (by decide) ?_
      refine la_get (x := u.2) (g := u.1) (o := o) (k := k) (ex := ma_W k a u2) hC hw d_L_law_493 ?_
      refine lv_iload hx hb d_L_law_494 (lv_at hl 0 rfl) ?_
      refine lv_if_eq (tgt := 503) hx hb d_L_law_496 (by decide) (fun c_496 => ?_) (fun c_496 => ?_)
      · refine lv_lconst (v := 0) hx hb d_L_law_503 (by decide) ?_
        refine W.lcmp hx hb d_L_law_504 ?_
        refine lv_if_eq (tgt := 510) hx hb d_L_law_505 (by decide) (fun c_505 => ?_) (fun c_505 => ?_)
        · refine lv_goto (tgt := 1319) hx hb d_L_law_510 (by decide) ?_
          refine W.widen (k := cs + 8) (n := ss + 2100) (by omega) (by omega) ?_
          exact kx u.2 u2 u.1 H locs ls hso.1.2 hw (lv_sub hl [2, 3, 4, 5, 6] rfl)
        · exact absurd (by rw [hso.2 c_488, if_pos c_496]; exact lg_same _) c_505
      · refine lv_lconst (v := 1) hx hb d_L_law_499 (by decide) ?_
        refine lv_goto (tgt := 504) hx hb d_L_law_500 (by decide) ?_
        refine W.lcmp hx hb d_L_law_504 ?_
        refine lv_if_eq (tgt := 510) hx hb d_L_law_505 (by decide) (fun c_505 => ?_) (fun c_505 => ?_)
        · refine lv_goto (tgt := 1319) hx hb d_L_law_510 (by decide) ?_
          refine W.widen (k := cs + 8) (n := ss + 2100) (by omega) (by omega) ?_
          exact kx u.2 u2 u.1 H locs ls hso.1.2 hw (lv_sub hl [2, 3, 4, 5, 6] rfl)
        · exact absurd (by rw [hso.2 c_488, if_neg c_496]; exact lg_same _) c_505
  · exact absurd hso.1.1 c_481

set_option maxHeartbeats 4000000 in
set_option maxRecDepth 100000 in
theorem lc_noSync {p : Program} {l : Launch} {e : Env} {s : State} {m : MethodId} {below : List Frame} {meth : Method} {c : Code} {Q : State → Prop} {k : xa_k} {a : Nat → Nat} {o b L ix cc cs ss : Nat} {xs : Nat → Int32} {x : XS} {y : MS} {g : Nat → Int64} {H : Heap} {locs : List Loc} {ls : Array Slot} (hst : l.stackTraces = false) (hC : CallFix p m c code 7 s #[Value.ref b] ga_T "NetWiresLaw") (hX : va_X b L xs s s.heap) (hbl : b < s.heap.size) (hL : L ≤ 3072) (hix : ix + 6 ≤ L) (hsi : si k x y cc) (hcc : cc ≤ 511) (hcs : cs + 8 ≤ 601024) (hss : ss + 2100 ≤ 7293034)
    (kx : ∀ (x : XS) (y : MS) (g : Nat → Int64) (H : Heap) (locs : List Loc) (ls : Array Slot), si k x y (cc + 1) → ga_w (xa_K k) (la_W k o (g, x) ++ ma_W k a y) (fun q : Nat => s.heap.size ≤ q) s H locs → lv_has ls 7 [(4, .int (nI ix)), (0, .ref b), (1, .ref (xa_a k 0)), (2, .ref (a 0)), (3, .ref o)] → W p l e room_1 s m #[Value.ref b] below meth c H locs (cs + 8) (ss + 2100) Q (F0 m 1319 ls []))
    (hw : ga_w (xa_K k) (la_W k o (g, x) ++ ma_W k a y) (fun q : Nat => s.heap.size ≤ q) s H locs) (hl : lv_has ls 7 [(4, .int (nI ix)), (0, .ref b), (1, .ref (xa_a k 0)), (2, .ref (a 0)), (3, .ref o)]) : W p l e room_1 s m #[Value.ref b] below meth c H locs cs ss Q (F0 m 513 ls []) := by
  obtain ⟨n, M, U, t, D, num, h, hc⟩ := hsi
  have hx := hC.1
  have hb := hC.2.1
  have hI := h.2.1
  have hS := h.2.2.2.2.1
  have hT := h.2.2.2.2.2.1
  have hH := h.2.2.2.2.2.2.2
  refine lv_aload_n hx hb d_L_law_513 rfl (lv_at hl 2 rfl) ?_
  refine lv_aload_n hx hb d_L_law_514 rfl (lv_at hl 1 rfl) ?_
  refine lv_iload hx hb d_L_law_515 (lv_at hl 0 rfl) ?_
  refine lv_iconst (v := 1) hx hb d_L_law_517 (by decide) ?_
  refine lv_iadd hx hb d_L_law_518 ?_
  refine ga_asi (v := nI (ix + 1)) (nI_add ix 1) ?_
  refine la_sld hC hX hbl hw (by omega) hL d_L_law_519 ?_
  refine lv_aload_n hx hb d_L_law_520 rfl (lv_at hl 4 rfl) ?_
  refine ga_SwL (As := [.ref (xa_a k 0), .int (xs (ix + 1)), .ref o]) (rest := []) hC hw (c_L_noSync l k hst x o g (xs (ix + 1)) n h.1 _) m_L_noSync ml_L_98 rfl rfl ⟨Nat.le_of_ble_eq_true rfl, Nat.le_of_ble_eq_true rfl⟩ rfl hl.1 rfl (Nat.le_of_ble_eq_true rfl) d_L_law_521 ⟨by show cs + 1 ≤ 601024; omega, by show ss + 6 ≤ 7293034; omega⟩ (fun r u H locs hp hw => ?_)
  refine lv_istore (lv' := [(5, .int r), (4, .int (nI ix)), (0, .ref b), (1, .ref (xa_a k 0)), (2, .ref (a 0)), (3, .ref o)]) hx hb d_L_law_524 hl (by decide) rfl (fun ls hl => ?_)
  refine lv_aload_n hx hb d_L_law_526 rfl (lv_at hl 4 rfl) ?_
  refine lv_aload_n hx hb d_L_law_527 rfl (lv_at hl 2 rfl) ?_
  refine lv_iload hx hb d_L_law_528 (lv_at hl 1 rfl) ?_
  refine lv_iconst (v := 1) hx hb d_L_law_530 (by decide) ?_
  refine lv_iadd hx hb d_L_law_531 ?_
  refine ga_asi (v := nI (ix + 1)) (nI_add ix 1) ?_
  refine la_sld hC hX hbl hw (by omega) hL d_L_law_532 ?_
  refine ga_ViR (As := [.int (xs (ix + 1))]) (rest := []) hC hw (c_M_noSync l k a y (xs (ix + 1)) M hI.2.1 (by omega) _) m_M_noSync ml_L_100 (ga_recv (ga_subR hw) (q0 := 0) rfl rfl) rfl rfl ⟨Nat.le_of_ble_eq_true rfl, Nat.le_of_ble_eq_true rfl⟩ rfl hl.1 rfl (Nat.le_of_ble_eq_true rfl) d_L_law_533 ⟨by show cs + 1 + 0 ≤ 601024; omega, by show ss + 6 + 0 ≤ 7293034; omega⟩ (fun r2 u2 H locs hp2 hw => ?_)
  refine lv_istore (lv' := [(6, .int r2), (5, .int r), (4, .int (nI ix)), (0, .ref b), (1, .ref (xa_a k 0)), (2, .ref (a 0)), (3, .ref o)]) hx hb d_L_law_536 hl (by decide) rfl (fun ls hl => ?_)
  refine lv_aload_n hx hb d_L_law_538 rfl (lv_at hl 5 rfl) ?_
  refine ga_ViR (As := []) (rest := []) hC hw (c_M_thrown l k a u2 _) m_M_thrown ml_L_80 (ga_recv (ga_subR hw) (q0 := 0) rfl rfl) rfl rfl ⟨Nat.le_of_ble_eq_true rfl, Nat.le_of_ble_eq_true rfl⟩ rfl hl.1 rfl (Nat.le_of_ble_eq_true rfl) d_L_law_539 ⟨by show cs + 1 + 0 + 0 ≤ 601024; omega, by show ss + 6 + 0 + 0 ≤ 7293034; omega⟩ (fun r3 u3 H locs hp3 hw => ?_)
  obtain ⟨rfl, rfl⟩ := hp3
  have hso := so_noSync h hc hp hp2
  refine lv_iload hx hb d_L_law_542 (lv_at hl 1 rfl) ?_
  refine lv_icmp_eq (tgt := 549) hx hb d_L_law_544 (by decide) (fun c_544 => ?_) (fun c_544 => ?_)
  · refine lv_iload hx hb d_L_law_549 (lv_at hl 1 rfl) ?_
    refine lv_if_ne (tgt := 573) hx hb d_L_law_551 (by decide) (fun c_551 => ?_) (fun c_551 => ?_)
    · refine lv_goto (tgt := 1319) hx hb d_L_law_573 (by decide) ?_
      refine W.widen (k := cs + 8) (n := ss + 2100) (by omega) (by omega) ?_
      exact kx u.2 u2 u.1 H locs ls hso.1.2 hw (lv_sub hl [2, 3, 4, 5, 6] rfl)
    · refine lv_aload_n hx hb d_L_law_554 rfl (lv_at hl 6 rfl) ?_
      refine lv_iconst (v := 0) hx hb d_L_law_555 (by decide) ?_
      refine la_get (x := u.2) (g := u.1) (o := o) (k := k) (ex := ma_W k a u2) hC hw d_L_law_556 ?_
      refine lv_iload hx hb d_L_law_557 (lv_at hl 0 rfl) ?_
      refine lv_if_eq (tgt := 566) hx hb d_L_law_559 (by decide) (fun c_559 => ?_) (fun c_559 => ?_)
      · refine lv_lconst (v := 0) hx hb d_L_law_566 (by decide) ?_
        refine W.lcmp hx hb d_L_law_567 ?_
        refine lv_if_eq (tgt := 573) hx hb d_L_law_568 (by decide) (fun c_568 => ?_) (fun c_568 => ?_)
        · refine lv_goto (tgt := 1319) hx hb d_L_law_573 (by decide) ?_
          refine W.widen (k := cs + 8) (n := ss + 2100) (by omega) (by omega) ?_
          exact kx u.2 u2 u.1 H locs ls hso.1.2 hw (lv_sub hl [2, 3, 4, 5, 6] rfl)
        · exact absurd (by rw [hso.2 c_551, if_pos c_559]; exact lg_same _) c_568
      · refine lv_lconst (v := 1) hx hb d_L_law_562 (by decide) ?_
        refine lv_goto (tgt := 567) hx hb d_L_law_563 (by decide) ?_
        refine W.lcmp hx hb d_L_law_567 ?_
        refine lv_if_eq (tgt := 573) hx hb d_L_law_568 (by decide) (fun c_568 => ?_) (fun c_568 => ?_)
        · refine lv_goto (tgt := 1319) hx hb d_L_law_573 (by decide) ?_
          refine W.widen (k := cs + 8) (n := ss + 2100) (by omega) (by omega) ?_
          exact kx u.2 u2 u.1 H locs ls hso.1.2 hw (lv_sub hl [2, 3, 4, 5, 6] rfl)
        · exact absurd (by rw [hso.2 c_551, if_neg c_559]; exact lg_same _) c_568
  · exact absurd hso.1.1 c_544

set_option maxHeartbeats 4000000 in
set_option maxRecDepth 100000 in
theorem lc_step {p : Program} {l : Launch} {e : Env} {s : State} {m : MethodId} {below : List Frame} {meth : Method} {c : Code} {Q : State → Prop} {k : xa_k} {a : Nat → Nat} {o b L ix cc cs ss : Nat} {xs : Nat → Int32} {x : XS} {y : MS} {g : Nat → Int64} {H : Heap} {locs : List Loc} {ls : Array Slot} (hst : l.stackTraces = false) (hC : CallFix p m c code 7 s #[Value.ref b] ga_T "NetWiresLaw") (hX : va_X b L xs s s.heap) (hbl : b < s.heap.size) (hL : L ≤ 3072) (hix : ix + 6 ≤ L) (hsi : si k x y cc) (hcc : cc ≤ 511) (hcs : cs + 8 ≤ 601024) (hss : ss + 2100 ≤ 7293034)
    (kx : ∀ (x : XS) (y : MS) (g : Nat → Int64) (H : Heap) (locs : List Loc) (ls : Array Slot), si k x y (cc + 1) → ga_w (xa_K k) (la_W k o (g, x) ++ ma_W k a y) (fun q : Nat => s.heap.size ≤ q) s H locs → lv_has ls 7 [(4, .int (nI ix)), (0, .ref b), (1, .ref (xa_a k 0)), (2, .ref (a 0)), (3, .ref o)] → W p l e room_1 s m #[Value.ref b] below meth c H locs (cs + 8) (ss + 2100) Q (F0 m 1319 ls []))
    (hw : ga_w (xa_K k) (la_W k o (g, x) ++ ma_W k a y) (fun q : Nat => s.heap.size ≤ q) s H locs) (hl : lv_has ls 7 [(4, .int (nI ix)), (0, .ref b), (1, .ref (xa_a k 0)), (2, .ref (a 0)), (3, .ref o)]) : W p l e room_1 s m #[Value.ref b] below meth c H locs cs ss Q (F0 m 576 ls []) := by
  obtain ⟨n, M, U, t, D, num, h, hc⟩ := hsi
  have hx := hC.1
  have hb := hC.2.1
  have hI := h.2.1
  have hS := h.2.2.2.2.1
  have hT := h.2.2.2.2.2.1
  have hH := h.2.2.2.2.2.2.2
  refine lv_aload_n hx hb d_L_law_576 rfl (lv_at hl 2 rfl) ?_
  have hw : ga_w (xa_K k) (xa_W k x ++ ([la_o k o g] ++ ma_W k a y)) (fun q : Nat => s.heap.size ≤ q) s H locs := by rw [← List.append_assoc]; exact hw
  refine ga_ViL (As := []) (rest := []) hC hw (c_NetWires_step l k x n (D % 32) (min D 32) h.1 h.hi.1 h.hi.2.1 h.hi.2.2.1 h.hi.2.2.2 _) m_NetWires_step ml_L_101 (ga_recv (ga_subL hw) (q0 := 0) rfl rfl) rfl rfl ⟨Nat.le_of_ble_eq_true rfl, Nat.le_of_ble_eq_true rfl⟩ rfl hl.1 rfl (Nat.le_of_ble_eq_true rfl) d_L_law_577 ⟨by show cs + 0 ≤ 601024; omega, by show ss + 0 ≤ 7293034; omega⟩ (fun r u H locs hp hw => ?_)
  have hw : ga_w (xa_K k) (la_W k o (g, u) ++ ma_W k a y) (fun q : Nat => s.heap.size ≤ q) s H locs := by rw [← List.append_assoc] at hw; exact hw
  refine lv_aload_n hx hb d_L_law_580 rfl (lv_at hl 3 rfl) ?_
  refine ga_ViR (As := []) (rest := [.int r]) hC hw (c_M_step l k a y M D hI.2.1 (by omega) hH.1.2.2.2 (by omega) _) m_M_step ml_L_104 (ga_recv (ga_subR hw) (q0 := 0) rfl rfl) rfl rfl ⟨Nat.le_of_ble_eq_true rfl, Nat.le_of_ble_eq_true rfl⟩ rfl hl.1 rfl (Nat.le_of_ble_eq_true rfl) d_L_law_581 ⟨by show cs + 0 + 0 ≤ 601024; omega, by show ss + 0 + 0 ≤ 7293034; omega⟩ (fun r2 u2 H locs hp2 hw => ?_)
  have hso := so_step h hc (by omega) hp hp2
  refine lv_icmp_eq (tgt := 1319) hx hb d_L_law_584 (by decide) (fun c_584 => ?_) (fun c_584 => ?_)
  · refine W.widen (k := cs + 8) (n := ss + 2100) (by omega) (by omega) ?_
    exact kx u u2 g H locs ls hso.1.2 hw (lv_sub hl [0, 1, 2, 3, 4] rfl)
  · exact absurd hso.2 c_584
