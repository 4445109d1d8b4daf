/-! THE CLAIM OUT OF ONE WALK OF THE LAW'S BODY. Your part is whole_start (and what it stands on); all else here is the same for every law, but numbers. -/
def R_law : String := "NetWiresLaw"
def lw_P (b : Addr) (xs : List Int32) (args : Array Value) (s : State) : Prop := args = #[.ref b] ∧ s.IntsAt b xs ∧ xs.length ≤ 3072 ∧ (Jvm.Cond.and given_1 narrow_1).before args s = true
def lw_Q (_ : Array Value) (s : State) (o : Outcome) (t : State) : Prop := o = .returned (some (.int 1)) ∧ Framed s o t [] 601024 7293034
def lw_Z (below : List Frame) (a : Array Value) (s : State) : State → Prop := fun t => ∃ o, t.status = .running ∧ Ended t below o ∧ lw_Q a s o t
/-- the law's own end, with 1 on the stack, nothing written that was there before, its room as the claim has it -/
theorem lw_ret {p : Program} {l : Launch} {e : Env} {s : State} {m : MethodId} {below : List Frame} {meth : Method} {c : Code} {b : Nat} (hx : p.tables.exec = Jvm.exec) (hb : c.code = code) (hr : meth.sig.returnType = ret) (hlocks : meth.locks = false) {pc : Nat} {H : Heap} {ls : Array Slot} (hdg : decode code pc = .ok (.ireturn, 1)) : W p l e room_1 s m #[Value.ref b] below meth c H [] 601024 7293034 (lw_Z below #[Value.ref b] s) (F0 m pc ls [.int 1]) := by
  intro T hT X
  obtain ⟨fs, hret, hrun, hended, hW, hframe⟩ := X.leave (v := some (.int 1)) (hlocks := hlocks) (fun h => by rw [hr] at h; cases h)
  have hmeth' : T.vm.method? m = some meth := X.method'
  refine ⟨T.setFrames fs, ?_, .returned (some (.int 1)), hrun, hended, rfl, ⟨_, rfl⟩, hW, hframe⟩
  jvm_step X.here [X.here.top, hx, hb, hdg, hmeth', hr, ret, narrow_b1]
  (try refine ⟨rfl, ?_⟩); (try refine ⟨rfl, ?_⟩)
  first | (intro acts; rw [hret _ acts rfl rfl rfl]) | rw [hret _ _ rfl rfl rfl]
  exact Steps.refl _
/-- what holds at the law's entry: the machine, the code, the tables' words (any of lw_tbl by 'hts w (by decide +kernel)'), the script of L ints xs at the cell b, what the Statement gives of the start (any of its parts by flat_of_before) -/
def lw_At (p : Program) (s : State) (m : MethodId) (meth : Method) (c : Code) (b L : Nat) (xs : Nat → Int32) : Prop :=
  p.tables.exec = Jvm.exec ∧ c.code = code ∧ meth.sig.returnType = ret ∧ c.maxLocals = 7 ∧ s.vm.findClass R_law = some m.cls ∧ (∀ w ∈ lw_tbl, w.before #[Value.ref b] s = true) ∧ va_X b L xs s s.heap ∧ b < s.heap.size ∧ meth.locks = false ∧ (Jvm.Cond.and given_1 narrow_1).before #[Value.ref b] s = true
/-! the start of what holds, the loop's bound, the loop -/
theorem si.up {k : xa_k} {x : XS} {y : MS} {c : Nat} (h : si k x y c) : si k x y (c + 1) := by
  obtain ⟨n, M, U, t, D, num, h, h1, h2, h3⟩ := h
  exact ⟨n, M, U, t, D, num, h, by omega, by omega, by omega⟩
theorem si_zero {k : xa_k} {nb : Nat} {g : Nat → Int32} (hb : xa_a k 9 = nb) (hg : ∀ j, j < 256 → g j = 3) : si k (xa_x0 nb g) (ma_yi 256) 0 := by
  have hR : xa_R0 (xa_x0 nb g) 0 := ⟨rfl, by omega, fun j hj => absurd hj (Nat.not_lt_zero j)⟩
  have hI : (xa_x0 nb g).1 1 = nI 0 ∧ (ma_yi 256).1 2 = nI 0 ∧ (ma_yi 256).1 3 = nI 0 := ⟨rfl, rfl, rfl⟩
  have hA : si_A k (xa_P (xa_x0 nb g)) 0 (xa_at (xa_x0 nb g)) (xa_bb (xa_x0 nb g)) (ma_yi 256) 0 0 (fun _ => 0) := ⟨fun j hj => absurd hj (Nat.not_lt_zero j), fun e he => absurd he (Nat.not_lt_zero e), fun i j _ hj => absurd hj (Nat.not_lt_zero j), fun i j _ hj => absurd hj (Nat.not_lt_zero j)⟩
  have hCt : si_C (xa_x0 nb g) (ma_yi 256) 0 := ⟨rfl, Nat.zero_le 200, rfl⟩
  have hS : si_S (xa_x0 nb g) (ma_yi 256) := by
    refine ⟨⟨rfl, rfl, rfl, rfl, rfl⟩, ⟨rfl, rfl, rfl, rfl⟩, ⟨0, 0, 0, by omega, by omega, by omega, rfl, rfl, rfl⟩, fun j hj => ?_⟩
    show g j = if 9 = 9 ∧ j < 256 then (3 : Int32) else 0
    rw [hg j hj, if_pos ⟨rfl, hj⟩]
  have hT : si_T (xa_x0 nb g) (ma_yi 256) 0 := ⟨rfl, rfl, by omega, fun j _ => rfl, fun j hj => absurd hj (Nat.not_lt_zero j)⟩
  have hB : si_B k (xa_P (xa_x0 nb g)) (xa_B (xa_x0 nb g)) (ma_yi 256) 0 0 := ⟨0, fun _ => 0, Or.inr ⟨hb.symm, rfl⟩, by omega, Or.inl ⟨rfl, rfl⟩⟩
  have hH : si_H (xa_x0 nb g) (ma_yi 256) 0 0 := by
    refine ⟨⟨rfl, rfl, rfl, rfl⟩, fun m _ => ⟨0, by omega, ?_⟩, fun m _ hm => absurd hm (Nat.not_lt_zero m)⟩
    show (if 11 = 9 ∧ m < 256 then (3 : Int32) else 0) = nI 0
    rw [if_neg (by omega)]
    exact nI_0.symm
  exact ⟨0, 0, 0, 0, 0, fun _ => 0, ⟨hR, hI, hA, hCt, hS, hT, hB, hH⟩, by omega, by omega, by omega⟩
theorem la_cmp {L i : Nat} (hL : L ≤ 3072) (hi : i ≤ 3078) (h : ¬ nI L - 6 < nI i) : i + 6 ≤ L := by
  rcases Nat.lt_or_ge L 6 with h6 | h6
  · exfalso
    apply h
    rw [Int32.lt_iff_toInt_lt, nI_toInt (n := i) (by omega)]
    have e : (nI L - 6).toInt < 0 := by
      rcases (show L = 0 ∨ L = 1 ∨ L = 2 ∨ L = 3 ∨ L = 4 ∨ L = 5 by omega) with rfl | rfl | rfl | rfl | rfl | rfl <;> decide
    omega
  · obtain ⟨d, rfl⟩ : ∃ d, L = d + 6 := ⟨L - 6, by omega⟩
    have e : nI (d + 6) - 6 = nI d := by
      rw [← nI_add d 6]
      show nI d + nI 6 - nI 6 = nI d
      exact Int32.add_sub_cancel (nI d) (nI 6)
    rw [e, nI_ltI (by omega) (by omega)] at h
    omega
set_option maxHeartbeats 4000000 in
set_option maxRecDepth 100000 in
theorem law_loop {p : Program} {l : Launch} {e : Env} {s : State} {m : MethodId} {below : List Frame} {meth : Method} {c : Code} {k : xa_k} {a : Nat → Nat} {o b L : Nat} {xs : Nat → Int32} (hst : l.stackTraces = false) (hL : L ≤ 3072) (hC : CallFix p m c code 7 s #[Value.ref b] ga_T "NetWiresLaw") (hr : meth.sig.returnType = ret) (hlocks : meth.locks = false) (hX : va_X b L xs s s.heap) (hbl : b < s.heap.size) :
    ∀ (d cc : Nat) (x : XS) (y : MS) (g : Nat → Int64) (H : Heap) (locs : List Loc) (ls : Array Slot), cc + d = 513 → 6 * cc ≤ L → si k x y cc → ga_w (xa_K k) (la_W k o (g, x) ++ ma_W k a y) (fun q : Nat => s.heap.size ≤ q) s H locs → lv_has ls 7 [(4, .int (nI (6 * cc))), (0, .ref b), (1, .ref (xa_a k 0)), (2, .ref (a 0)), (3, .ref o)] →
      W p l e room_1 s m #[Value.ref b] below meth c H locs (30 + 8 * cc) (22000 + 2100 * cc) (lw_Z below #[Value.ref b] s) (F0 m 23 ls []) := by
  intro d
  induction d with
  | zero =>
    intro cc x y g H locs ls hd h6 hsi hw hl
    omega
  | succ d ih =>
    intro cc x y g H locs ls hd h6 hsi hw hl
    have hx := hC.1
    have hb := hC.2.1
    refine lv_iload hx hb d_L_law_23 (lv_at hl 0 rfl) ?_
    refine lv_aload_n hx hb d_L_law_25 rfl (lv_at hl 1 rfl) ?_
    refine la_slen hC hX hbl hw d_L_law_26 ?_
    refine lv_bipush (v := 6) hx hb d_L_law_27 (by decide) ?_
    refine lv_isub hx hb d_L_law_29 ?_
    refine lv_icmp_gt (tgt := 1325) hx hb d_L_law_30 (by decide) (fun c_30 => ?_) (fun c_30 => ?_)
    · refine lv_iconst (v := 1) hx hb d_L_law_1325 (by decide) ?_
      refine va_forget (fun q hq => hw.2.2.1.2.2 q hq) ?_
      refine W.widen (k := 601024) (n := 7293034) (by omega) (by omega) ?_
      exact lw_ret hx hb hr hlocks d_L_law_1326
    · have hix : 6 * cc + 6 ≤ L := la_cmp hL (by omega) c_30
      have kx : ∀ (x : XS) (y : MS) (g : Nat → Int64) (H : Heap) (locs : List Loc) (ls : Array Slot), si k x y (cc + 1) → ga_w (xa_K k) (la_W k o (g, x) ++ ma_W k a y) (fun q : Nat => s.heap.size ≤ q) s H locs → lv_has ls 7 [(4, .int (nI (6 * cc))), (0, .ref b), (1, .ref (xa_a k 0)), (2, .ref (a 0)), (3, .ref o)] → W p l e room_1 s m #[Value.ref b] below meth c H locs (30 + 8 * cc + 8) (22000 + 2100 * cc + 2100) (lw_Z below #[Value.ref b] s) (F0 m 1319 ls []) := by
        intro x y g H locs ls hsi hw hl
        refine lv_iinc (v := nI (6 * (cc + 1))) (lv' := [(4, .int (nI (6 * (cc + 1)))), (0, .ref b), (1, .ref (xa_a k 0)), (2, .ref (a 0)), (3, .ref o)]) hx hb d_L_law_1319 hl (k := 0) rfl (by rw [Nat.mul_succ, show Int32.ofInt 6 = nI 6 by decide, nI_add]) (by decide) rfl (fun ls hl => ?_)
        refine lv_goto (tgt := 23) hx hb d_L_law_1322 (by decide) ?_
        exact W.widen (k := 30 + 8 * (cc + 1)) (n := 22000 + 2100 * (cc + 1)) (by omega) (by omega) (ih (cc + 1) x y g H locs ls (by omega) (by omega) hsi hw hl)
      refine lv_aload_n hx hb d_L_law_33 rfl (lv_at hl 1 rfl) ?_
      refine lv_iload hx hb d_L_law_34 (lv_at hl 0 rfl) ?_
      refine la_sld hC hX hbl hw (show 6 * cc < L by omega) hL d_L_law_36 ?_
      refine lv_bipush (v := 31) hx hb d_L_law_37 (by decide) ?_
      refine lv_iand hx hb d_L_law_39 ?_
      rcases xa_sw 18 (by decide) (xs (6 * cc) &&& 31) with ⟨j, hj, ej⟩ | hj
      · rcases (show j = 0 ∨ j = 1 ∨ j = 2 ∨ j = 3 ∨ j = 4 ∨ j = 5 ∨ j = 6 ∨ j = 7 ∨ j = 8 ∨ j = 9 ∨ j = 10 ∨ j = 11 ∨ j = 12 ∨ j = 13 ∨ j = 14 ∨ j = 15 ∨ j = 16 ∨ j = 17 ∨ j = 18 by omega) with rfl | rfl | rfl | rfl | rfl | rfl | rfl | rfl | rfl | rfl | rfl | rfl | rfl | rfl | rfl | rfl | rfl | rfl | rfl
        · refine ga_asi (v := nI 0) ej ?_
          refine lv_tableIn (off := 92) (tgt := 132) hx hb d_L_law_40 (by decide) (by decide) rfl (by decide) ?_
          exact lc_feed hst hC hX hbl hL hix hsi (by omega) (by omega) (by omega) kx hw hl
        · refine ga_asi (v := nI 1) ej ?_
          refine lv_tableIn (off := 192) (tgt := 232) hx hb d_L_law_40 (by decide) (by decide) rfl (by decide) ?_
          exact lc_send hst hC hX hbl hL hix hsi (by omega) (by omega) (by omega) kx hw hl
        · refine ga_asi (v := nI 2) ej ?_
          refine lv_tableIn (off := 260) (tgt := 300) hx hb d_L_law_40 (by decide) (by decide) rfl (by decide) ?_
          exact lc_alarm hst hC hX hbl hL hix hsi (by omega) (by omega) (by omega) kx hw hl
        · refine ga_asi (v := nI 3) ej ?_
          refine lv_tableIn (off := 335) (tgt := 375) hx hb d_L_law_40 (by decide) (by decide) rfl (by decide) ?_
          exact lc_noAlarm hst hC hX hbl hL hix hsi (by omega) (by omega) (by omega) kx hw hl
        · refine ga_asi (v := nI 4) ej ?_
          refine lv_tableIn (off := 398) (tgt := 438) hx hb d_L_law_40 (by decide) (by decide) rfl (by decide) ?_
          exact lc_sync hst hC hX hbl hL hix hsi (by omega) (by omega) (by omega) kx hw hl
        · refine ga_asi (v := nI 5) ej ?_
          refine lv_tableIn (off := 473) (tgt := 513) hx hb d_L_law_40 (by decide) (by decide) rfl (by decide) ?_
          exact lc_noSync hst hC hX hbl hL hix hsi (by omega) (by omega) (by omega) kx hw hl
        · refine ga_asi (v := nI 6) ej ?_
          refine lv_tableIn (off := 536) (tgt := 576) hx hb d_L_law_40 (by decide) (by decide) rfl (by decide) ?_
          exact lc_step hst hC hX hbl hL hix hsi (by omega) (by omega) (by omega) kx hw hl
        · refine ga_asi (v := nI 7) ej ?_
          refine lv_tableIn (off := 549) (tgt := 589) hx hb d_L_law_40 (by decide) (by decide) rfl (by decide) ?_
          exact lc_run hst hC hX hbl hL hix hsi (by omega) (by omega) (by omega) kx hw hl
        · refine ga_asi (v := nI 8) ej ?_
          refine lv_tableIn (off := 605) (tgt := 645) hx hb d_L_law_40 (by decide) (by decide) rfl (by decide) ?_
          exact lc_delay hst hC hX hbl hL hix hsi (by omega) (by omega) (by omega) kx hw hl
        · refine ga_asi (v := nI 9) ej ?_
          refine lv_tableIn (off := 685) (tgt := 725) hx hb d_L_law_40 (by decide) (by decide) rfl (by decide) ?_
          exact lc_part hst hC hX hbl hL hix hsi (by omega) (by omega) (by omega) kx hw hl
        · refine ga_asi (v := nI 10) ej ?_
          refine lv_tableIn (off := 741) (tgt := 781) hx hb d_L_law_40 (by decide) (by decide) rfl (by decide) ?_
          exact lc_down hst hC hX hbl hL hix hsi (by omega) (by omega) (by omega) kx hw hl
        · refine ga_asi (v := nI 11) ej ?_
          refine lv_tableIn (off := 797) (tgt := 837) hx hb d_L_law_40 (by decide) (by decide) rfl (by decide) ?_
          exact lc_noise hst hC hX hbl hL hix hsi (by omega) (by omega) (by omega) kx hw hl
        · refine ga_asi (v := nI 12) ej ?_
          refine lv_tableIn (off := 901) (tgt := 941) hx hb d_L_law_40 (by decide) (by decide) rfl (by decide) ?_
          exact lc_meddle hst hC hX hbl hL hix hsi (by omega) (by omega) (by omega) kx hw hl
        · refine ga_asi (v := nI 13) ej ?_
          refine lv_tableIn (off := 988) (tgt := 1028) hx hb d_L_law_40 (by decide) (by decide) rfl (by decide) ?_
          exact lc_message hst hC hX hbl hL hix hsi (by omega) (by omega) (by omega) kx hw hl
        · refine ga_asi (v := nI 14) ej ?_
          refine lv_tableIn (off := 1025) (tgt := 1065) hx hb d_L_law_40 (by decide) (by decide) rfl (by decide) ?_
          exact lc_messageAt hst hC hX hbl hL hix hsi (by omega) (by omega) (by omega) kx hw hl
        · refine ga_asi (v := nI 15) ej ?_
          refine lv_tableIn (off := 1093) (tgt := 1133) hx hb d_L_law_40 (by decide) (by decide) rfl (by decide) ?_
          exact lc_happened hst hC hX hbl hL hix hsi (by omega) (by omega) (by omega) kx hw hl
        · refine ga_asi (v := nI 16) ej ?_
          refine lv_tableIn (off := 1130) (tgt := 1170) hx hb d_L_law_40 (by decide) (by decide) rfl (by decide) ?_
          exact lc_byteAt hst hC hX hbl hL hix hsi (by omega) (by omega) (by omega) kx hw hl
        · refine ga_asi (v := nI 17) ej ?_
          refine lv_tableIn (off := 1186) (tgt := 1226) hx hb d_L_law_40 (by decide) (by decide) rfl (by decide) ?_
          exact lc_when hst hC hX hbl hL hix hsi (by omega) (by omega) (by omega) kx hw hl
        · refine ga_asi (v := nI 18) ej ?_
          refine lv_tableIn (off := 1254) (tgt := 1294) hx hb d_L_law_40 (by decide) (by decide) rfl (by decide) ?_
          exact lc_count hst hC hX hbl hL hix hsi (by omega) (by omega) (by omega) kx hw hl
      · refine lv_tableOut (tgt := 1319) hx hb d_L_law_40 hj (by decide) ?_
        refine W.widen (k := 30 + 8 * cc + 8) (n := 22000 + 2100 * cc + 2100) (by omega) (by omega) ?_
        exact kx x y g H locs ls hsi.up hw hl
