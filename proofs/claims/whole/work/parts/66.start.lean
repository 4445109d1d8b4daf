/-! the law's start -/
set_option maxHeartbeats 4000000 in
set_option maxRecDepth 100000 in
theorem law_start {p : Program} {e : Env} {s : State} {m : MethodId} {below : List Frame} {meth : Method} {c : Code} (l : Launch) (hst : l.stackTraces = false) {b L : Nat} {xs : Nat → Int32} (hL : L ≤ 3072) (hC : CallFix p m c code 7 s #[Value.ref b] ga_T "NetWiresLaw") (hr : meth.sig.returnType = ret) (hlocks : meth.locks = false) (hX : va_X b L xs s s.heap) (hbl : b < s.heap.size) {k0 : xa_k} (hw : ga_w (xa_K k0) [] (fun q : Nat => s.heap.size ≤ q) s s.heap []) (ls : Array Slot) (hl : lv_has ls 7 [(0, .ref b)]) : W p l e room_1 s m #[Value.ref b] below meth c s.heap [] 0 0 (lw_Z below #[Value.ref b] s) (F0 m 0 ls []) := by
  have hx := hC.1
  have hb := hC.2.1
  refine ga_new (fs := [.null, .null, .null, .null, .null, .int 0, .int 0, .int 0, .int 0, .int 0, .int 0, .null]) hC hw cl_NetWires t_NetWires t_NetWires_ok kl_L_8 in_NetWires ini_NetWires (fun j hj => by rcases (show j = 0 ∨ j = 1 ∨ j = 2 ∨ j = 3 ∨ j = 4 ∨ j = 5 ∨ j = 6 ∨ j = 7 ∨ j = 8 ∨ j = 9 ∨ j = 10 ∨ j = 11 by omega) with rfl | rfl | rfl | rfl | rfl | rfl | rfl | rfl | rfl | rfl | rfl | rfl <;> rfl) (Nat.le_of_ble_eq_true rfl) (Nat.le_of_ble_eq_true rfl) d_L_law_0 (fun q0 H hw => ?_)
  have hw : ga_w (xa_K k0) [(q0, .inr (0, [.null, .null, .null, .null, .null, .int 0, .int 0, .int 0, .int 0, .int 0, .int 0, .null]))] (fun q : Nat => s.heap.size ≤ q) s H [] := hw
  refine lv_dup hx hb d_L_law_3 rfl ?_
  refine ga_Iv (As := []) (rest := [.ref q0]) hC hw (c_NetWires_init l k0 q0 _) m_NetWires_init ml_L_68 rfl rfl ⟨Nat.le_of_ble_eq_true rfl, Nat.le_of_ble_eq_true rfl⟩ rfl hl.1 rfl (Nat.le_of_ble_eq_true rfl) d_L_law_4 ⟨Nat.le_of_ble_eq_true rfl, Nat.le_of_ble_eq_true rfl⟩ (fun u H locs hu hw => ?_)
  obtain ⟨u1, u2⟩ := u
  obtain ⟨hu0, hu9, hu3⟩ := hu
  have hu0 : u1 0 = q0 := hu0
  have hu9 : u1 9 = xa_a k0 9 := hu9
  have hu3 : ∀ j, j < 256 → u2 j = 3 := hu3
  have hw : ga_w (xa_K k0) (xa_W (k0.1, k0.2.1, u1) (xa_x0 (xa_a k0 9) u2)) (fun q : Nat => s.heap.size ≤ q) s H locs := hw
  have eK : xa_K k0 = xa_K (k0.1, k0.2.1, u1) := by
    show (k0.1, xa_ty k0, ga_stat (xa_a k0 9)) = (k0.1, xa_ty k0, ga_stat (u1 9))
    rw [hu9]
  rw [eK] at hw
  have ha0 : xa_a (k0.1, k0.2.1, u1) 0 = q0 := hu0
  have ha9 : xa_a (k0.1, k0.2.1, u1) 9 = xa_a k0 9 := hu9
  generalize (k0.1, k0.2.1, u1) = k at hw ha0 ha9
  generalize xa_a k0 9 = nb at hw ha9
  refine lv_astore_n (lv' := [(1, .ref q0), (0, .ref b)]) hx hb d_L_law_7 rfl hl (by decide) rfl (fun ls hl => ?_)
  refine ga_new (fs := [.int 0, .int 0, .int 0, .null, .null, .null, .null, .null, .null, .null, .int 0, .null, .int 0, .null, .null, .int 0, .int 0, .int 0, .int 0, .int 0, .long 0, .int 0, .int 0, .int 0, .int 0, .null, .null, .int 0]) hC hw cl_M t_M t_M_ok kl_L_69 in_M ini_M (fun j hj => by rcases (show j = 0 ∨ j = 1 ∨ j = 2 ∨ j = 3 ∨ j = 4 ∨ j = 5 ∨ j = 6 ∨ j = 7 ∨ j = 8 ∨ j = 9 ∨ j = 10 ∨ j = 11 ∨ j = 12 ∨ j = 13 ∨ j = 14 ∨ j = 15 ∨ j = 16 ∨ j = 17 ∨ j = 18 ∨ j = 19 ∨ j = 20 ∨ j = 21 ∨ j = 22 ∨ j = 23 ∨ j = 24 ∨ j = 25 ∨ j = 26 ∨ j = 27 by omega) with rfl | rfl | rfl | rfl | rfl | rfl | rfl | rfl | rfl | rfl | rfl | rfl | rfl | rfl | rfl | rfl | rfl | rfl | rfl | rfl | rfl | rfl | rfl | rfl | rfl | rfl | rfl | rfl <;> rfl) (Nat.le_of_ble_eq_true rfl) (Nat.le_of_ble_eq_true rfl) d_L_law_8 (fun q1 H hw => ?_)
  refine lv_dup hx hb d_L_law_11 rfl ?_
  refine ga_IvR (As := []) (rest := [.ref q1]) hC hw (c_M_init l k q1 _) m_M_init ml_L_71 rfl rfl ⟨Nat.le_of_ble_eq_true rfl, Nat.le_of_ble_eq_true rfl⟩ rfl hl.1 rfl (Nat.le_of_ble_eq_true rfl) d_L_law_12 ⟨Nat.le_of_ble_eq_true rfl, Nat.le_of_ble_eq_true rfl⟩ (fun v H locs hv hw => ?_)
  have hv : v 0 = q1 := hv
  have hw : ga_w (xa_K k) (xa_W k (xa_x0 nb u2) ++ ma_W k v (ma_yi 256)) (fun q : Nat => s.heap.size ≤ q) s H locs := hw
  refine lv_astore_n (lv' := [(2, .ref q1), (1, .ref q0), (0, .ref b)]) hx hb d_L_law_15 rfl hl (by decide) rfl (fun ls hl => ?_)
  refine lv_iconst (v := 1) hx hb d_L_law_16 (by decide) ?_
  refine ga_newL (N' := 1) (t0 := 4) (cA := k.2.1 4) hC hw rfl (by decide) (by decide) (by decide) (Nat.le_of_ble_eq_true rfl) (Nat.le_of_ble_eq_true rfl) d_L_law_17 (fun o H hw => ?_)
  have hw : ga_w (xa_K k) (la_W k o (fun _ => 0, xa_x0 nb u2) ++ ma_W k v (ma_yi 256)) (fun q : Nat => s.heap.size ≤ q) s H locs := ⟨va_P.swap hw.1, va_D.swap hw.2.1, hw.2.2⟩
  refine lv_astore_n (lv' := [(3, .ref o), (2, .ref q1), (1, .ref q0), (0, .ref b)]) hx hb d_L_law_19 rfl hl (by decide) rfl (fun ls hl => ?_)
  refine lv_iconst (v := 0) hx hb d_L_law_20 (by decide) ?_
  refine lv_istore (lv' := [(4, .int 0), (3, .ref o), (2, .ref q1), (1, .ref q0), (0, .ref b)]) hx hb d_L_law_21 hl (by decide) rfl (fun ls hl => ?_)
  have hl : lv_has ls 7 [(4, .int (nI (6 * 0))), (0, .ref b), (1, .ref (xa_a k 0)), (2, .ref (v 0)), (3, .ref o)] := by
    rw [ha0, hv]
    exact lv_sub hl [0, 4, 3, 2, 1] rfl
  refine W.widen (k := 30 + 8 * 0) (n := 22000 + 2100 * 0) (Nat.le_of_ble_eq_true rfl) (Nat.le_of_ble_eq_true rfl) ?_
  exact law_loop hst hL hC hr hlocks hX hbl 513 0 _ _ _ _ _ _ rfl (Nat.zero_le L) (si_zero ha9 hu3) hw hl
/-- THE LAW, from its entry -/
theorem whole_start {p : Program} {e : Env} {s : State} {m : MethodId} {below : List Frame} {meth : Method} {c : Code} (l : Launch) (hst : l.stackTraces = false) {b L : Nat} {xs : Nat → Int32} (hL : L ≤ 3072) (C0 : lw_At p s m meth c b L xs) : W p l e room_1 s m #[Value.ref b] below meth c s.heap [] 0 0 (lw_Z below #[Value.ref b] s) (entryFrame m ([Value.ref b] : List Value).toArray 7) := by
  obtain ⟨hx, hb, hr, hml, hown, hts, hX, hbl, hlocks, hgv⟩ := C0
  obtain ⟨k0, hw⟩ := la_env hts hgv
  have hl := lv_entry ([.ref b]) (n := 7) (Nat.le_of_ble_eq_true rfl)
  rw [lg_entry_eq]
  exact law_start l hst hL ⟨hx, hb, hml, hown, fun w hw => hts w (List.mem_filter.mp hw).1⟩ hr hlocks hX hbl hw _ hl
