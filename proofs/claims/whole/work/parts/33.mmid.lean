set_option maxHeartbeats 4000000 in
set_option maxRecDepth 100000 in
theorem lp_M_nth_in {p : Program} {l : Launch} {e : Env} {s : State} {m : MethodId} {args : Array Value} {below : List Frame} {meth : Method} {c : Code} {Q : State → Prop} {A : Nat → Prop} {k : xa_k} {a : Nat → Nat} {y : MS} {M i : Nat} {k9 : Int32} (hC : CallFix p m c b_M_nth 7 s args ga_T "NetWiresModel") (hM : y.1 2 = nI M) (hM2 : M ≤ 1700) (hi2 : i < M)
    (kx : ∀ (H : Heap) (locs : List Loc) (ls : Array Slot), ga_w (xa_K k) (ma_W k a y) A s H locs → lv_has ls 7 [(5, .int (nI M)), (4, .int (nI (ma_bef y i M))), (3, .int (nI i)), (0, .ref (a 0)), (1, .int k9), (2, .int 0)] → W p l e ({ frames := 0, cells := 0, slots := 0, locals := 0 }) s m args below meth c H locs 0 0 Q (F0 m 130 ls [])) :
    ∀ (d j : Nat) (H : Heap) (locs : List Loc) (ls : Array Slot), d + j = M → ga_w (xa_K k) (ma_W k a y) A s H locs → lv_has ls 7 [(5, .int (nI j)), (4, .int (nI (ma_bef y i j))), (3, .int (nI i)), (0, .ref (a 0)), (1, .int k9), (2, .int 0)] → W p l e ({ frames := 0, cells := 0, slots := 0, locals := 0 }) s m args below meth c H locs 0 0 Q (F0 m 38 ls []) := by
  have hx := hC.1
  have hb := hC.2.1
  intro d
  induction d with
  | zero =>
    intro j H locs ls hd hw hl
    have e : j = M := by omega
    subst e
    refine lv_iload hx hb d_M_nth_38 (lv_at hl 0 rfl) ?_
    refine lv_aload_n hx hb d_M_nth_40 rfl (lv_at hl 3 rfl) ?_
    refine mg_made (v := y.1 2) hC hw fl_M_67 d_M_nth_41 rfl ?_
    refine ga_asi (v := nI j) (hM) ?_
    refine lv_icmp_ge (tgt := 130) hx hb d_M_nth_44 (by decide) (fun c_44 => ?_) (fun c_44 => ?_)
    · exact kx H locs ls hw hl
    · exact absurd (Int32.le_refl _) c_44
  | succ d ih =>
    intro j H locs ls hd hw hl
    have hj2 : j < M := by omega
    refine lv_iload hx hb d_M_nth_38 (lv_at hl 0 rfl) ?_
    refine lv_aload_n hx hb d_M_nth_40 rfl (lv_at hl 3 rfl) ?_
    refine mg_made (v := y.1 2) hC hw fl_M_67 d_M_nth_41 rfl ?_
    refine ga_asi (v := nI M) (hM) ?_
    refine lv_icmp_ge (tgt := 130) hx hb d_M_nth_44 (by decide) (fun c_44 => ?_) (fun c_44 => ?_)
    · exact absurd c_44 (nI_ge hj2 (by omega))
    · refine lv_aload_n hx hb d_M_nth_47 rfl (lv_at hl 3 rfl) ?_
      refine mg_there hC hw fl_M_28 d_M_nth_48 ?_
      refine lv_iload hx hb d_M_nth_51 (lv_at hl 0 rfl) ?_
      refine mr_there (v := (ma_A y 6) j) hC hw (vp_in_nI (by omega) (by decide)) d_M_nth_53 (by rw [nI_clamp (by omega)] <;> rfl) ?_
      refine lv_if_eq (tgt := 75) hx hb d_M_nth_54 (by decide) (fun c_54 => ?_) (fun c_54 => ?_)
      · refine lv_iconst (v := 0) hx hb d_M_nth_75 (by decide) ?_
        refine lv_istore (lv' := [(6, .int 0), (5, .int (nI j)), (4, .int (nI (ma_bef y i j))), (3, .int (nI i)), (0, .ref (a 0)), (1, .int k9), (2, .int 0)]) hx hb d_M_nth_76 hl (by decide) rfl (fun ls hl => ?_)
        refine lv_iload hx hb d_M_nth_78 (lv_at hl 0 rfl) ?_
        refine lv_if_eq (tgt := 124) hx hb d_M_nth_80 (by decide) (fun c_80 => ?_) (fun c_80 => ?_)
        · refine lv_iinc (v := nI (j + 1)) (lv' := [(5, .int (nI (j + 1))), (6, .int 0), (4, .int (nI (ma_bef y i j))), (3, .int (nI i)), (0, .ref (a 0)), (1, .int k9), (2, .int 0)]) hx hb d_M_nth_124 hl (k := 1) rfl (nI_1 j) (by decide) rfl (fun ls hl => ?_)
          refine lv_goto (tgt := 38) hx hb d_M_nth_127 (by decide) ?_
          have e := ma_bef_0 (y := y) (i := i) (j := j) (fun h => h.1.1 c_54)
          exact ih (j + 1) H locs ls (by omega) hw (by rw [e]; exact (lv_sub hl [0, 2, 3, 4, 5, 6] rfl))
        · exact absurd c_80 (by decide)
      · refine lv_iload_n hx hb d_M_nth_57 rfl (lv_at hl 5 rfl) ?_
        refine lv_if_ne (tgt := 71) hx hb d_M_nth_58 (by decide) (fun c_58 => ?_) (fun c_58 => ?_)
        · exact absurd c_58 (by decide)
        · refine lv_aload_n hx hb d_M_nth_61 rfl (lv_at hl 3 rfl) ?_
          refine mg_sorts hC hw fl_M_13 d_M_nth_62 ?_
          refine lv_iload hx hb d_M_nth_65 (lv_at hl 0 rfl) ?_
          refine mr_sorts (v := (ma_A y 1) j) hC hw (vp_in_nI (by omega) (by decide)) d_M_nth_67 (by rw [nI_clamp (by omega)] <;> rfl) ?_
          refine lv_if_ne (tgt := 75) hx hb d_M_nth_68 (by decide) (fun c_68 => ?_) (fun c_68 => ?_)
          · refine lv_iconst (v := 0) hx hb d_M_nth_75 (by decide) ?_
            refine lv_istore (lv' := [(6, .int 0), (5, .int (nI j)), (4, .int (nI (ma_bef y i j))), (3, .int (nI i)), (0, .ref (a 0)), (1, .int k9), (2, .int 0)]) hx hb d_M_nth_76 hl (by decide) rfl (fun ls hl => ?_)
            refine lv_iload hx hb d_M_nth_78 (lv_at hl 0 rfl) ?_
            refine lv_if_eq (tgt := 124) hx hb d_M_nth_80 (by decide) (fun c_80 => ?_) (fun c_80 => ?_)
            · refine lv_iinc (v := nI (j + 1)) (lv' := [(5, .int (nI (j + 1))), (6, .int 0), (4, .int (nI (ma_bef y i j))), (3, .int (nI i)), (0, .ref (a 0)), (1, .int k9), (2, .int 0)]) hx hb d_M_nth_124 hl (k := 1) rfl (nI_1 j) (by decide) rfl (fun ls hl => ?_)
              refine lv_goto (tgt := 38) hx hb d_M_nth_127 (by decide) ?_
              have e := ma_bef_0 (y := y) (i := i) (j := j) (fun h => c_68 h.1.2)
              exact ih (j + 1) H locs ls (by omega) hw (by rw [e]; exact (lv_sub hl [0, 2, 3, 4, 5, 6] rfl))
            · exact absurd c_80 (by decide)
          · refine lv_iconst (v := 1) hx hb d_M_nth_71 (by decide) ?_
            refine lv_goto (tgt := 76) hx hb d_M_nth_72 (by decide) ?_
            refine lv_istore (lv' := [(6, .int 1), (5, .int (nI j)), (4, .int (nI (ma_bef y i j))), (3, .int (nI i)), (0, .ref (a 0)), (1, .int k9), (2, .int 0)]) hx hb d_M_nth_76 hl (by decide) rfl (fun ls hl => ?_)
            refine lv_iload hx hb d_M_nth_78 (lv_at hl 0 rfl) ?_
            refine lv_if_eq (tgt := 124) hx hb d_M_nth_80 (by decide) (fun c_80 => ?_) (fun c_80 => ?_)
            · exact absurd c_80 (by decide)
            · refine lv_aload_n hx hb d_M_nth_83 rfl (lv_at hl 4 rfl) ?_
              refine mg_times hC hw fl_M_7 d_M_nth_84 ?_
              refine lv_iload hx hb d_M_nth_87 (lv_at hl 1 rfl) ?_
              refine mr_times (v := (ma_A y 0) j) hC hw (vp_in_nI (by omega) (by decide)) d_M_nth_89 (by rw [nI_clamp (by omega)] <;> rfl) ?_
              refine lv_aload_n hx hb d_M_nth_90 rfl (lv_at hl 4 rfl) ?_
              refine mg_times hC hw fl_M_7 d_M_nth_91 ?_
              refine lv_iload_n hx hb d_M_nth_94 rfl (lv_at hl 3 rfl) ?_
              refine mr_times (v := (ma_A y 0) i) hC hw (vp_in_nI (by omega) (by decide)) d_M_nth_95 (by rw [nI_clamp (by omega)] <;> rfl) ?_
              refine lv_icmp_lt (tgt := 121) hx hb d_M_nth_96 (by decide) (fun c_96 => ?_) (fun c_96 => ?_)
              · refine lv_iinc (v := nI (ma_bef y i j + 1)) (lv' := [(4, .int (nI (ma_bef y i j + 1))), (6, .int 1), (5, .int (nI j)), (3, .int (nI i)), (0, .ref (a 0)), (1, .int k9), (2, .int 0)]) hx hb d_M_nth_121 hl (k := 2) rfl (nI_1 _) (by decide) rfl (fun ls hl => ?_)
                refine lv_iinc (v := nI (j + 1)) (lv' := [(5, .int (nI (j + 1))), (4, .int (nI (ma_bef y i j + 1))), (6, .int 1), (3, .int (nI i)), (0, .ref (a 0)), (1, .int k9), (2, .int 0)]) hx hb d_M_nth_124 hl (k := 2) rfl (nI_1 j) (by decide) rfl (fun ls hl => ?_)
                refine lv_goto (tgt := 38) hx hb d_M_nth_127 (by decide) ?_
                have e := ma_bef_1 (y := y) (i := i) (j := j) ⟨⟨c_54, c_68⟩, Or.inl c_96⟩
                exact ih (j + 1) H locs ls (by omega) hw (by rw [e]; exact (lv_sub hl [0, 1, 3, 4, 5, 6] rfl))
              · refine lv_aload_n hx hb d_M_nth_99 rfl (lv_at hl 4 rfl) ?_
                refine mg_times hC hw fl_M_7 d_M_nth_100 ?_
                refine lv_iload hx hb d_M_nth_103 (lv_at hl 1 rfl) ?_
                refine mr_times (v := (ma_A y 0) j) hC hw (vp_in_nI (by omega) (by decide)) d_M_nth_105 (by rw [nI_clamp (by omega)] <;> rfl) ?_
                refine lv_aload_n hx hb d_M_nth_106 rfl (lv_at hl 4 rfl) ?_
                refine mg_times hC hw fl_M_7 d_M_nth_107 ?_
                refine lv_iload_n hx hb d_M_nth_110 rfl (lv_at hl 3 rfl) ?_
                refine mr_times (v := (ma_A y 0) i) hC hw (vp_in_nI (by omega) (by decide)) d_M_nth_111 (by rw [nI_clamp (by omega)] <;> rfl) ?_
                refine lv_icmp_ne (tgt := 124) hx hb d_M_nth_112 (by decide) (fun c_112 => ?_) (fun c_112 => ?_)
                · refine lv_iinc (v := nI (j + 1)) (lv' := [(5, .int (nI (j + 1))), (6, .int 1), (4, .int (nI (ma_bef y i j))), (3, .int (nI i)), (0, .ref (a 0)), (1, .int k9), (2, .int 0)]) hx hb d_M_nth_124 hl (k := 1) rfl (nI_1 j) (by decide) rfl (fun ls hl => ?_)
                  refine lv_goto (tgt := 38) hx hb d_M_nth_127 (by decide) ?_
                  have e := ma_bef_0 (y := y) (i := i) (j := j) (fun h => h.2.elim c_96 (fun h => c_112 h.1))
                  exact ih (j + 1) H locs ls (by omega) hw (by rw [e]; exact (lv_sub hl [0, 2, 3, 4, 5, 6] rfl))
                · refine lv_iload hx hb d_M_nth_115 (lv_at hl 1 rfl) ?_
                  refine lv_iload_n hx hb d_M_nth_117 rfl (lv_at hl 3 rfl) ?_
                  refine lv_icmp_ge (tgt := 124) hx hb d_M_nth_118 (by decide) (fun c_118 => ?_) (fun c_118 => ?_)
                  · refine lv_iinc (v := nI (j + 1)) (lv' := [(5, .int (nI (j + 1))), (6, .int 1), (4, .int (nI (ma_bef y i j))), (3, .int (nI i)), (0, .ref (a 0)), (1, .int k9), (2, .int 0)]) hx hb d_M_nth_124 hl (k := 1) rfl (nI_1 j) (by decide) rfl (fun ls hl => ?_)
                    refine lv_goto (tgt := 38) hx hb d_M_nth_127 (by decide) ?_
                    have e := ma_bef_0 (y := y) (i := i) (j := j) (fun h => h.2.elim c_96 (fun h => absurd ((nI_leI (by omega) (by omega)).mp c_118) (by omega)))
                    exact ih (j + 1) H locs ls (by omega) hw (by rw [e]; exact (lv_sub hl [0, 2, 3, 4, 5, 6] rfl))
                  · refine lv_iinc (v := nI (ma_bef y i j + 1)) (lv' := [(4, .int (nI (ma_bef y i j + 1))), (6, .int 1), (5, .int (nI j)), (3, .int (nI i)), (0, .ref (a 0)), (1, .int k9), (2, .int 0)]) hx hb d_M_nth_121 hl (k := 2) rfl (nI_1 _) (by decide) rfl (fun ls hl => ?_)
                    refine lv_iinc (v := nI (j + 1)) (lv' := [(5, .int (nI (j + 1))), (4, .int (nI (ma_bef y i j + 1))), (6, .int 1), (3, .int (nI i)), (0, .ref (a 0)), (1, .int k9), (2, .int 0)]) hx hb d_M_nth_124 hl (k := 2) rfl (nI_1 j) (by decide) rfl (fun ls hl => ?_)
                    refine lv_goto (tgt := 38) hx hb d_M_nth_127 (by decide) ?_
                    have e := ma_bef_1 (y := y) (i := i) (j := j) ⟨⟨c_54, c_68⟩, Or.inr ⟨c_112, Nat.lt_of_not_le (fun h => c_118 (nI_le h (by omega)))⟩⟩
                    exact ih (j + 1) H locs ls (by omega) hw (by rw [e]; exact (lv_sub hl [0, 1, 3, 4, 5, 6] rfl))
set_option maxHeartbeats 4000000 in
set_option maxRecDepth 100000 in
theorem lp_M_nth {p : Program} {l : Launch} {e : Env} {s : State} {m : MethodId} {args : Array Value} {below : List Frame} {meth : Method} {c : Code} {k : xa_k} {a : Nat → Nat} {y : MS} {M sz : Nat} {k9 : Int32} (hC : CallFix p m c b_M_nth 7 s args ga_T "NetWiresModel") (hr : meth.sig.returnType = some .int) (hlocks : meth.locks = false) (hM : y.1 2 = nI M) (hM2 : M ≤ 1700) :
    ∀ (d i : Nat) (H : Heap) (locs : List Loc) (ls : Array Slot), d + i = M → (∀ e, e < i → ma_msg y e → ¬ nI (ma_bef y e M) = k9) → ga_w (xa_K k) (ma_W k a y) (va_A (ma_W k a y) sz) s H locs → lv_has ls 7 [(3, .int (nI i)), (0, .ref (a 0)), (1, .int k9), (2, .int 0)] → W p l e ({ frames := 0, cells := 0, slots := 0, locals := 0 }) s m args below meth c H locs 0 0 (MQ below (va_Qi (fun (r : Int32) (u : MS) => y = u ∧ ma_nth y M k9 r) (ga_post (xa_K k) (ma_W k a y) sz (ma_W k a)) (va_A (ma_W k a y) sz)) args s 0 0 (va_A (ma_W k a y) sz)) (F0 m 2 ls []) := by
  have hx := hC.1
  have hb := hC.2.1
  intro d
  induction d with
  | zero =>
    intro i H locs ls hd hi hw hl
    have e : i = M := by omega
    subst e
    refine lv_iload_n hx hb d_M_nth_2 rfl (lv_at hl 0 rfl) ?_
    refine lv_aload_n hx hb d_M_nth_3 rfl (lv_at hl 1 rfl) ?_
    refine mg_made (v := y.1 2) hC hw fl_M_67 d_M_nth_4 rfl ?_
    refine ga_asi (v := nI i) (hM) ?_
    refine lv_icmp_ge (tgt := 144) hx hb d_M_nth_7 (by decide) (fun c_7 => ?_) (fun c_7 => ?_)
    · refine lv_iconst (v := (-1)) hx hb d_M_nth_144 (by decide) ?_
      exact ga_iret (u := y) hC hr hlocks hw ⟨rfl, Or.inl ⟨rfl, hi⟩⟩ (Nat.le_of_ble_eq_true rfl) (Nat.le_of_ble_eq_true rfl) d_M_nth_145
    · exact absurd (Int32.le_refl _) c_7
  | succ d ih =>
    intro i H locs ls hd hi hw hl
    have hi2 : i < M := by omega
    have hstep : (ma_msg y i → ¬ nI (ma_bef y i M) = k9) → ∀ e, e < i + 1 → ma_msg y e → ¬ nI (ma_bef y e M) = k9 := fun h e he => by
      rcases Nat.lt_or_ge e i with h3 | h3
      · exact hi e h3
      · have e2 : e = i := by omega
        subst e2
        exact h
    refine lv_iload_n hx hb d_M_nth_2 rfl (lv_at hl 0 rfl) ?_
    refine lv_aload_n hx hb d_M_nth_3 rfl (lv_at hl 1 rfl) ?_
    refine mg_made (v := y.1 2) hC hw fl_M_67 d_M_nth_4 rfl ?_
    refine ga_asi (v := nI M) (hM) ?_
    refine lv_icmp_ge (tgt := 144) hx hb d_M_nth_7 (by decide) (fun c_7 => ?_) (fun c_7 => ?_)
    · exact absurd c_7 (nI_ge hi2 (by omega))
    · refine lv_aload_n hx hb d_M_nth_10 rfl (lv_at hl 1 rfl) ?_
      refine mg_there hC hw fl_M_28 d_M_nth_11 ?_
      refine lv_iload_n hx hb d_M_nth_14 rfl (lv_at hl 0 rfl) ?_
      refine mr_there (v := (ma_A y 6) i) hC hw (vp_in_nI (by omega) (by decide)) d_M_nth_15 (by rw [nI_clamp (by omega)] <;> rfl) ?_
      refine lv_if_eq (tgt := 138) hx hb d_M_nth_16 (by decide) (fun c_16 => ?_) (fun c_16 => ?_)
      · refine lv_iinc (v := nI (i + 1)) (lv' := [(3, .int (nI (i + 1))), (0, .ref (a 0)), (1, .int k9), (2, .int 0)]) hx hb d_M_nth_138 hl (k := 0) rfl (nI_1 i) (by decide) rfl (fun ls hl => ?_)
        refine lv_goto (tgt := 2) hx hb d_M_nth_141 (by decide) ?_
        exact ih (i + 1) H locs ls (by omega) (hstep (fun h => absurd c_16 h.1)) hw (lv_sub hl [0, 1, 2, 3] rfl)
      · refine lv_iload_n hx hb d_M_nth_19 rfl (lv_at hl 3 rfl) ?_
        refine lv_if_ne (tgt := 32) hx hb d_M_nth_20 (by decide) (fun c_20 => ?_) (fun c_20 => ?_)
        · exact absurd c_20 (by decide)
        · refine lv_aload_n hx hb d_M_nth_23 rfl (lv_at hl 1 rfl) ?_
          refine mg_sorts hC hw fl_M_13 d_M_nth_24 ?_
          refine lv_iload_n hx hb d_M_nth_27 rfl (lv_at hl 0 rfl) ?_
          refine mr_sorts (v := (ma_A y 1) i) hC hw (vp_in_nI (by omega) (by decide)) d_M_nth_28 (by rw [nI_clamp (by omega)] <;> rfl) ?_
          refine lv_if_ne (tgt := 138) hx hb d_M_nth_29 (by decide) (fun c_29 => ?_) (fun c_29 => ?_)
          · refine lv_iinc (v := nI (i + 1)) (lv' := [(3, .int (nI (i + 1))), (0, .ref (a 0)), (1, .int k9), (2, .int 0)]) hx hb d_M_nth_138 hl (k := 0) rfl (nI_1 i) (by decide) rfl (fun ls hl => ?_)
            refine lv_goto (tgt := 2) hx hb d_M_nth_141 (by decide) ?_
            exact ih (i + 1) H locs ls (by omega) (hstep (fun h => absurd h.2 c_29)) hw (lv_sub hl [0, 1, 2, 3] rfl)
          · refine lv_iconst (v := 0) hx hb d_M_nth_32 (by decide) ?_
            refine lv_istore (lv' := [(4, .int 0), (3, .int (nI i)), (0, .ref (a 0)), (1, .int k9), (2, .int 0)]) hx hb d_M_nth_33 hl (by decide) rfl (fun ls hl => ?_)
            refine lv_iconst (v := 0) hx hb d_M_nth_35 (by decide) ?_
            refine lv_istore (lv' := [(5, .int 0), (4, .int 0), (3, .int (nI i)), (0, .ref (a 0)), (1, .int k9), (2, .int 0)]) hx hb d_M_nth_36 hl (by decide) rfl (fun ls hl => ?_)
            refine lp_M_nth_in hC hM hM2 hi2 (fun H locs ls hw hl => ?_) M 0 H locs ls (Nat.add_zero M) hw (lv_sub hl [0, 1, 2, 3, 4, 5] rfl)
            refine lv_iload hx hb d_M_nth_130 (lv_at hl 1 rfl) ?_
            refine lv_iload_n hx hb d_M_nth_132 rfl (lv_at hl 4 rfl) ?_
            refine lv_icmp_ne (tgt := 138) hx hb d_M_nth_133 (by decide) (fun c_133 => ?_) (fun c_133 => ?_)
            · refine lv_iinc (v := nI (i + 1)) (lv' := [(3, .int (nI (i + 1))), (5, .int (nI M)), (4, .int (nI (ma_bef y i M))), (0, .ref (a 0)), (1, .int k9), (2, .int 0)]) hx hb d_M_nth_138 hl (k := 2) rfl (nI_1 i) (by decide) rfl (fun ls hl => ?_)
              refine lv_goto (tgt := 2) hx hb d_M_nth_141 (by decide) ?_
              exact ih (i + 1) H locs ls (by omega) (hstep (fun _ => c_133)) hw (lv_sub hl [0, 3, 4, 5] rfl)
            · refine lv_iload_n hx hb d_M_nth_136 rfl (lv_at hl 2 rfl) ?_
              exact ga_iret (u := y) hC hr hlocks hw ⟨rfl, Or.inr ⟨i, hi2, rfl, ⟨c_16, c_29⟩, c_133, hi⟩⟩ (Nat.le_of_ble_eq_true rfl) (Nat.le_of_ble_eq_true rfl) d_M_nth_137
set_option maxHeartbeats 4000000 in
set_option maxRecDepth 100000 in
theorem c_M_nth (l : Launch) (k : xa_k) (a : Nat → Nat) (y : MS) (k9 : Int32) (M : Nat) (hM : y.1 2 = nI M) (hM2 : M ≤ 1700) (sz : Nat) : Met l y_M_nth (Cond.code y_M_nth b_M_nth 7 (some .int) :: ga_T) ({ frames := 0, cells := 0, slots := 0, locals := 0 }) (va_Pc [.ref (a 0), .int k9, .int 0] (ga_pre (xa_K k) (ma_W k a y) sz)) (va_Qi (fun (r : Int32) (u : MS) => y = u ∧ ma_nth y M k9 r) (ga_post (xa_K k) (ma_W k a y) sz (ma_W k a)) (va_A (ma_W k a y) sz)) 0 0 (va_A (ma_W k a y) sz) := by
  refine ga_Met (by decide) (Nat.le_of_ble_eq_true rfl) ?_
  intro p e s m below meth c hC hr hlocks _ hw ls hl
  have hx := hC.1
  have hb := hC.2.1
  have hl : lv_has ls 7 [(0, .ref (a 0)), (1, .int k9), (2, .int 0)] := hl
  refine lv_iconst (v := 0) hx hb d_M_nth_0 (by decide) ?_
  refine lv_istore_n (lv' := [(3, .int 0), (0, .ref (a 0)), (1, .int k9), (2, .int 0)]) hx hb d_M_nth_1 rfl hl (by decide) rfl (fun ls hl => ?_)
  exact lp_M_nth hC hr hlocks hM hM2 M 0 s.heap [] ls (Nat.add_zero M) (fun f h => absurd h (Nat.not_lt_zero f)) hw hl

set_option maxHeartbeats 4000000 in
set_option maxRecDepth 100000 in
theorem c_M_drop (l : Launch) (k : xa_k) (a : Nat → Nat) (y : MS) (s9 e9 : Int32) (M : Nat) (hM : y.1 2 = nI M) (hM2 : M ≤ 1700) (sz : Nat) : Met l y_M_drop (Cond.code y_M_drop b_M_drop 4 (some .boolean) :: ga_T) ({ frames := 1, cells := 0, slots := 0, locals := 24 }) (va_Pc [.ref (a 0), .int s9, .int e9] (ga_pre (xa_K k) (ma_W k a y) sz)) (va_Qi (fun (r : Int32) (u : MS) => ma_drp y M s9 e9 r u) (ga_post (xa_K k) (ma_W k a y) sz (ma_W k a)) (va_A (ma_W k a y) sz)) 0 0 (va_A (ma_W k a y) sz) := by
  refine ga_Met (by decide) (Nat.le_of_ble_eq_true rfl) ?_
  intro p e s m below meth c hC hr hlocks _ hw ls hl
  have hx := hC.1
  have hb := hC.2.1
  have hl : lv_has ls 4 [(0, .ref (a 0)), (1, .int s9), (2, .int e9)] := hl
  refine lv_aload_n hx hb d_M_drop_0 rfl (lv_at hl 0 rfl) ?_
  refine lv_iload_n hx hb d_M_drop_1 rfl (lv_at hl 1 rfl) ?_
  refine lv_iload_n hx hb d_M_drop_2 rfl (lv_at hl 2 rfl) ?_
  refine ga_Vi (As := [.int s9, .int e9]) (rest := []) hC hw (c_M_find l k a y s9 e9 M hM hM2 _) m_M_find ml_M_70 (ga_recv hw (q0 := 0) rfl rfl) rfl rfl ⟨Nat.le_of_ble_eq_true rfl, Nat.le_of_ble_eq_true rfl⟩ rfl hl.1 rfl (Nat.le_of_ble_eq_true rfl) d_M_drop_3 ⟨Nat.le_of_ble_eq_true rfl, Nat.le_of_ble_eq_true rfl⟩ (fun r u H locs hp hw => ?_)
  obtain ⟨rfl, hp⟩ := hp
  rcases hp with ⟨rfl, h_3⟩ | ⟨b_3, hb_3, rfl, h_3, g_3⟩
  · refine lv_istore_n (lv' := [(3, .int ((-1))), (0, .ref (a 0)), (1, .int s9), (2, .int e9)]) hx hb d_M_drop_6 rfl hl (by decide) rfl (fun ls hl => ?_)
    refine lv_iload_n hx hb d_M_drop_7 rfl (lv_at hl 0 rfl) ?_
    refine lv_if_lt (tgt := 18) hx hb d_M_drop_8 (by decide) (fun c_8 => ?_) (fun c_8 => ?_)
    · refine lv_iload_n hx hb d_M_drop_18 rfl (lv_at hl 0 rfl) ?_
      refine lv_if_lt (tgt := 26) hx hb d_M_drop_19 (by decide) (fun c_19 => ?_) (fun c_19 => ?_)
      · refine lv_iconst (v := 0) hx hb d_M_drop_26 (by decide) ?_
        exact ga_zret (u := y) hC hr hlocks hw (Or.inl rfl) (Or.inl ⟨rfl, rfl, h_3⟩) (Nat.le_of_ble_eq_true rfl) (Nat.le_of_ble_eq_true rfl) d_M_drop_27
      · exact absurd c_19 (by decide)
    · exact absurd c_8 (by decide)
  · refine lv_istore_n (lv' := [(3, .int (nI b_3)), (0, .ref (a 0)), (1, .int s9), (2, .int e9)]) hx hb d_M_drop_6 rfl hl (by decide) rfl (fun ls hl => ?_)
    refine lv_iload_n hx hb d_M_drop_7 rfl (lv_at hl 0 rfl) ?_
    refine lv_if_lt (tgt := 18) hx hb d_M_drop_8 (by decide) (fun c_8 => ?_) (fun c_8 => ?_)
    · exact absurd c_8 (nI_pos (by omega))
    · refine lv_aload_n hx hb d_M_drop_11 rfl (lv_at hl 1 rfl) ?_
      refine mg_there hC hw fl_M_28 d_M_drop_12 ?_
      refine lv_iload_n hx hb d_M_drop_15 rfl (lv_at hl 0 rfl) ?_
      refine lv_iconst (v := 0) hx hb d_M_drop_16 (by decide) ?_
      refine ms_there hC hw (vp_in_nI (by omega) (by decide)) d_M_drop_17 (fun H locs hw => ?_)
      refine lv_iload_n hx hb d_M_drop_18 rfl (lv_at hl 0 rfl) ?_
      refine lv_if_lt (tgt := 26) hx hb d_M_drop_19 (by decide) (fun c_19 => ?_) (fun c_19 => ?_)
      · exact absurd c_19 (nI_pos (by omega))
      · refine lv_iconst (v := 1) hx hb d_M_drop_22 (by decide) ?_
        refine lv_goto (tgt := 27) hx hb d_M_drop_23 (by decide) ?_
        exact ga_zret (u := ma_sA y 6 (upd (ma_A y 6) (nI b_3).toNatClampNeg (vp_nar .boolean 0))) hC hr hlocks hw (Or.inr rfl) (Or.inr ⟨b_3, hb_3, rfl, h_3, g_3, by rw [nI_clamp (by omega)] <;> rfl⟩) (Nat.le_of_ble_eq_true rfl) (Nat.le_of_ble_eq_true rfl) d_M_drop_27

set_option maxHeartbeats 4000000 in
set_option maxRecDepth 100000 in
theorem c_M_set (l : Launch) (k : xa_k) (a : Nat → Nat) (y : MS) (s9 e9 ti : Int32) (M : Nat) (hM : y.1 2 = nI M) (hM2 : M < 1700) (sz : Nat) : Met l y_M_set (Cond.code y_M_set b_M_set 5 (some .boolean) :: ga_T) ({ frames := 2, cells := 0, slots := 0, locals := 47 }) (va_Pc [.ref (a 0), .int s9, .int e9, .int ti] (ga_pre (xa_K k) (ma_W k a y) sz)) (va_Qi (fun (r : Int32) (u : MS) => ma_set y M s9 e9 ti r u) (ga_post (xa_K k) (ma_W k a y) sz (ma_W k a)) (va_A (ma_W k a y) sz)) 0 0 (va_A (ma_W k a y) sz) := by
  refine ga_Met (by decide) (Nat.le_of_ble_eq_true rfl) ?_
  intro p e s m below meth c hC hr hlocks _ hw ls hl
  have hx := hC.1
  have hb := hC.2.1
  have hl : lv_has ls 5 [(0, .ref (a 0)), (1, .int s9), (2, .int e9), (3, .int ti)] := hl
  refine lv_aload_n hx hb d_M_set_0 rfl (lv_at hl 0 rfl) ?_
  refine lv_iconst (v := 0) hx hb d_M_set_1 (by decide) ?_
  refine mp_thrown hC hw fl_M_51 d_M_set_2 (fun H locs hw => ?_)
  refine lv_iload_n hx hb d_M_set_5 rfl (lv_at hl 2 rfl) ?_
  refine ga_Si (As := [.int e9]) (rest := []) hC hw (c_M_isEnd l k a (ma_sI y 0 0) e9 _) m_M_isEnd ml_M_74 rfl rfl ⟨Nat.le_of_ble_eq_true rfl, Nat.le_of_ble_eq_true rfl⟩ rfl hl.1 rfl (Nat.le_of_ble_eq_true rfl) d_M_set_6 ⟨Nat.le_of_ble_eq_true rfl, Nat.le_of_ble_eq_true rfl⟩ (fun r u H locs hp hw => ?_)
  obtain ⟨rfl, hp⟩ := hp
  rcases hp with ⟨rfl, ⟨h_6, g_6⟩⟩ | ⟨rfl, h_6⟩
  · refine lv_if_ne (tgt := 26) hx hb d_M_set_9 (by decide) (fun c_9 => ?_) (fun c_9 => ?_)
    · refine lv_iload_n hx hb d_M_set_26 rfl (lv_at hl 3 rfl) ?_
      refine lv_iconst (v := 0) hx hb d_M_set_27 (by decide) ?_
      refine lv_ldc (v := 100000) hx hb hC.2.2.2.1 (hC.2.2.2.2 _ kc_M_78) d_M_set_28 ?_
      refine ga_Si (As := [.int ti, .int 0, .int 100000]) (rest := []) hC hw (c_M_within l k a (ma_sI y 0 0) ti 0 100000 _) m_M_within ml_M_54 rfl rfl ⟨Nat.le_of_ble_eq_true rfl, Nat.le_of_ble_eq_true rfl⟩ rfl hl.1 rfl (Nat.le_of_ble_eq_true rfl) d_M_set_30 ⟨Nat.le_of_ble_eq_true rfl, Nat.le_of_ble_eq_true rfl⟩ (fun r u H locs hp hw => ?_)
      obtain ⟨rfl, hp⟩ := hp
      rcases hp with ⟨rfl, ⟨h_30, g_30⟩⟩ | ⟨rfl, h_30⟩
      · refine lv_if_ne (tgt := 50) hx hb d_M_set_33 (by decide) (fun c_33 => ?_) (fun c_33 => ?_)
        · refine lv_aload_n hx hb d_M_set_50 rfl (lv_at hl 0 rfl) ?_
          refine lv_iload_n hx hb d_M_set_51 rfl (lv_at hl 1 rfl) ?_
          refine lv_iload_n hx hb d_M_set_52 rfl (lv_at hl 2 rfl) ?_
          refine ga_Vi (As := [.int s9, .int e9]) (rest := []) hC hw (c_M_drop l k a (ma_sI y 0 0) s9 e9 M hM (Nat.le_of_lt hM2) _) m_M_drop ml_M_79 (ga_recv hw (q0 := 0) rfl rfl) rfl rfl ⟨Nat.le_of_ble_eq_true rfl, Nat.le_of_ble_eq_true rfl⟩ rfl hl.1 rfl (Nat.le_of_ble_eq_true rfl) d_M_set_53 ⟨Nat.le_of_ble_eq_true rfl, Nat.le_of_ble_eq_true rfl⟩ (fun r u H locs hp hw => ?_)
          obtain ⟨r1, er⟩ : ∃ z, z = r := ⟨_, rfl⟩
          subst er
          obtain ⟨u1, eu⟩ : ∃ z, z = u := ⟨_, rfl⟩
          subst eu
          have hp_53 := hp
          refine lv_istore (lv' := [(4, .int r1), (0, .ref (a 0)), (1, .int s9), (2, .int e9), (3, .int ti)]) hx hb d_M_set_56 hl (by decide) rfl (fun ls hl => ?_)
          refine lv_aload_n hx hb d_M_set_58 rfl (lv_at hl 1 rfl) ?_
          refine lv_aload_n hx hb d_M_set_59 rfl (lv_at hl 1 rfl) ?_
          refine mg_now (v := u1.1 1) hC hw fl_M_83 d_M_set_60 rfl ?_
          refine lv_iload_n hx hb d_M_set_63 rfl (lv_at hl 4 rfl) ?_
          refine lv_iadd hx hb d_M_set_64 ?_
          refine lv_iload_n hx hb d_M_set_65 rfl (lv_at hl 2 rfl) ?_
          refine lv_iload_n hx hb d_M_set_66 rfl (lv_at hl 3 rfl) ?_
          refine lv_iconst (v := (-1)) hx hb d_M_set_67 (by decide) ?_
          refine ga_Vi (As := [.int ((u1.1 1) + ti), .int s9, .int e9, .int ((-1))]) (rest := []) hC hw (c_M_event l k a u1 ((u1.1 1) + ti) s9 e9 ((-1)) M (by rw [(ma_drp_b hp_53).2]; exact hM) hM2 _) m_M_event ml_M_86 (ga_recv hw (q0 := 0) rfl rfl) rfl rfl ⟨Nat.le_of_ble_eq_true rfl, Nat.le_of_ble_eq_true rfl⟩ rfl hl.1 rfl (Nat.le_of_ble_eq_true rfl) d_M_set_68 ⟨Nat.le_of_ble_eq_true rfl, Nat.le_of_ble_eq_true rfl⟩ (fun r u H locs hp hw => ?_)
          obtain ⟨rfl, rfl⟩ := hp
          refine lv_pop hx hb d_M_set_71 rfl ?_
          refine lv_iload hx hb d_M_set_72 (lv_at hl 0 rfl) ?_
          exact ga_zret (u := ma_ev u1 M ((u1.1 1) + ti) s9 e9 ((-1))) hC hr hlocks hw (ma_drp_b hp_53).1 (Or.inr (Or.inr ⟨⟨h_6, g_6⟩, ⟨h_30, g_30⟩, u1, hp_53, rfl⟩)) (Nat.le_of_ble_eq_true rfl) (Nat.le_of_ble_eq_true rfl) d_M_set_74
        · exact absurd c_33 (by decide)
      · refine lv_if_ne (tgt := 50) hx hb d_M_set_33 (by decide) (fun c_33 => ?_) (fun c_33 => ?_)
        · exact absurd c_33 (by decide)
        · refine lv_aload_n hx hb d_M_set_36 rfl (lv_at hl 0 rfl) ?_
          refine lv_iconst (v := 2) hx hb d_M_set_37 (by decide) ?_
          refine ga_Vi (As := [.int 2]) (rest := []) hC hw (c_M_fail l k a (ma_sI y 0 0) 2 _) m_M_fail ml_M_58 (ga_recv hw (q0 := 0) rfl rfl) rfl rfl ⟨Nat.le_of_ble_eq_true rfl, Nat.le_of_ble_eq_true rfl⟩ rfl hl.1 rfl (Nat.le_of_ble_eq_true rfl) d_M_set_38 ⟨Nat.le_of_ble_eq_true rfl, Nat.le_of_ble_eq_true rfl⟩ (fun r u H locs hp hw => ?_)
          obtain ⟨rfl, rfl⟩ := hp
          refine lv_if_le (tgt := 48) hx hb d_M_set_41 (by decide) (fun c_41 => ?_) (fun c_41 => ?_)
          · refine lv_iconst (v := 0) hx hb d_M_set_48 (by decide) ?_
            exact ga_zret (u := ma_sI (ma_sI y 0 0) 0 2) hC hr hlocks hw (Or.inl rfl) (Or.inr (Or.inl ⟨⟨h_6, g_6⟩, h_30, rfl, ma_2s⟩)) (Nat.le_of_ble_eq_true rfl) (Nat.le_of_ble_eq_true rfl) d_M_set_49
          · exact absurd c_41 (by decide)
    · exact absurd c_9 (by decide)
  · refine lv_if_ne (tgt := 26) hx hb d_M_set_9 (by decide) (fun c_9 => ?_) (fun c_9 => ?_)
    · exact absurd c_9 (by decide)
    · refine lv_aload_n hx hb d_M_set_12 rfl (lv_at hl 0 rfl) ?_
      refine lv_iconst (v := 1) hx hb d_M_set_13 (by decide) ?_
      refine ga_Vi (As := [.int 1]) (rest := []) hC hw (c_M_fail l k a (ma_sI y 0 0) 1 _) m_M_fail ml_M_58 (ga_recv hw (q0 := 0) rfl rfl) rfl rfl ⟨Nat.le_of_ble_eq_true rfl, Nat.le_of_ble_eq_true rfl⟩ rfl hl.1 rfl (Nat.le_of_ble_eq_true rfl) d_M_set_14 ⟨Nat.le_of_ble_eq_true rfl, Nat.le_of_ble_eq_true rfl⟩ (fun r u H locs hp hw => ?_)
      obtain ⟨rfl, rfl⟩ := hp
      refine lv_if_le (tgt := 24) hx hb d_M_set_17 (by decide) (fun c_17 => ?_) (fun c_17 => ?_)
      · refine lv_iconst (v := 0) hx hb d_M_set_24 (by decide) ?_
        exact ga_zret (u := ma_sI (ma_sI y 0 0) 0 1) hC hr hlocks hw (Or.inl rfl) (Or.inl ⟨h_6, rfl, ma_2s⟩) (Nat.le_of_ble_eq_true rfl) (Nat.le_of_ble_eq_true rfl) d_M_set_25
      · exact absurd c_17 (by decide)

set_option maxHeartbeats 4000000 in
set_option maxRecDepth 100000 in
theorem c_M_unset (l : Launch) (k : xa_k) (a : Nat → Nat) (y : MS) (s9 e9 : Int32) (M : Nat) (hM : y.1 2 = nI M) (hM2 : M ≤ 1700) (sz : Nat) : Met l y_M_unset (Cond.code y_M_unset b_M_unset 3 (some .boolean) :: ga_T) ({ frames := 2, cells := 0, slots := 0, locals := 47 }) (va_Pc [.ref (a 0), .int s9, .int e9] (ga_pre (xa_K k) (ma_W k a y) sz)) (va_Qi (fun (r : Int32) (u : MS) => ma_uns y M s9 e9 r u) (ga_post (xa_K k) (ma_W k a y) sz (ma_W k a)) (va_A (ma_W k a y) sz)) 0 0 (va_A (ma_W k a y) sz) := by
  refine ga_Met (by decide) (Nat.le_of_ble_eq_true rfl) ?_
  intro p e s m below meth c hC hr hlocks _ hw ls hl
  have hx := hC.1
  have hb := hC.2.1
  have hl : lv_has ls 3 [(0, .ref (a 0)), (1, .int s9), (2, .int e9)] := hl
  refine lv_aload_n hx hb d_M_unset_0 rfl (lv_at hl 0 rfl) ?_
  refine lv_iconst (v := 0) hx hb d_M_unset_1 (by decide) ?_
  refine mp_thrown hC hw fl_M_51 d_M_unset_2 (fun H locs hw => ?_)
  refine lv_iload_n hx hb d_M_unset_5 rfl (lv_at hl 2 rfl) ?_
  refine ga_Si (As := [.int e9]) (rest := []) hC hw (c_M_isEnd l k a (ma_sI y 0 0) e9 _) m_M_isEnd ml_M_74 rfl rfl ⟨Nat.le_of_ble_eq_true rfl, Nat.le_of_ble_eq_true rfl⟩ rfl hl.1 rfl (Nat.le_of_ble_eq_true rfl) d_M_unset_6 ⟨Nat.le_of_ble_eq_true rfl, Nat.le_of_ble_eq_true rfl⟩ (fun r u H locs hp hw => ?_)
  obtain ⟨rfl, hp⟩ := hp
  rcases hp with ⟨rfl, ⟨h_6, g_6⟩⟩ | ⟨rfl, h_6⟩
  · refine lv_if_eq (tgt := 21) hx hb d_M_unset_9 (by decide) (fun c_9 => ?_) (fun c_9 => ?_)
    · exact absurd c_9 (by decide)
    · refine lv_aload_n hx hb d_M_unset_12 rfl (lv_at hl 0 rfl) ?_
      refine lv_iload_n hx hb d_M_unset_13 rfl (lv_at hl 1 rfl) ?_
      refine lv_iload_n hx hb d_M_unset_14 rfl (lv_at hl 2 rfl) ?_
      refine ga_Vi (As := [.int s9, .int e9]) (rest := []) hC hw (c_M_drop l k a (ma_sI y 0 0) s9 e9 M hM hM2 _) m_M_drop ml_M_79 (ga_recv hw (q0 := 0) rfl rfl) rfl rfl ⟨Nat.le_of_ble_eq_true rfl, Nat.le_of_ble_eq_true rfl⟩ rfl hl.1 rfl (Nat.le_of_ble_eq_true rfl) d_M_unset_15 ⟨Nat.le_of_ble_eq_true rfl, Nat.le_of_ble_eq_true rfl⟩ (fun r u H locs hp hw => ?_)
      obtain ⟨r1, er⟩ : ∃ z, z = r := ⟨_, rfl⟩
      subst er
      obtain ⟨u1, eu⟩ : ∃ z, z = u := ⟨_, rfl⟩
      subst eu
      have hp_15 := hp
      refine lv_goto (tgt := 34) hx hb d_M_unset_18 (by decide) ?_
      exact ga_zret (u := u1) hC hr hlocks hw (ma_drp_b hp_15).1 (Or.inr ⟨⟨h_6, g_6⟩, hp_15⟩) (Nat.le_of_ble_eq_true rfl) (Nat.le_of_ble_eq_true rfl) d_M_unset_34
  · refine lv_if_eq (tgt := 21) hx hb d_M_unset_9 (by decide) (fun c_9 => ?_) (fun c_9 => ?_)
    · refine lv_aload_n hx hb d_M_unset_21 rfl (lv_at hl 0 rfl) ?_
      refine lv_iconst (v := 1) hx hb d_M_unset_22 (by decide) ?_
      refine ga_Vi (As := [.int 1]) (rest := []) hC hw (c_M_fail l k a (ma_sI y 0 0) 1 _) m_M_fail ml_M_58 (ga_recv hw (q0 := 0) rfl rfl) rfl rfl ⟨Nat.le_of_ble_eq_true rfl, Nat.le_of_ble_eq_true rfl⟩ rfl hl.1 rfl (Nat.le_of_ble_eq_true rfl) d_M_unset_23 ⟨Nat.le_of_ble_eq_true rfl, Nat.le_of_ble_eq_true rfl⟩ (fun r u H locs hp hw => ?_)
      obtain ⟨rfl, rfl⟩ := hp
      refine lv_if_le (tgt := 33) hx hb d_M_unset_26 (by decide) (fun c_26 => ?_) (fun c_26 => ?_)
      · refine lv_iconst (v := 0) hx hb d_M_unset_33 (by decide) ?_
        exact ga_zret (u := ma_sI (ma_sI y 0 0) 0 1) hC hr hlocks hw (Or.inl rfl) (Or.inl ⟨h_6, rfl, ma_2s⟩) (Nat.le_of_ble_eq_true rfl) (Nat.le_of_ble_eq_true rfl) d_M_unset_34
      · exact absurd c_26 (by decide)
    · exact absurd c_9 (by decide)

set_option maxHeartbeats 4000000 in
set_option maxRecDepth 100000 in
theorem c_M_alarm (l : Launch) (k : xa_k) (a : Nat → Nat) (y : MS) (e9 ti : Int32) (M : Nat) (hM : y.1 2 = nI M) (hM2 : M < 1700) (sz : Nat) : Met l y_M_alarm (Cond.code y_M_alarm b_M_alarm 3 (some .boolean) :: ga_T) ({ frames := 3, cells := 0, slots := 0, locals := 71 }) (va_Pc [.ref (a 0), .int e9, .int ti] (ga_pre (xa_K k) (ma_W k a y) sz)) (va_Qi (fun (r : Int32) (u : MS) => ma_set y M 1 e9 ti r u) (ga_post (xa_K k) (ma_W k a y) sz (ma_W k a)) (va_A (ma_W k a y) sz)) 0 0 (va_A (ma_W k a y) sz) := by
  refine ga_Met (by decide) (Nat.le_of_ble_eq_true rfl) ?_
  intro p e s m below meth c hC hr hlocks _ hw ls hl
  have hx := hC.1
  have hb := hC.2.1
  have hl : lv_has ls 3 [(0, .ref (a 0)), (1, .int e9), (2, .int ti)] := hl
  refine lv_aload_n hx hb d_M_alarm_0 rfl (lv_at hl 0 rfl) ?_
  refine lv_iconst (v := 1) hx hb d_M_alarm_1 (by decide) ?_
  refine lv_iload_n hx hb d_M_alarm_2 rfl (lv_at hl 1 rfl) ?_
  refine lv_iload_n hx hb d_M_alarm_3 rfl (lv_at hl 2 rfl) ?_
  refine ga_Vi (As := [.int 1, .int e9, .int ti]) (rest := []) hC hw (c_M_set l k a y 1 e9 ti M hM hM2 _) m_M_set ml_M_90 (ga_recv hw (q0 := 0) rfl rfl) rfl rfl ⟨Nat.le_of_ble_eq_true rfl, Nat.le_of_ble_eq_true rfl⟩ rfl hl.1 rfl (Nat.le_of_ble_eq_true rfl) d_M_alarm_4 ⟨Nat.le_of_ble_eq_true rfl, Nat.le_of_ble_eq_true rfl⟩ (fun r u H locs hp hw => ?_)
  obtain ⟨r1, er⟩ : ∃ z, z = r := ⟨_, rfl⟩
  subst er
  obtain ⟨u1, eu⟩ : ∃ z, z = u := ⟨_, rfl⟩
  subst eu
  have hp_4 := hp
  exact ga_zret (u := u1) hC hr hlocks hw (ma_set_b hp_4) hp_4 (Nat.le_of_ble_eq_true rfl) (Nat.le_of_ble_eq_true rfl) d_M_alarm_7

set_option maxHeartbeats 4000000 in
set_option maxRecDepth 100000 in
theorem c_M_sync (l : Launch) (k : xa_k) (a : Nat → Nat) (y : MS) (e9 ti : Int32) (M : Nat) (hM : y.1 2 = nI M) (hM2 : M < 1700) (sz : Nat) : Met l y_M_sync (Cond.code y_M_sync b_M_sync 3 (some .boolean) :: ga_T) ({ frames := 3, cells := 0, slots := 0, locals := 71 }) (va_Pc [.ref (a 0), .int e9, .int ti] (ga_pre (xa_K k) (ma_W k a y) sz)) (va_Qi (fun (r : Int32) (u : MS) => ma_set y M 2 e9 ti r u) (ga_post (xa_K k) (ma_W k a y) sz (ma_W k a)) (va_A (ma_W k a y) sz)) 0 0 (va_A (ma_W k a y) sz) := by
  refine ga_Met (by decide) (Nat.le_of_ble_eq_true rfl) ?_
  intro p e s m below meth c hC hr hlocks _ hw ls hl
  have hx := hC.1
  have hb := hC.2.1
  have hl : lv_has ls 3 [(0, .ref (a 0)), (1, .int e9), (2, .int ti)] := hl
  refine lv_aload_n hx hb d_M_sync_0 rfl (lv_at hl 0 rfl) ?_
  refine lv_iconst (v := 2) hx hb d_M_sync_1 (by decide) ?_
  refine lv_iload_n hx hb d_M_sync_2 rfl (lv_at hl 1 rfl) ?_
  refine lv_iload_n hx hb d_M_sync_3 rfl (lv_at hl 2 rfl) ?_
  refine ga_Vi (As := [.int 2, .int e9, .int ti]) (rest := []) hC hw (c_M_set l k a y 2 e9 ti M hM hM2 _) m_M_set ml_M_90 (ga_recv hw (q0 := 0) rfl rfl) rfl rfl ⟨Nat.le_of_ble_eq_true rfl, Nat.le_of_ble_eq_true rfl⟩ rfl hl.1 rfl (Nat.le_of_ble_eq_true rfl) d_M_sync_4 ⟨Nat.le_of_ble_eq_true rfl, Nat.le_of_ble_eq_true rfl⟩ (fun r u H locs hp hw => ?_)
  obtain ⟨r1, er⟩ : ∃ z, z = r := ⟨_, rfl⟩
  subst er
  obtain ⟨u1, eu⟩ : ∃ z, z = u := ⟨_, rfl⟩
  subst eu
  have hp_4 := hp
  exact ga_zret (u := u1) hC hr hlocks hw (ma_set_b hp_4) hp_4 (Nat.le_of_ble_eq_true rfl) (Nat.le_of_ble_eq_true rfl) d_M_sync_7

set_option maxHeartbeats 4000000 in
set_option maxRecDepth 100000 in
theorem c_M_noAlarm (l : Launch) (k : xa_k) (a : Nat → Nat) (y : MS) (e9 : Int32) (M : Nat) (hM : y.1 2 = nI M) (hM2 : M ≤ 1700) (sz : Nat) : Met l y_M_noAlarm (Cond.code y_M_noAlarm b_M_noAlarm 2 (some .boolean) :: ga_T) ({ frames := 3, cells := 0, slots := 0, locals := 69 }) (va_Pc [.ref (a 0), .int e9] (ga_pre (xa_K k) (ma_W k a y) sz)) (va_Qi (fun (r : Int32) (u : MS) => ma_uns y M 1 e9 r u) (ga_post (xa_K k) (ma_W k a y) sz (ma_W k a)) (va_A (ma_W k a y) sz)) 0 0 (va_A (ma_W k a y) sz) := by
  refine ga_Met (by decide) (Nat.le_of_ble_eq_true rfl) ?_
  intro p e s m below meth c hC hr hlocks _ hw ls hl
  have hx := hC.1
  have hb := hC.2.1
  have hl : lv_has ls 2 [(0, .ref (a 0)), (1, .int e9)] := hl
  refine lv_aload_n hx hb d_M_noAlarm_0 rfl (lv_at hl 0 rfl) ?_
  refine lv_iconst (v := 1) hx hb d_M_noAlarm_1 (by decide) ?_
  refine lv_iload_n hx hb d_M_noAlarm_2 rfl (lv_at hl 1 rfl) ?_
  refine ga_Vi (As := [.int 1, .int e9]) (rest := []) hC hw (c_M_unset l k a y 1 e9 M hM hM2 _) m_M_unset ml_M_93 (ga_recv hw (q0 := 0) rfl rfl) rfl rfl ⟨Nat.le_of_ble_eq_true rfl, Nat.le_of_ble_eq_true rfl⟩ rfl hl.1 rfl (Nat.le_of_ble_eq_true rfl) d_M_noAlarm_3 ⟨Nat.le_of_ble_eq_true rfl, Nat.le_of_ble_eq_true rfl⟩ (fun r u H locs hp hw => ?_)
  obtain ⟨r1, er⟩ : ∃ z, z = r := ⟨_, rfl⟩
  subst er
  obtain ⟨u1, eu⟩ : ∃ z, z = u := ⟨_, rfl⟩
  subst eu
  have hp_3 := hp
  exact ga_zret (u := u1) hC hr hlocks hw (ma_uns_b hp_3) hp_3 (Nat.le_of_ble_eq_true rfl) (Nat.le_of_ble_eq_true rfl) d_M_noAlarm_6

set_option maxHeartbeats 4000000 in
set_option maxRecDepth 100000 in
theorem c_M_noSync (l : Launch) (k : xa_k) (a : Nat → Nat) (y : MS) (e9 : Int32) (M : Nat) (hM : y.1 2 = nI M) (hM2 : M ≤ 1700) (sz : Nat) : Met l y_M_noSync (Cond.code y_M_noSync b_M_noSync 2 (some .boolean) :: ga_T) ({ frames := 3, cells := 0, slots := 0, locals := 69 }) (va_Pc [.ref (a 0), .int e9] (ga_pre (xa_K k) (ma_W k a y) sz)) (va_Qi (fun (r : Int32) (u : MS) => ma_uns y M 2 e9 r u) (ga_post (xa_K k) (ma_W k a y) sz (ma_W k a)) (va_A (ma_W k a y) sz)) 0 0 (va_A (ma_W k a y) sz) := by
  refine ga_Met (by decide) (Nat.le_of_ble_eq_true rfl) ?_
  intro p e s m below meth c hC hr hlocks _ hw ls hl
  have hx := hC.1
  have hb := hC.2.1
  have hl : lv_has ls 2 [(0, .ref (a 0)), (1, .int e9)] := hl
  refine lv_aload_n hx hb d_M_noSync_0 rfl (lv_at hl 0 rfl) ?_
  refine lv_iconst (v := 2) hx hb d_M_noSync_1 (by decide) ?_
  refine lv_iload_n hx hb d_M_noSync_2 rfl (lv_at hl 1 rfl) ?_
  refine ga_Vi (As := [.int 2, .int e9]) (rest := []) hC hw (c_M_unset l k a y 2 e9 M hM hM2 _) m_M_unset ml_M_93 (ga_recv hw (q0 := 0) rfl rfl) rfl rfl ⟨Nat.le_of_ble_eq_true rfl, Nat.le_of_ble_eq_true rfl⟩ rfl hl.1 rfl (Nat.le_of_ble_eq_true rfl) d_M_noSync_3 ⟨Nat.le_of_ble_eq_true rfl, Nat.le_of_ble_eq_true rfl⟩ (fun r u H locs hp hw => ?_)
  obtain ⟨r1, er⟩ : ∃ z, z = r := ⟨_, rfl⟩
  subst er
  obtain ⟨u1, eu⟩ : ∃ z, z = u := ⟨_, rfl⟩
  subst eu
  have hp_3 := hp
  exact ga_zret (u := u1) hC hr hlocks hw (ma_uns_b hp_3) hp_3 (Nat.le_of_ble_eq_true rfl) (Nat.le_of_ble_eq_true rfl) d_M_noSync_6

set_option maxHeartbeats 4000000 in
set_option maxRecDepth 100000 in
theorem c_M_go (l : Launch) (k : xa_k) (a : Nat → Nat) (y : MS) (fr to lt bg sz9 : Int32) (M i9 j9 : Nat) (hM : y.1 2 = nI M) (hM2 : M < 1700) (hfr9 : fr = nI i9) (hi9 : i9 < 16) (hto9 : to = nI j9) (hj9 : j9 < 16) (sz : Nat) : Met l y_M_go (Cond.code y_M_go b_M_go 7 (some .boolean) :: ga_T) ({ frames := 1, cells := 0, slots := 0, locals := 24 }) (va_Pc [.ref (a 0), .int fr, .int to, .int lt, .int bg, .int sz9] (ga_pre (xa_K k) (ma_W k a y) sz)) (va_Qi (fun (r : Int32) (u : MS) => ma_go y M i9 j9 fr to lt bg sz9 r u) (ga_post (xa_K k) (ma_W k a y) sz (ma_W k a)) (va_A (ma_W k a y) sz)) 0 0 (va_A (ma_W k a y) sz) := by
  refine ga_Met (by decide) (Nat.le_of_ble_eq_true rfl) ?_
  intro p e s m below meth c hC hr hlocks _ hw ls hl
  have hx := hC.1
  have hb := hC.2.1
  have hl : lv_has ls 7 [(0, .ref (a 0)), (1, .int fr), (2, .int to), (3, .int lt), (4, .int bg), (5, .int sz9)] := hl
  refine lv_aload_n hx hb d_M_go_0 rfl (lv_at hl 0 rfl) ?_
  refine mg_onTheWay (v := y.1 10) hC hw fl_M_107 d_M_go_1 rfl ?_
  refine lv_sipush (v := 200) hx hb d_M_go_4 (by decide) ?_
  refine lv_icmp_ne (tgt := 22) hx hb d_M_go_7 (by decide) (fun c_7 => ?_) (fun c_7 => ?_)
  · refine lv_aload_n hx hb d_M_go_22 rfl (lv_at hl 0 rfl) ?_
    refine lv_dup hx hb d_M_go_23 rfl ?_
    refine mg_sent (v := y.1 11) hC hw fl_M_113 d_M_go_24 rfl ?_
    refine lv_iconst (v := 1) hx hb d_M_go_27 (by decide) ?_
    refine lv_iadd hx hb d_M_go_28 ?_
    refine mp_sent hC hw fl_M_113 d_M_go_29 (fun H locs hw => ?_)
    refine lv_aload_n hx hb d_M_go_32 rfl (lv_at hl 0 rfl) ?_
    refine lv_aload_n hx hb d_M_go_33 rfl (lv_at hl 0 rfl) ?_
    refine mg_now (v := y.1 1) hC hw fl_M_83 d_M_go_34 rfl ?_
    refine lv_aload_n hx hb d_M_go_37 rfl (lv_at hl 0 rfl) ?_
    refine mg_delays hC hw fl_M_38 d_M_go_38 ?_
    refine lv_bipush (v := 16) hx hb d_M_go_41 (by decide) ?_
    refine lv_iload_n hx hb d_M_go_43 rfl (lv_at hl 1 rfl) ?_
    refine lv_imul hx hb d_M_go_44 ?_
    refine lv_iload_n hx hb d_M_go_45 rfl (lv_at hl 2 rfl) ?_
    refine lv_iadd hx hb d_M_go_46 ?_
    refine ga_asi (v := nI (16 * i9 + j9)) (by rw [hfr9, hto9]; exact (congrArg (· + nI j9) (pk_mul 16 i9)).trans (nI_add _ _)) ?_
    refine mr_delays (v := ma_A y 9 (16 * i9 + j9)) hC hw (vp_in_nI (by omega) (by decide)) d_M_go_47 (by rw [nI_clamp (by omega)] <;> rfl) ?_
    refine lv_iadd hx hb d_M_go_48 ?_
    refine lv_iload_n hx hb d_M_go_49 rfl (lv_at hl 3 rfl) ?_
    refine lv_iadd hx hb d_M_go_50 ?_
    refine lv_iconst (v := 0) hx hb d_M_go_51 (by decide) ?_
    refine lv_iload_n hx hb d_M_go_52 rfl (lv_at hl 2 rfl) ?_
    refine lv_iload_n hx hb d_M_go_53 rfl (lv_at hl 1 rfl) ?_
    refine ga_Vi (As := [.int (((y.1 1) + (ma_A y 9 (16 * i9 + j9))) + lt), .int 0, .int to, .int fr]) (rest := []) hC hw (c_M_event l k a (ma_sI y 11 ((y.1 11) + 1)) (((y.1 1) + (ma_A y 9 (16 * i9 + j9))) + lt) 0 to fr M hM hM2 _) m_M_event ml_M_86 (ga_recv hw (q0 := 0) rfl rfl) rfl rfl ⟨Nat.le_of_ble_eq_true rfl, Nat.le_of_ble_eq_true rfl⟩ rfl hl.1 rfl (Nat.le_of_ble_eq_true rfl) d_M_go_54 ⟨Nat.le_of_ble_eq_true rfl, Nat.le_of_ble_eq_true rfl⟩ (fun r u H locs hp hw => ?_)
    obtain ⟨rfl, rfl⟩ := hp
    refine lv_istore (lv' := [(6, .int (nI M)), (0, .ref (a 0)), (1, .int fr), (2, .int to), (3, .int lt), (4, .int bg), (5, .int sz9)]) hx hb d_M_go_57 hl (by decide) rfl (fun ls hl => ?_)
    refine lv_aload_n hx hb d_M_go_59 rfl (lv_at hl 1 rfl) ?_
    refine mg_begins hC hw fl_M_22 d_M_go_60 ?_
    refine lv_iload hx hb d_M_go_63 (lv_at hl 0 rfl) ?_
    refine lv_iload hx hb d_M_go_65 (lv_at hl 5 rfl) ?_
    refine ms_begins hC hw (vp_in_nI (by omega) (by decide)) d_M_go_67 (fun H locs hw => ?_)
    refine lv_aload_n hx hb d_M_go_68 rfl (lv_at hl 1 rfl) ?_
    refine mg_sizes hC hw fl_M_25 d_M_go_69 ?_
    refine lv_iload hx hb d_M_go_72 (lv_at hl 0 rfl) ?_
    refine lv_iload hx hb d_M_go_74 (lv_at hl 6 rfl) ?_
    refine ms_sizes hC hw (vp_in_nI (by omega) (by decide)) d_M_go_76 (fun H locs hw => ?_)
    refine lv_aload_n hx hb d_M_go_77 rfl (lv_at hl 1 rfl) ?_
    refine lv_dup hx hb d_M_go_78 rfl ?_
    refine mg_onTheWay (v := (ma_ev (ma_sI y 11 ((y.1 11) + 1)) M (((y.1 1) + (ma_A y 9 (16 * i9 + j9))) + lt) 0 to fr).1 10) hC hw fl_M_107 d_M_go_79 rfl ?_
    refine lv_iconst (v := 1) hx hb d_M_go_82 (by decide) ?_
    refine lv_iadd hx hb d_M_go_83 ?_
    refine mp_onTheWay hC hw fl_M_107 d_M_go_84 (fun H locs hw => ?_)
    refine lv_iconst (v := 1) hx hb d_M_go_87 (by decide) ?_
    exact ga_zret (u := ma_sI (ma_sA (ma_sA (ma_ev (ma_sI y 11 ((y.1 11) + 1)) M (((y.1 1) + (ma_A y 9 (16 * i9 + j9))) + lt) 0 to fr) 4 (upd (ma_A (ma_ev (ma_sI y 11 ((y.1 11) + 1)) M (((y.1 1) + (ma_A y 9 (16 * i9 + j9))) + lt) 0 to fr) 4) (nI M).toNatClampNeg bg)) 5 (upd (ma_A (ma_ev (ma_sI y 11 ((y.1 11) + 1)) M (((y.1 1) + (ma_A y 9 (16 * i9 + j9))) + lt) 0 to fr) 5) (nI M).toNatClampNeg sz9)) 10 (((ma_ev (ma_sI y 11 ((y.1 11) + 1)) M (((y.1 1) + (ma_A y 9 (16 * i9 + j9))) + lt) 0 to fr).1 10) + 1)) hC hr hlocks hw (Or.inr rfl) (Or.inr ⟨c_7, rfl, by rw [nI_clamp (by omega)] <;> rfl⟩) (Nat.le_of_ble_eq_true rfl) (Nat.le_of_ble_eq_true rfl) d_M_go_88
  · refine lv_aload_n hx hb d_M_go_10 rfl (lv_at hl 0 rfl) ?_
    refine lv_dup hx hb d_M_go_11 rfl ?_
    refine mg_lost (v := y.1 12) hC hw fl_M_110 d_M_go_12 rfl ?_
    refine lv_iconst (v := 1) hx hb d_M_go_15 (by decide) ?_
    refine lv_iadd hx hb d_M_go_16 ?_
    refine mp_lost hC hw fl_M_110 d_M_go_17 (fun H locs hw => ?_)
    refine lv_iconst (v := 0) hx hb d_M_go_20 (by decide) ?_
    exact ga_zret (u := ma_sI y 12 ((y.1 12) + 1)) hC hr hlocks hw (Or.inl rfl) (Or.inl ⟨c_7, rfl, rfl⟩) (Nat.le_of_ble_eq_true rfl) (Nat.le_of_ble_eq_true rfl) d_M_go_21
set_option maxHeartbeats 4000000 in
set_option maxRecDepth 100000 in
theorem lp_M_feed {p : Program} {l : Launch} {e : Env} {s : State} {m : MethodId} {args : Array Value} {below : List Frame} {meth : Method} {c : Code} {Q : State → Prop} {A : Nat → Prop} {k : xa_k} {a : Nat → Nat} {y : MS} {e9 : Int64} {t n : Nat} (hC : CallFix p m c b_M_feed 5 s args ga_T "NetWiresModel") (ht : y.1 4 = nI t) (hn : n ≤ 8) (ht2 : t + n ≤ 2048)
    (kx : ∀ (H : Heap) (locs : List Loc) (ls : Array Slot), ga_w (xa_K k) (ma_W k a (ma_sA (ma_sI y 0 0) 8 (ma_fd (ma_A y 8) t e9 n))) A s H locs → lv_has ls 5 [(4, .int (nI n)), (0, .ref (a 0)), (1, .long e9), (3, .int (nI n))] → W p l e ({ frames := 1, cells := 0, slots := 0, locals := 22 }) s m args below meth c H locs 0 0 Q (F0 m 78 ls [])) :
    ∀ (d i : Nat) (H : Heap) (locs : List Loc) (ls : Array Slot), d + i = n → ga_w (xa_K k) (ma_W k a (ma_sA (ma_sI y 0 0) 8 (ma_fd (ma_A y 8) t e9 i))) A s H locs → lv_has ls 5 [(4, .int (nI i)), (0, .ref (a 0)), (1, .long e9), (3, .int (nI n))] → W p l e ({ frames := 1, cells := 0, slots := 0, locals := 22 }) s m args below meth c H locs 0 0 Q (F0 m 42 ls []) := by
  have hx := hC.1
  have hb := hC.2.1
  intro d
  induction d with
  | zero =>
    intro i H locs ls hd hw hl
    have e : i = n := by omega
    subst e
    refine lv_iload hx hb d_M_feed_42 (lv_at hl 0 rfl) ?_
    refine lv_iload_n hx hb d_M_feed_44 rfl (lv_at hl 3 rfl) ?_
    refine lv_icmp_ge (tgt := 78) hx hb d_M_feed_45 (by decide) (fun c_45 => ?_) (fun c_45 => ?_)
    · exact kx H locs ls hw hl
    · exact absurd (Int32.le_refl _) c_45
  | succ d ih =>
    intro i H locs ls hd hw hl
    have hi2 : i < n := by omega
    refine lv_iload hx hb d_M_feed_42 (lv_at hl 0 rfl) ?_
    refine lv_iload_n hx hb d_M_feed_44 rfl (lv_at hl 3 rfl) ?_
    refine lv_icmp_ge (tgt := 78) hx hb d_M_feed_45 (by decide) (fun c_45 => ?_) (fun c_45 => ?_)
    · exact absurd c_45 (nI_ge hi2 (by omega))
    · refine lv_aload_n hx hb d_M_feed_48 rfl (lv_at hl 1 rfl) ?_
      refine mg_fed hC hw fl_M_35 d_M_feed_49 ?_
      refine lv_aload_n hx hb d_M_feed_52 rfl (lv_at hl 1 rfl) ?_
      refine mg_tape (v := (ma_sA (ma_sI y 0 0) 8 (ma_fd (ma_A y 8) t e9 i)).1 4) hC hw fl_M_62 d_M_feed_53 rfl ?_
      refine ga_asi (v := nI t) (ht) ?_
      refine lv_iload hx hb d_M_feed_56 (lv_at hl 0 rfl) ?_
      refine lv_iadd hx hb d_M_feed_58 ?_
      refine ga_asi (v := nI (t + i)) (nI_add t i) ?_
      refine lv_lload_n hx hb d_M_feed_59 rfl (lv_at hl 2 rfl) ?_
      refine lv_bipush (v := 8) hx hb d_M_feed_60 (by decide) ?_
      refine lv_iload hx hb d_M_feed_62 (lv_at hl 0 rfl) ?_
      refine lv_imul hx hb d_M_feed_64 ?_
      refine lv_lshr hx hb d_M_feed_65 rfl ?_
      refine lv_ldc2 (v := 255) hx hb hC.2.2.2.1 (hC.2.2.2.2 _ kc_M_65) d_M_feed_66 ?_
      refine lv_land hx hb d_M_feed_69 ?_
      refine lv_l2i hx hb d_M_feed_70 rfl ?_
      refine ms_fed hC hw (vp_in_nI (by omega) (by decide)) d_M_feed_71 (fun H locs hw => ?_)
      have hw : ga_w (xa_K k) (ma_W k a (ma_sA (ma_sI y 0 0) 8 (ma_fd (ma_A y 8) t e9 (i + 1)))) A s H locs := by rw [← ma_fd_s]; rw [nI_clamp (by omega)] at hw; exact hw
      refine lv_iinc (v := nI (i + 1)) (lv' := [(4, .int (nI (i + 1))), (0, .ref (a 0)), (1, .long e9), (3, .int (nI n))]) hx hb d_M_feed_72 hl (k := 0) rfl (nI_1 i) (by decide) rfl (fun ls hl => ?_)
      refine lv_goto (tgt := 42) hx hb d_M_feed_75 (by decide) ?_
      exact ih (i + 1) H locs ls (by omega) hw hl
set_option maxHeartbeats 4000000 in
set_option maxRecDepth 100000 in
theorem c_M_feed (l : Launch) (k : xa_k) (a : Nat → Nat) (y : MS) (e9 : Int64) (n9 : Int32) (t : Nat) (ht : y.1 4 = nI t) (ht2 : t ≤ 2048) (sz : Nat) : Met l y_M_feed (Cond.code y_M_feed b_M_feed 5 (some .int) :: ga_T) ({ frames := 1, cells := 0, slots := 0, locals := 22 }) (va_Pc [.ref (a 0), .long e9, .int n9] (ga_pre (xa_K k) (ma_W k a y) sz)) (va_Qi (fun (r : Int32) (u : MS) => ((n9 < 1 ∨ ¬ n9 ≤ 8) ∧ r = 0 ∧ u = ma_sI y 0 1) ∨ (∃ n, 1 ≤ n ∧ n ≤ 8 ∧ n9 = nI n ∧ 2048 < t + n ∧ r = 0 ∧ u = ma_sI y 0 2) ∨ (∃ n, 1 ≤ n ∧ n ≤ 8 ∧ n9 = nI n ∧ t + n ≤ 2048 ∧ r = nI (t + n) ∧ u = ma_sI (ma_sA (ma_sI y 0 0) 8 (ma_fd (ma_A y 8) t e9 n)) 4 (nI (t + n)))) (ga_post (xa_K k) (ma_W k a y) sz (ma_W k a)) (va_A (ma_W k a y) sz)) 0 0 (va_A (ma_W k a y) sz) := by
  refine ga_Met (by decide) (Nat.le_of_ble_eq_true rfl) ?_
  intro p e s m below meth c hC hr hlocks _ hw ls hl
  have hx := hC.1
  have hb := hC.2.1
  have hl : lv_has ls 5 [(0, .ref (a 0)), (1, .long e9), (3, .int n9)] := hl
  refine lv_aload_n hx hb d_M_feed_0 rfl (lv_at hl 0 rfl) ?_
  refine lv_iconst (v := 0) hx hb d_M_feed_1 (by decide) ?_
  refine mp_thrown hC hw fl_M_51 d_M_feed_2 (fun H locs hw => ?_)
  refine lv_iload_n hx hb d_M_feed_5 rfl (lv_at hl 2 rfl) ?_
  refine lv_iconst (v := 1) hx hb d_M_feed_6 (by decide) ?_
  refine lv_bipush (v := 8) hx hb d_M_feed_7 (by decide) ?_
  refine ga_Si (As := [.int n9, .int 1, .int 8]) (rest := []) hC hw (c_M_within l k a (ma_sI y 0 0) n9 1 8 _) m_M_within ml_M_54 rfl rfl ⟨Nat.le_of_ble_eq_true rfl, Nat.le_of_ble_eq_true rfl⟩ rfl hl.1 rfl (Nat.le_of_ble_eq_true rfl) d_M_feed_9 ⟨Nat.le_of_ble_eq_true rfl, Nat.le_of_ble_eq_true rfl⟩ (fun r u H locs hp hw => ?_)
  obtain ⟨rfl, hp⟩ := hp
  rcases hp with ⟨rfl, ⟨h_9, g_9⟩⟩ | ⟨rfl, h_9⟩
  · refine lv_if_ne (tgt := 21) hx hb d_M_feed_12 (by decide) (fun c_12 => ?_) (fun c_12 => ?_)
    · obtain ⟨n, hn2, hn1, rfl⟩ := xa_1to8 h_9 (Int32.not_lt.mp g_9)
      refine lv_aload_n hx hb d_M_feed_21 rfl (lv_at hl 0 rfl) ?_
      refine mg_tape (v := y.1 4) hC hw fl_M_62 d_M_feed_22 rfl ?_
      refine ga_asi (v := nI t) (ht) ?_
      refine lv_iload_n hx hb d_M_feed_25 rfl (lv_at hl 2 rfl) ?_
      refine lv_iadd hx hb d_M_feed_26 ?_
      refine ga_asi (v := nI (t + n)) (nI_add t n) ?_
      refine lv_sipush (v := 2048) hx hb d_M_feed_27 (by decide) ?_
      refine lv_icmp_le (tgt := 39) hx hb d_M_feed_30 (by decide) (fun c_30 => ?_) (fun c_30 => ?_)
      · refine lv_iconst (v := 0) hx hb d_M_feed_39 (by decide) ?_
        refine lv_istore (lv' := [(4, .int 0), (0, .ref (a 0)), (1, .long e9), (3, .int (nI n))]) hx hb d_M_feed_40 hl (by decide) rfl (fun ls hl => ?_)
        have hlt : t + n ≤ 2048 := (nI_leI (by omega) (by decide)).mp c_30
        have hw : ga_w (xa_K k) (ma_W k a (ma_sA (ma_sI y 0 0) 8 (ma_fd (ma_A y 8) t e9 0))) (va_A (ma_W k a y) sz) s H locs := by rw [ma_fd_0, ma_sA_id (y := ma_sI y 0 0) (i := 8) (f := ma_A y 8) rfl]; exact hw
        refine lp_M_feed hC ht hn2 hlt (fun H locs ls hw hl => ?_) n 0 H locs ls (Nat.add_zero n) hw hl
        refine lv_aload_n hx hb d_M_feed_78 rfl (lv_at hl 1 rfl) ?_
        refine lv_dup hx hb d_M_feed_79 rfl ?_
        refine mg_tape (v := (ma_sA (ma_sI y 0 0) 8 (ma_fd (ma_A y 8) t e9 n)).1 4) hC hw fl_M_62 d_M_feed_80 rfl ?_
        refine ga_asi (v := nI t) (ht) ?_
        refine lv_iload_n hx hb d_M_feed_83 rfl (lv_at hl 3 rfl) ?_
        refine lv_iadd hx hb d_M_feed_84 ?_
        refine ga_asi (v := nI (t + n)) (nI_add t n) ?_
        refine mp_tape hC hw fl_M_62 d_M_feed_85 (fun H locs hw => ?_)
        refine lv_aload_n hx hb d_M_feed_88 rfl (lv_at hl 1 rfl) ?_
        refine mg_tape (v := nI (t + n)) hC hw fl_M_62 d_M_feed_89 rfl ?_
        exact ga_iret (u := ma_sI (ma_sA (ma_sI y 0 0) 8 (ma_fd (ma_A y 8) t e9 n)) 4 (nI (t + n))) hC hr hlocks hw (Or.inr (Or.inr ⟨n, hn1, hn2, rfl, hlt, rfl, rfl⟩)) (Nat.le_of_ble_eq_true rfl) (Nat.le_of_ble_eq_true rfl) d_M_feed_92
      · refine lv_aload_n hx hb d_M_feed_33 rfl (lv_at hl 0 rfl) ?_
        refine lv_iconst (v := 2) hx hb d_M_feed_34 (by decide) ?_
        refine ga_Vi (As := [.int 2]) (rest := []) hC hw (c_M_fail l k a (ma_sI y 0 0) 2 _) m_M_fail ml_M_58 (ga_recv hw (q0 := 0) rfl rfl) rfl rfl ⟨Nat.le_of_ble_eq_true rfl, Nat.le_of_ble_eq_true rfl⟩ rfl hl.1 rfl (Nat.le_of_ble_eq_true rfl) d_M_feed_35 ⟨Nat.le_of_ble_eq_true rfl, Nat.le_of_ble_eq_true rfl⟩ (fun r u H locs hp hw => ?_)
        obtain ⟨rfl, rfl⟩ := hp
        exact ga_iret (u := ma_sI (ma_sI y 0 0) 0 2) hC hr hlocks hw (Or.inr (Or.inl ⟨n, hn1, hn2, rfl, Nat.lt_of_not_le (fun h => c_30 (nI_le h (by decide))), rfl, ma_2s⟩)) (Nat.le_of_ble_eq_true rfl) (Nat.le_of_ble_eq_true rfl) d_M_feed_38
    · exact absurd c_12 (by decide)
  · refine lv_if_ne (tgt := 21) hx hb d_M_feed_12 (by decide) (fun c_12 => ?_) (fun c_12 => ?_)
    · exact absurd c_12 (by decide)
    · refine lv_aload_n hx hb d_M_feed_15 rfl (lv_at hl 0 rfl) ?_
      refine lv_iconst (v := 1) hx hb d_M_feed_16 (by decide) ?_
      refine ga_Vi (As := [.int 1]) (rest := []) hC hw (c_M_fail l k a (ma_sI y 0 0) 1 _) m_M_fail ml_M_58 (ga_recv hw (q0 := 0) rfl rfl) rfl rfl ⟨Nat.le_of_ble_eq_true rfl, Nat.le_of_ble_eq_true rfl⟩ rfl hl.1 rfl (Nat.le_of_ble_eq_true rfl) d_M_feed_17 ⟨Nat.le_of_ble_eq_true rfl, Nat.le_of_ble_eq_true rfl⟩ (fun r u H locs hp hw => ?_)
      obtain ⟨rfl, rfl⟩ := hp
      exact ga_iret (u := ma_sI (ma_sI y 0 0) 0 1) hC hr hlocks hw (Or.inl ⟨h_9.imp id (fun h => Int32.not_le.mpr h), rfl, ma_2s⟩) (Nat.le_of_ble_eq_true rfl) (Nat.le_of_ble_eq_true rfl) d_M_feed_20
