set_option maxHeartbeats 4000000 in
set_option maxRecDepth 100000 in
theorem c_M_meddle (l : Launch) (k : xa_k) (a : Nat → Nat) (y : MS) (k9 wh ti : Int32) (M : Nat) (hM : y.1 2 = nI M) (hM2 : M < 1700) (hep : ∀ e, e < M → ma_msg y e → ∃ a9 b9, a9 < 16 ∧ ma_A y 3 e = nI a9 ∧ b9 < 16 ∧ ma_A y 2 e = nI b9) (sz : Nat) : Met l y_M_meddle (Cond.code y_M_meddle b_M_meddle 6 (some .boolean) :: ga_T) ({ frames := 2, cells := 0, slots := 0, locals := 50 }) (va_Pc [.ref (a 0), .int k9, .int wh, .int ti] (ga_pre (xa_K k) (ma_W k a y) sz)) (va_Qi (fun (r : Int32) (u : MS) => (¬ ma_okm wh ti ∧ r = 0 ∧ u = ma_sI y 0 1) ∨ (ma_okm wh ti ∧ ((r = 0 ∧ u = ma_sI y 0 0 ∧ ma_nom y M k9) ∨ (r = 1 ∧ ∃ e, ma_isM y M k9 e ∧ ((wh = 1 ∧ ∃ a9 b9 r2, a9 < 16 ∧ ma_A y 3 e = nI a9 ∧ b9 < 16 ∧ ma_A y 2 e = nI b9 ∧ ma_go (ma_sI y 0 0) M a9 b9 (ma_A y 3 e) (ma_A y 2 e) 0 (ma_A y 4 e) (ma_A y 5 e) r2 u) ∨ (wh = 0 ∧ u = ma_sI (ma_sI (ma_sA (ma_sI y 0 0) 6 (upd (ma_A y 6) e 0)) 12 (y.1 12 + 1)) 10 (y.1 10 - 1)) ∨ (¬ wh = 0 ∧ ¬ wh = 1 ∧ u = ma_sA (ma_sA (ma_ev (ma_sA (ma_sI y 0 0) 6 (upd (ma_A y 6) e 0)) M (ma_A y 0 e + ti) 0 (ma_A y 2 e) (ma_A y 3 e)) 4 (upd (ma_A y 4) M (ma_A y 4 e))) 5 (upd (ma_A y 5) M (ma_A y 5 e)))))))) (ga_post (xa_K k) (ma_W k a y) sz (ma_W k a)) (va_A (ma_W k a y) sz)) 0 0 (va_A (ma_W k a y) sz) := by
  refine ga_Met (by decide) (Nat.le_of_ble_eq_true rfl) ?_
  intro p e s m below meth c hC hr hlocks _ hw ls hl
  have hx := hC.1
  have hb := hC.2.1
  have hl : lv_has ls 6 [(0, .ref (a 0)), (1, .int k9), (2, .int wh), (3, .int ti)] := hl
  refine lv_aload_n hx hb d_M_meddle_0 rfl (lv_at hl 0 rfl) ?_
  refine lv_iconst (v := 0) hx hb d_M_meddle_1 (by decide) ?_
  refine mp_thrown hC hw fl_M_51 d_M_meddle_2 (fun H locs hw => ?_)
  refine lv_iload_n hx hb d_M_meddle_5 rfl (lv_at hl 2 rfl) ?_
  refine lv_iconst (v := 0) hx hb d_M_meddle_6 (by decide) ?_
  refine lv_iconst (v := 2) hx hb d_M_meddle_7 (by decide) ?_
  refine ga_Si (As := [.int wh, .int 0, .int 2]) (rest := []) hC hw (c_M_within l k a (ma_sI y 0 0) wh 0 2 _) m_M_within ml_M_54 rfl rfl ⟨Nat.le_of_ble_eq_true rfl, Nat.le_of_ble_eq_true rfl⟩ rfl hl.1 rfl (Nat.le_of_ble_eq_true rfl) d_M_meddle_8 ⟨Nat.le_of_ble_eq_true rfl, Nat.le_of_ble_eq_true rfl⟩ (fun r u H locs hp hw => ?_)
  obtain ⟨rfl, hp⟩ := hp
  rcases hp with ⟨rfl, ⟨h_8, g_8⟩⟩ | ⟨rfl, h_8⟩
  · refine lv_if_eq (tgt := 34) hx hb d_M_meddle_11 (by decide) (fun c_11 => ?_) (fun c_11 => ?_)
    · exact absurd c_11 (by decide)
    · refine lv_iload_n hx hb d_M_meddle_14 rfl (lv_at hl 3 rfl) ?_
      refine lv_iconst (v := 0) hx hb d_M_meddle_15 (by decide) ?_
      refine lv_iload_n hx hb d_M_meddle_16 rfl (lv_at hl 2 rfl) ?_
      refine lv_iconst (v := 2) hx hb d_M_meddle_17 (by decide) ?_
      refine lv_icmp_ne (tgt := 27) hx hb d_M_meddle_18 (by decide) (fun c_18 => ?_) (fun c_18 => ?_)
      · refine lv_iconst (v := 0) hx hb d_M_meddle_27 (by decide) ?_
        refine ga_Si (As := [.int ti, .int 0, .int 0]) (rest := []) hC hw (c_M_within l k a (ma_sI y 0 0) ti 0 0 _) m_M_within ml_M_54 rfl rfl ⟨Nat.le_of_ble_eq_true rfl, Nat.le_of_ble_eq_true rfl⟩ rfl hl.1 rfl (Nat.le_of_ble_eq_true rfl) d_M_meddle_28 ⟨Nat.le_of_ble_eq_true rfl, Nat.le_of_ble_eq_true rfl⟩ (fun r u H locs hp hw => ?_)
        obtain ⟨rfl, hp⟩ := hp
        rcases hp with ⟨rfl, ⟨h_28, g_28⟩⟩ | ⟨rfl, h_28⟩
        · refine lv_if_ne (tgt := 48) hx hb d_M_meddle_31 (by decide) (fun c_31 => ?_) (fun c_31 => ?_)
          · refine lv_aload_n hx hb d_M_meddle_48 rfl (lv_at hl 0 rfl) ?_
            refine lv_iload_n hx hb d_M_meddle_49 rfl (lv_at hl 1 rfl) ?_
            refine lv_iconst (v := 0) hx hb d_M_meddle_50 (by decide) ?_
            refine ga_Vi (As := [.int k9, .int 0]) (rest := []) hC hw (c_M_nth l k a (ma_sI y 0 0) k9 M hM (Nat.le_of_lt hM2) _) m_M_nth ml_M_138 (ga_recv hw (q0 := 0) rfl rfl) rfl rfl ⟨Nat.le_of_ble_eq_true rfl, Nat.le_of_ble_eq_true rfl⟩ rfl hl.1 rfl (Nat.le_of_ble_eq_true rfl) d_M_meddle_51 ⟨Nat.le_of_ble_eq_true rfl, Nat.le_of_ble_eq_true rfl⟩ (fun r u H locs hp hw => ?_)
            obtain ⟨rfl, hp⟩ := hp
            have hp := ma_nth_I (y := y) (u := ma_sI y 0 0) rfl hp
            rcases hp with ⟨rfl, h_51⟩ | ⟨b_51, hb_51, rfl, h_51, g_51, k_51⟩
            · refine lv_istore (lv' := [(4, .int ((-1))), (0, .ref (a 0)), (1, .int k9), (2, .int wh), (3, .int ti)]) hx hb d_M_meddle_54 hl (by decide) rfl (fun ls hl => ?_)
              refine lv_iload hx hb d_M_meddle_56 (lv_at hl 0 rfl) ?_
              refine lv_if_ge (tgt := 63) hx hb d_M_meddle_58 (by decide) (fun c_58 => ?_) (fun c_58 => ?_)
              · exact absurd c_58 (by decide)
              · refine lv_iconst (v := 0) hx hb d_M_meddle_61 (by decide) ?_
                exact ga_zret (u := ma_sI y 0 0) hC hr hlocks hw (Or.inl rfl) (Or.inr ⟨⟨⟨h_8, g_8⟩, Or.inr ⟨c_18, h_28, g_28⟩⟩, Or.inl ⟨rfl, rfl, h_51⟩⟩) (Nat.le_of_ble_eq_true rfl) (Nat.le_of_ble_eq_true rfl) d_M_meddle_62
            · refine lv_istore (lv' := [(4, .int (nI b_51)), (0, .ref (a 0)), (1, .int k9), (2, .int wh), (3, .int ti)]) hx hb d_M_meddle_54 hl (by decide) rfl (fun ls hl => ?_)
              refine lv_iload hx hb d_M_meddle_56 (lv_at hl 0 rfl) ?_
              refine lv_if_ge (tgt := 63) hx hb d_M_meddle_58 (by decide) (fun c_58 => ?_) (fun c_58 => ?_)
              · obtain ⟨a9, b9, ha9, ea9, hb9, eb9⟩ := hep b_51 hb_51 h_51
                refine lv_iload_n hx hb d_M_meddle_63 rfl (lv_at hl 3 rfl) ?_
                refine lv_iconst (v := 1) hx hb d_M_meddle_64 (by decide) ?_
                refine lv_icmp_ne (tgt := 104) hx hb d_M_meddle_65 (by decide) (fun c_65 => ?_) (fun c_65 => ?_)
                · refine lv_aload_n hx hb d_M_meddle_104 rfl (lv_at hl 1 rfl) ?_
                  refine mg_there hC hw fl_M_28 d_M_meddle_105 ?_
                  refine lv_iload hx hb d_M_meddle_108 (lv_at hl 0 rfl) ?_
                  refine lv_iconst (v := 0) hx hb d_M_meddle_110 (by decide) ?_
                  refine ms_there hC hw (vp_in_nI (by omega) (by decide)) d_M_meddle_111 (fun H locs hw => ?_)
                  refine lv_iload_n hx hb d_M_meddle_112 rfl (lv_at hl 3 rfl) ?_
                  refine lv_if_ne (tgt := 139) hx hb d_M_meddle_113 (by decide) (fun c_113 => ?_) (fun c_113 => ?_)
                  · refine lv_aload_n hx hb d_M_meddle_139 rfl (lv_at hl 1 rfl) ?_
                    refine lv_aload_n hx hb d_M_meddle_140 rfl (lv_at hl 1 rfl) ?_
                    refine mg_times hC hw fl_M_7 d_M_meddle_141 ?_
                    refine lv_iload hx hb d_M_meddle_144 (lv_at hl 0 rfl) ?_
                    refine mr_times (v := (ma_A y 0) b_51) hC hw (vp_in_nI (by omega) (by decide)) d_M_meddle_146 (by rw [nI_clamp (by omega)] <;> rfl) ?_
                    refine lv_iload_n hx hb d_M_meddle_147 rfl (lv_at hl 4 rfl) ?_
                    refine lv_iadd hx hb d_M_meddle_148 ?_
                    refine lv_iconst (v := 0) hx hb d_M_meddle_149 (by decide) ?_
                    refine lv_aload_n hx hb d_M_meddle_150 rfl (lv_at hl 1 rfl) ?_
                    refine mg_whose hC hw fl_M_16 d_M_meddle_151 ?_
                    refine lv_iload hx hb d_M_meddle_154 (lv_at hl 0 rfl) ?_
                    refine mr_whose (v := (ma_A y 2) b_51) hC hw (vp_in_nI (by omega) (by decide)) d_M_meddle_156 (by rw [nI_clamp (by omega)] <;> rfl) ?_
                    refine lv_aload_n hx hb d_M_meddle_157 rfl (lv_at hl 1 rfl) ?_
                    refine mg_froms hC hw fl_M_19 d_M_meddle_158 ?_
                    refine lv_iload hx hb d_M_meddle_161 (lv_at hl 0 rfl) ?_
                    refine mr_froms (v := (ma_A y 3) b_51) hC hw (vp_in_nI (by omega) (by decide)) d_M_meddle_163 (by rw [nI_clamp (by omega)] <;> rfl) ?_
                    refine ga_Vi (As := [.int (((ma_A y 0) b_51) + ti), .int 0, .int ((ma_A y 2) b_51), .int ((ma_A y 3) b_51)]) (rest := []) hC hw (c_M_event l k a (ma_sA (ma_sI y 0 0) 6 (upd (ma_A y 6) (nI b_51).toNatClampNeg (vp_nar .boolean 0))) (((ma_A y 0) b_51) + ti) 0 ((ma_A y 2) b_51) ((ma_A y 3) b_51) M hM hM2 _) m_M_event ml_M_86 (ga_recv hw (q0 := 0) rfl rfl) rfl rfl ⟨Nat.le_of_ble_eq_true rfl, Nat.le_of_ble_eq_true rfl⟩ rfl hl.1 rfl (Nat.le_of_ble_eq_true rfl) d_M_meddle_164 ⟨Nat.le_of_ble_eq_true rfl, Nat.le_of_ble_eq_true rfl⟩ (fun r u H locs hp hw => ?_)
                    obtain ⟨rfl, rfl⟩ := hp
                    refine lv_istore (lv' := [(5, .int (nI M)), (4, .int (nI b_51)), (0, .ref (a 0)), (1, .int k9), (2, .int wh), (3, .int ti)]) hx hb d_M_meddle_167 hl (by decide) rfl (fun ls hl => ?_)
                    refine lv_aload_n hx hb d_M_meddle_169 rfl (lv_at hl 2 rfl) ?_
                    refine mg_begins hC hw fl_M_22 d_M_meddle_170 ?_
                    refine lv_iload hx hb d_M_meddle_173 (lv_at hl 0 rfl) ?_
                    refine lv_aload_n hx hb d_M_meddle_175 rfl (lv_at hl 2 rfl) ?_
                    refine mg_begins hC hw fl_M_22 d_M_meddle_176 ?_
                    refine lv_iload hx hb d_M_meddle_179 (lv_at hl 1 rfl) ?_
                    refine mr_begins (v := (ma_A (ma_ev (ma_sA (ma_sI y 0 0) 6 (upd (ma_A y 6) (nI b_51).toNatClampNeg (vp_nar .boolean 0))) M (((ma_A y 0) b_51) + ti) 0 ((ma_A y 2) b_51) ((ma_A y 3) b_51)) 4) b_51) hC hw (vp_in_nI (by omega) (by decide)) d_M_meddle_181 (by rw [nI_clamp (by omega)] <;> rfl) ?_
                    refine ms_begins hC hw (vp_in_nI (by omega) (by decide)) d_M_meddle_182 (fun H locs hw => ?_)
                    refine lv_aload_n hx hb d_M_meddle_183 rfl (lv_at hl 2 rfl) ?_
                    refine mg_sizes hC hw fl_M_25 d_M_meddle_184 ?_
                    refine lv_iload hx hb d_M_meddle_187 (lv_at hl 0 rfl) ?_
                    refine lv_aload_n hx hb d_M_meddle_189 rfl (lv_at hl 2 rfl) ?_
                    refine mg_sizes hC hw fl_M_25 d_M_meddle_190 ?_
                    refine lv_iload hx hb d_M_meddle_193 (lv_at hl 1 rfl) ?_
                    refine mr_sizes (v := (ma_A (ma_ev (ma_sA (ma_sI y 0 0) 6 (upd (ma_A y 6) (nI b_51).toNatClampNeg (vp_nar .boolean 0))) M (((ma_A y 0) b_51) + ti) 0 ((ma_A y 2) b_51) ((ma_A y 3) b_51)) 5) b_51) hC hw (vp_in_nI (by omega) (by decide)) d_M_meddle_195 (by rw [nI_clamp (by omega)] <;> rfl) ?_
                    refine ms_sizes hC hw (vp_in_nI (by omega) (by decide)) d_M_meddle_196 (fun H locs hw => ?_)
                    refine lv_iconst (v := 1) hx hb d_M_meddle_197 (by decide) ?_
                    exact ga_zret (u := ma_sA (ma_sA (ma_ev (ma_sA (ma_sI y 0 0) 6 (upd (ma_A y 6) (nI b_51).toNatClampNeg (vp_nar .boolean 0))) M (((ma_A y 0) b_51) + ti) 0 ((ma_A y 2) b_51) ((ma_A y 3) b_51)) 4 (upd (ma_A (ma_ev (ma_sA (ma_sI y 0 0) 6 (upd (ma_A y 6) (nI b_51).toNatClampNeg (vp_nar .boolean 0))) M (((ma_A y 0) b_51) + ti) 0 ((ma_A y 2) b_51) ((ma_A y 3) b_51)) 4) (nI M).toNatClampNeg ((ma_A (ma_ev (ma_sA (ma_sI y 0 0) 6 (upd (ma_A y 6) (nI b_51).toNatClampNeg (vp_nar .boolean 0))) M (((ma_A y 0) b_51) + ti) 0 ((ma_A y 2) b_51) ((ma_A y 3) b_51)) 4) b_51))) 5 (upd (ma_A (ma_ev (ma_sA (ma_sI y 0 0) 6 (upd (ma_A y 6) (nI b_51).toNatClampNeg (vp_nar .boolean 0))) M (((ma_A y 0) b_51) + ti) 0 ((ma_A y 2) b_51) ((ma_A y 3) b_51)) 5) (nI M).toNatClampNeg ((ma_A (ma_ev (ma_sA (ma_sI y 0 0) 6 (upd (ma_A y 6) (nI b_51).toNatClampNeg (vp_nar .boolean 0))) M (((ma_A y 0) b_51) + ti) 0 ((ma_A y 2) b_51) ((ma_A y 3) b_51)) 5) b_51))) hC hr hlocks hw (Or.inr rfl) (Or.inr ⟨⟨⟨h_8, g_8⟩, Or.inr ⟨c_18, h_28, g_28⟩⟩, Or.inr ⟨rfl, b_51, ⟨hb_51, h_51, g_51⟩, Or.inr (Or.inr ⟨c_113, c_65, by rw [nI_clamp (n := b_51) (by omega), nI_clamp (n := M) (by omega)] <;> rfl⟩)⟩⟩) (Nat.le_of_ble_eq_true rfl) (Nat.le_of_ble_eq_true rfl) d_M_meddle_198
                  · refine lv_aload_n hx hb d_M_meddle_116 rfl (lv_at hl 1 rfl) ?_
                    refine lv_dup hx hb d_M_meddle_117 rfl ?_
                    refine mg_lost (v := y.1 12) hC hw fl_M_110 d_M_meddle_118 rfl ?_
                    refine lv_iconst (v := 1) hx hb d_M_meddle_121 (by decide) ?_
                    refine lv_iadd hx hb d_M_meddle_122 ?_
                    refine mp_lost hC hw fl_M_110 d_M_meddle_123 (fun H locs hw => ?_)
                    refine lv_aload_n hx hb d_M_meddle_126 rfl (lv_at hl 1 rfl) ?_
                    refine lv_dup hx hb d_M_meddle_127 rfl ?_
                    refine mg_onTheWay (v := y.1 10) hC hw fl_M_107 d_M_meddle_128 rfl ?_
                    refine lv_iconst (v := 1) hx hb d_M_meddle_131 (by decide) ?_
                    refine lv_isub hx hb d_M_meddle_132 ?_
                    refine mp_onTheWay hC hw fl_M_107 d_M_meddle_133 (fun H locs hw => ?_)
                    refine lv_goto (tgt := 197) hx hb d_M_meddle_136 (by decide) ?_
                    refine lv_iconst (v := 1) hx hb d_M_meddle_197 (by decide) ?_
                    exact ga_zret (u := ma_sI (ma_sI (ma_sA (ma_sI y 0 0) 6 (upd (ma_A y 6) (nI b_51).toNatClampNeg (vp_nar .boolean 0))) 12 ((y.1 12) + 1)) 10 ((y.1 10) - 1)) hC hr hlocks hw (Or.inr rfl) (Or.inr ⟨⟨⟨h_8, g_8⟩, Or.inr ⟨c_18, h_28, g_28⟩⟩, Or.inr ⟨rfl, b_51, ⟨hb_51, h_51, g_51⟩, Or.inr (Or.inl ⟨c_113, by rw [nI_clamp (n := b_51) (by omega)] <;> rfl⟩)⟩⟩) (Nat.le_of_ble_eq_true rfl) (Nat.le_of_ble_eq_true rfl) d_M_meddle_198
                · refine lv_aload_n hx hb d_M_meddle_68 rfl (lv_at hl 1 rfl) ?_
                  refine lv_aload_n hx hb d_M_meddle_69 rfl (lv_at hl 1 rfl) ?_
                  refine mg_froms hC hw fl_M_19 d_M_meddle_70 ?_
                  refine lv_iload hx hb d_M_meddle_73 (lv_at hl 0 rfl) ?_
                  refine mr_froms (v := (ma_A y 3) b_51) hC hw (vp_in_nI (by omega) (by decide)) d_M_meddle_75 (by rw [nI_clamp (by omega)] <;> rfl) ?_
                  refine lv_aload_n hx hb d_M_meddle_76 rfl (lv_at hl 1 rfl) ?_
                  refine mg_whose hC hw fl_M_16 d_M_meddle_77 ?_
                  refine lv_iload hx hb d_M_meddle_80 (lv_at hl 0 rfl) ?_
                  refine mr_whose (v := (ma_A y 2) b_51) hC hw (vp_in_nI (by omega) (by decide)) d_M_meddle_82 (by rw [nI_clamp (by omega)] <;> rfl) ?_
                  refine lv_iconst (v := 0) hx hb d_M_meddle_83 (by decide) ?_
                  refine lv_aload_n hx hb d_M_meddle_84 rfl (lv_at hl 1 rfl) ?_
                  refine mg_begins hC hw fl_M_22 d_M_meddle_85 ?_
                  refine lv_iload hx hb d_M_meddle_88 (lv_at hl 0 rfl) ?_
                  refine mr_begins (v := (ma_A y 4) b_51) hC hw (vp_in_nI (by omega) (by decide)) d_M_meddle_90 (by rw [nI_clamp (by omega)] <;> rfl) ?_
                  refine lv_aload_n hx hb d_M_meddle_91 rfl (lv_at hl 1 rfl) ?_
                  refine mg_sizes hC hw fl_M_25 d_M_meddle_92 ?_
                  refine lv_iload hx hb d_M_meddle_95 (lv_at hl 0 rfl) ?_
                  refine mr_sizes (v := (ma_A y 5) b_51) hC hw (vp_in_nI (by omega) (by decide)) d_M_meddle_97 (by rw [nI_clamp (by omega)] <;> rfl) ?_
                  refine ga_Vi (As := [.int ((ma_A y 3) b_51), .int ((ma_A y 2) b_51), .int 0, .int ((ma_A y 4) b_51), .int ((ma_A y 5) b_51)]) (rest := []) hC hw (c_M_go l k a (ma_sI y 0 0) ((ma_A y 3) b_51) ((ma_A y 2) b_51) 0 ((ma_A y 4) b_51) ((ma_A y 5) b_51) M a9 b9 hM hM2 ea9 ha9 eb9 hb9 _) m_M_go ml_M_134 (ga_recv hw (q0 := 0) rfl rfl) rfl rfl ⟨Nat.le_of_ble_eq_true rfl, Nat.le_of_ble_eq_true rfl⟩ rfl hl.1 rfl (Nat.le_of_ble_eq_true rfl) d_M_meddle_98 ⟨Nat.le_of_ble_eq_true rfl, Nat.le_of_ble_eq_true rfl⟩ (fun r u H locs hp hw => ?_)
                  obtain ⟨r1, er⟩ : ∃ z, z = r := ⟨_, rfl⟩
                  subst er
                  obtain ⟨u1, eu⟩ : ∃ z, z = u := ⟨_, rfl⟩
                  subst eu
                  have hp_98 := hp
                  refine lv_pop hx hb d_M_meddle_101 rfl ?_
                  refine lv_iconst (v := 1) hx hb d_M_meddle_102 (by decide) ?_
                  exact ga_zret (u := u1) hC hr hlocks hw (Or.inr rfl) (Or.inr ⟨⟨⟨h_8, g_8⟩, Or.inr ⟨c_18, h_28, g_28⟩⟩, Or.inr ⟨rfl, b_51, ⟨hb_51, h_51, g_51⟩, Or.inl ⟨c_65, a9, b9, _, ha9, ea9, hb9, eb9, hp_98⟩⟩⟩) (Nat.le_of_ble_eq_true rfl) (Nat.le_of_ble_eq_true rfl) d_M_meddle_103
              · exact absurd (nI_pos' (by omega)) c_58
          · exact absurd c_31 (by decide)
        · refine lv_if_ne (tgt := 48) hx hb d_M_meddle_31 (by decide) (fun c_31 => ?_) (fun c_31 => ?_)
          · exact absurd c_31 (by decide)
          · refine lv_aload_n hx hb d_M_meddle_34 rfl (lv_at hl 0 rfl) ?_
            refine lv_iconst (v := 1) hx hb d_M_meddle_35 (by decide) ?_
            refine ga_Vi (As := [.int 1]) (rest := []) hC hw (c_M_fail l k a (ma_sI y 0 0) 1 _) m_M_fail ml_M_58 (ga_recv hw (q0 := 0) rfl rfl) rfl rfl ⟨Nat.le_of_ble_eq_true rfl, Nat.le_of_ble_eq_true rfl⟩ rfl hl.1 rfl (Nat.le_of_ble_eq_true rfl) d_M_meddle_36 ⟨Nat.le_of_ble_eq_true rfl, Nat.le_of_ble_eq_true rfl⟩ (fun r u H locs hp hw => ?_)
            obtain ⟨rfl, rfl⟩ := hp
            refine lv_if_le (tgt := 46) hx hb d_M_meddle_39 (by decide) (fun c_39 => ?_) (fun c_39 => ?_)
            · refine lv_iconst (v := 0) hx hb d_M_meddle_46 (by decide) ?_
              exact ga_zret (u := ma_sI (ma_sI y 0 0) 0 1) hC hr hlocks hw (Or.inl rfl) (Or.inl ⟨fun h => h.2.elim (fun h => c_18 h.1) (fun h => h_28.elim h.2.1 h.2.2), rfl, ma_2s⟩) (Nat.le_of_ble_eq_true rfl) (Nat.le_of_ble_eq_true rfl) d_M_meddle_47
            · exact absurd c_39 (by decide)
      · refine lv_sipush (v := 1000) hx hb d_M_meddle_21 (by decide) ?_
        refine lv_goto (tgt := 28) hx hb d_M_meddle_24 (by decide) ?_
        refine ga_Si (As := [.int ti, .int 0, .int 1000]) (rest := []) hC hw (c_M_within l k a (ma_sI y 0 0) ti 0 1000 _) m_M_within ml_M_54 rfl rfl ⟨Nat.le_of_ble_eq_true rfl, Nat.le_of_ble_eq_true rfl⟩ rfl hl.1 rfl (Nat.le_of_ble_eq_true rfl) d_M_meddle_28 ⟨Nat.le_of_ble_eq_true rfl, Nat.le_of_ble_eq_true rfl⟩ (fun r u H locs hp hw => ?_)
        obtain ⟨rfl, hp⟩ := hp
        rcases hp with ⟨rfl, ⟨h_28, g_28⟩⟩ | ⟨rfl, h_28⟩
        · refine lv_if_ne (tgt := 48) hx hb d_M_meddle_31 (by decide) (fun c_31 => ?_) (fun c_31 => ?_)
          · refine lv_aload_n hx hb d_M_meddle_48 rfl (lv_at hl 0 rfl) ?_
            refine lv_iload_n hx hb d_M_meddle_49 rfl (lv_at hl 1 rfl) ?_
            refine lv_iconst (v := 0) hx hb d_M_meddle_50 (by decide) ?_
            refine ga_Vi (As := [.int k9, .int 0]) (rest := []) hC hw (c_M_nth l k a (ma_sI y 0 0) k9 M hM (Nat.le_of_lt hM2) _) m_M_nth ml_M_138 (ga_recv hw (q0 := 0) rfl rfl) rfl rfl ⟨Nat.le_of_ble_eq_true rfl, Nat.le_of_ble_eq_true rfl⟩ rfl hl.1 rfl (Nat.le_of_ble_eq_true rfl) d_M_meddle_51 ⟨Nat.le_of_ble_eq_true rfl, Nat.le_of_ble_eq_true rfl⟩ (fun r u H locs hp hw => ?_)
            obtain ⟨rfl, hp⟩ := hp
            have hp := ma_nth_I (y := y) (u := ma_sI y 0 0) rfl hp
            rcases hp with ⟨rfl, h_51⟩ | ⟨b_51, hb_51, rfl, h_51, g_51, k_51⟩
            · refine lv_istore (lv' := [(4, .int ((-1))), (0, .ref (a 0)), (1, .int k9), (2, .int wh), (3, .int ti)]) hx hb d_M_meddle_54 hl (by decide) rfl (fun ls hl => ?_)
              refine lv_iload hx hb d_M_meddle_56 (lv_at hl 0 rfl) ?_
              refine lv_if_ge (tgt := 63) hx hb d_M_meddle_58 (by decide) (fun c_58 => ?_) (fun c_58 => ?_)
              · exact absurd c_58 (by decide)
              · refine lv_iconst (v := 0) hx hb d_M_meddle_61 (by decide) ?_
                exact ga_zret (u := ma_sI y 0 0) hC hr hlocks hw (Or.inl rfl) (Or.inr ⟨⟨⟨h_8, g_8⟩, Or.inl ⟨c_18, h_28, g_28⟩⟩, Or.inl ⟨rfl, rfl, h_51⟩⟩) (Nat.le_of_ble_eq_true rfl) (Nat.le_of_ble_eq_true rfl) d_M_meddle_62
            · refine lv_istore (lv' := [(4, .int (nI b_51)), (0, .ref (a 0)), (1, .int k9), (2, .int wh), (3, .int ti)]) hx hb d_M_meddle_54 hl (by decide) rfl (fun ls hl => ?_)
              refine lv_iload hx hb d_M_meddle_56 (lv_at hl 0 rfl) ?_
              refine lv_if_ge (tgt := 63) hx hb d_M_meddle_58 (by decide) (fun c_58 => ?_) (fun c_58 => ?_)
              · obtain ⟨a9, b9, ha9, ea9, hb9, eb9⟩ := hep b_51 hb_51 h_51
                refine lv_iload_n hx hb d_M_meddle_63 rfl (lv_at hl 3 rfl) ?_
                refine lv_iconst (v := 1) hx hb d_M_meddle_64 (by decide) ?_
                refine lv_icmp_ne (tgt := 104) hx hb d_M_meddle_65 (by decide) (fun c_65 => ?_) (fun c_65 => ?_)
                · refine lv_aload_n hx hb d_M_meddle_104 rfl (lv_at hl 1 rfl) ?_
                  refine mg_there hC hw fl_M_28 d_M_meddle_105 ?_
                  refine lv_iload hx hb d_M_meddle_108 (lv_at hl 0 rfl) ?_
                  refine lv_iconst (v := 0) hx hb d_M_meddle_110 (by decide) ?_
                  refine ms_there hC hw (vp_in_nI (by omega) (by decide)) d_M_meddle_111 (fun H locs hw => ?_)
                  refine lv_iload_n hx hb d_M_meddle_112 rfl (lv_at hl 3 rfl) ?_
                  refine lv_if_ne (tgt := 139) hx hb d_M_meddle_113 (by decide) (fun c_113 => ?_) (fun c_113 => ?_)
                  · refine lv_aload_n hx hb d_M_meddle_139 rfl (lv_at hl 1 rfl) ?_
                    refine lv_aload_n hx hb d_M_meddle_140 rfl (lv_at hl 1 rfl) ?_
                    refine mg_times hC hw fl_M_7 d_M_meddle_141 ?_
                    refine lv_iload hx hb d_M_meddle_144 (lv_at hl 0 rfl) ?_
                    refine mr_times (v := (ma_A y 0) b_51) hC hw (vp_in_nI (by omega) (by decide)) d_M_meddle_146 (by rw [nI_clamp (by omega)] <;> rfl) ?_
                    refine lv_iload_n hx hb d_M_meddle_147 rfl (lv_at hl 4 rfl) ?_
                    refine lv_iadd hx hb d_M_meddle_148 ?_
                    refine lv_iconst (v := 0) hx hb d_M_meddle_149 (by decide) ?_
                    refine lv_aload_n hx hb d_M_meddle_150 rfl (lv_at hl 1 rfl) ?_
                    refine mg_whose hC hw fl_M_16 d_M_meddle_151 ?_
                    refine lv_iload hx hb d_M_meddle_154 (lv_at hl 0 rfl) ?_
                    refine mr_whose (v := (ma_A y 2) b_51) hC hw (vp_in_nI (by omega) (by decide)) d_M_meddle_156 (by rw [nI_clamp (by omega)] <;> rfl) ?_
                    refine lv_aload_n hx hb d_M_meddle_157 rfl (lv_at hl 1 rfl) ?_
                    refine mg_froms hC hw fl_M_19 d_M_meddle_158 ?_
                    refine lv_iload hx hb d_M_meddle_161 (lv_at hl 0 rfl) ?_
                    refine mr_froms (v := (ma_A y 3) b_51) hC hw (vp_in_nI (by omega) (by decide)) d_M_meddle_163 (by rw [nI_clamp (by omega)] <;> rfl) ?_
                    refine ga_Vi (As := [.int (((ma_A y 0) b_51) + ti), .int 0, .int ((ma_A y 2) b_51), .int ((ma_A y 3) b_51)]) (rest := []) hC hw (c_M_event l k a (ma_sA (ma_sI y 0 0) 6 (upd (ma_A y 6) (nI b_51).toNatClampNeg (vp_nar .boolean 0))) (((ma_A y 0) b_51) + ti) 0 ((ma_A y 2) b_51) ((ma_A y 3) b_51) M hM hM2 _) m_M_event ml_M_86 (ga_recv hw (q0 := 0) rfl rfl) rfl rfl ⟨Nat.le_of_ble_eq_true rfl, Nat.le_of_ble_eq_true rfl⟩ rfl hl.1 rfl (Nat.le_of_ble_eq_true rfl) d_M_meddle_164 ⟨Nat.le_of_ble_eq_true rfl, Nat.le_of_ble_eq_true rfl⟩ (fun r u H locs hp hw => ?_)
                    obtain ⟨rfl, rfl⟩ := hp
                    refine lv_istore (lv' := [(5, .int (nI M)), (4, .int (nI b_51)), (0, .ref (a 0)), (1, .int k9), (2, .int wh), (3, .int ti)]) hx hb d_M_meddle_167 hl (by decide) rfl (fun ls hl => ?_)
                    refine lv_aload_n hx hb d_M_meddle_169 rfl (lv_at hl 2 rfl) ?_
                    refine mg_begins hC hw fl_M_22 d_M_meddle_170 ?_
                    refine lv_iload hx hb d_M_meddle_173 (lv_at hl 0 rfl) ?_
                    refine lv_aload_n hx hb d_M_meddle_175 rfl (lv_at hl 2 rfl) ?_
                    refine mg_begins hC hw fl_M_22 d_M_meddle_176 ?_
                    refine lv_iload hx hb d_M_meddle_179 (lv_at hl 1 rfl) ?_
                    refine mr_begins (v := (ma_A (ma_ev (ma_sA (ma_sI y 0 0) 6 (upd (ma_A y 6) (nI b_51).toNatClampNeg (vp_nar .boolean 0))) M (((ma_A y 0) b_51) + ti) 0 ((ma_A y 2) b_51) ((ma_A y 3) b_51)) 4) b_51) hC hw (vp_in_nI (by omega) (by decide)) d_M_meddle_181 (by rw [nI_clamp (by omega)] <;> rfl) ?_
                    refine ms_begins hC hw (vp_in_nI (by omega) (by decide)) d_M_meddle_182 (fun H locs hw => ?_)
                    refine lv_aload_n hx hb d_M_meddle_183 rfl (lv_at hl 2 rfl) ?_
                    refine mg_sizes hC hw fl_M_25 d_M_meddle_184 ?_
                    refine lv_iload hx hb d_M_meddle_187 (lv_at hl 0 rfl) ?_
                    refine lv_aload_n hx hb d_M_meddle_189 rfl (lv_at hl 2 rfl) ?_
                    refine mg_sizes hC hw fl_M_25 d_M_meddle_190 ?_
                    refine lv_iload hx hb d_M_meddle_193 (lv_at hl 1 rfl) ?_
                    refine mr_sizes (v := (ma_A (ma_ev (ma_sA (ma_sI y 0 0) 6 (upd (ma_A y 6) (nI b_51).toNatClampNeg (vp_nar .boolean 0))) M (((ma_A y 0) b_51) + ti) 0 ((ma_A y 2) b_51) ((ma_A y 3) b_51)) 5) b_51) hC hw (vp_in_nI (by omega) (by decide)) d_M_meddle_195 (by rw [nI_clamp (by omega)] <;> rfl) ?_
                    refine ms_sizes hC hw (vp_in_nI (by omega) (by decide)) d_M_meddle_196 (fun H locs hw => ?_)
                    refine lv_iconst (v := 1) hx hb d_M_meddle_197 (by decide) ?_
                    exact ga_zret (u := ma_sA (ma_sA (ma_ev (ma_sA (ma_sI y 0 0) 6 (upd (ma_A y 6) (nI b_51).toNatClampNeg (vp_nar .boolean 0))) M (((ma_A y 0) b_51) + ti) 0 ((ma_A y 2) b_51) ((ma_A y 3) b_51)) 4 (upd (ma_A (ma_ev (ma_sA (ma_sI y 0 0) 6 (upd (ma_A y 6) (nI b_51).toNatClampNeg (vp_nar .boolean 0))) M (((ma_A y 0) b_51) + ti) 0 ((ma_A y 2) b_51) ((ma_A y 3) b_51)) 4) (nI M).toNatClampNeg ((ma_A (ma_ev (ma_sA (ma_sI y 0 0) 6 (upd (ma_A y 6) (nI b_51).toNatClampNeg (vp_nar .boolean 0))) M (((ma_A y 0) b_51) + ti) 0 ((ma_A y 2) b_51) ((ma_A y 3) b_51)) 4) b_51))) 5 (upd (ma_A (ma_ev (ma_sA (ma_sI y 0 0) 6 (upd (ma_A y 6) (nI b_51).toNatClampNeg (vp_nar .boolean 0))) M (((ma_A y 0) b_51) + ti) 0 ((ma_A y 2) b_51) ((ma_A y 3) b_51)) 5) (nI M).toNatClampNeg ((ma_A (ma_ev (ma_sA (ma_sI y 0 0) 6 (upd (ma_A y 6) (nI b_51).toNatClampNeg (vp_nar .boolean 0))) M (((ma_A y 0) b_51) + ti) 0 ((ma_A y 2) b_51) ((ma_A y 3) b_51)) 5) b_51))) hC hr hlocks hw (Or.inr rfl) (Or.inr ⟨⟨⟨h_8, g_8⟩, Or.inl ⟨c_18, h_28, g_28⟩⟩, Or.inr ⟨rfl, b_51, ⟨hb_51, h_51, g_51⟩, Or.inr (Or.inr ⟨c_113, c_65, by rw [nI_clamp (n := b_51) (by omega), nI_clamp (n := M) (by omega)] <;> rfl⟩)⟩⟩) (Nat.le_of_ble_eq_true rfl) (Nat.le_of_ble_eq_true rfl) d_M_meddle_198
                  · refine lv_aload_n hx hb d_M_meddle_116 rfl (lv_at hl 1 rfl) ?_
                    refine lv_dup hx hb d_M_meddle_117 rfl ?_
                    refine mg_lost (v := y.1 12) hC hw fl_M_110 d_M_meddle_118 rfl ?_
                    refine lv_iconst (v := 1) hx hb d_M_meddle_121 (by decide) ?_
                    refine lv_iadd hx hb d_M_meddle_122 ?_
                    refine mp_lost hC hw fl_M_110 d_M_meddle_123 (fun H locs hw => ?_)
                    refine lv_aload_n hx hb d_M_meddle_126 rfl (lv_at hl 1 rfl) ?_
                    refine lv_dup hx hb d_M_meddle_127 rfl ?_
                    refine mg_onTheWay (v := y.1 10) hC hw fl_M_107 d_M_meddle_128 rfl ?_
                    refine lv_iconst (v := 1) hx hb d_M_meddle_131 (by decide) ?_
                    refine lv_isub hx hb d_M_meddle_132 ?_
                    refine mp_onTheWay hC hw fl_M_107 d_M_meddle_133 (fun H locs hw => ?_)
                    refine lv_goto (tgt := 197) hx hb d_M_meddle_136 (by decide) ?_
                    refine lv_iconst (v := 1) hx hb d_M_meddle_197 (by decide) ?_
                    exact ga_zret (u := ma_sI (ma_sI (ma_sA (ma_sI y 0 0) 6 (upd (ma_A y 6) (nI b_51).toNatClampNeg (vp_nar .boolean 0))) 12 ((y.1 12) + 1)) 10 ((y.1 10) - 1)) hC hr hlocks hw (Or.inr rfl) (Or.inr ⟨⟨⟨h_8, g_8⟩, Or.inl ⟨c_18, h_28, g_28⟩⟩, Or.inr ⟨rfl, b_51, ⟨hb_51, h_51, g_51⟩, Or.inr (Or.inl ⟨c_113, by rw [nI_clamp (n := b_51) (by omega)] <;> rfl⟩)⟩⟩) (Nat.le_of_ble_eq_true rfl) (Nat.le_of_ble_eq_true rfl) d_M_meddle_198
                · refine lv_aload_n hx hb d_M_meddle_68 rfl (lv_at hl 1 rfl) ?_
                  refine lv_aload_n hx hb d_M_meddle_69 rfl (lv_at hl 1 rfl) ?_
                  refine mg_froms hC hw fl_M_19 d_M_meddle_70 ?_
                  refine lv_iload hx hb d_M_meddle_73 (lv_at hl 0 rfl) ?_
                  refine mr_froms (v := (ma_A y 3) b_51) hC hw (vp_in_nI (by omega) (by decide)) d_M_meddle_75 (by rw [nI_clamp (by omega)] <;> rfl) ?_
                  refine lv_aload_n hx hb d_M_meddle_76 rfl (lv_at hl 1 rfl) ?_
                  refine mg_whose hC hw fl_M_16 d_M_meddle_77 ?_
                  refine lv_iload hx hb d_M_meddle_80 (lv_at hl 0 rfl) ?_
                  refine mr_whose (v := (ma_A y 2) b_51) hC hw (vp_in_nI (by omega) (by decide)) d_M_meddle_82 (by rw [nI_clamp (by omega)] <;> rfl) ?_
                  refine lv_iconst (v := 0) hx hb d_M_meddle_83 (by decide) ?_
                  refine lv_aload_n hx hb d_M_meddle_84 rfl (lv_at hl 1 rfl) ?_
                  refine mg_begins hC hw fl_M_22 d_M_meddle_85 ?_
                  refine lv_iload hx hb d_M_meddle_88 (lv_at hl 0 rfl) ?_
                  refine mr_begins (v := (ma_A y 4) b_51) hC hw (vp_in_nI (by omega) (by decide)) d_M_meddle_90 (by rw [nI_clamp (by omega)] <;> rfl) ?_
                  refine lv_aload_n hx hb d_M_meddle_91 rfl (lv_at hl 1 rfl) ?_
                  refine mg_sizes hC hw fl_M_25 d_M_meddle_92 ?_
                  refine lv_iload hx hb d_M_meddle_95 (lv_at hl 0 rfl) ?_
                  refine mr_sizes (v := (ma_A y 5) b_51) hC hw (vp_in_nI (by omega) (by decide)) d_M_meddle_97 (by rw [nI_clamp (by omega)] <;> rfl) ?_
                  refine ga_Vi (As := [.int ((ma_A y 3) b_51), .int ((ma_A y 2) b_51), .int 0, .int ((ma_A y 4) b_51), .int ((ma_A y 5) b_51)]) (rest := []) hC hw (c_M_go l k a (ma_sI y 0 0) ((ma_A y 3) b_51) ((ma_A y 2) b_51) 0 ((ma_A y 4) b_51) ((ma_A y 5) b_51) M a9 b9 hM hM2 ea9 ha9 eb9 hb9 _) m_M_go ml_M_134 (ga_recv hw (q0 := 0) rfl rfl) rfl rfl ⟨Nat.le_of_ble_eq_true rfl, Nat.le_of_ble_eq_true rfl⟩ rfl hl.1 rfl (Nat.le_of_ble_eq_true rfl) d_M_meddle_98 ⟨Nat.le_of_ble_eq_true rfl, Nat.le_of_ble_eq_true rfl⟩ (fun r u H locs hp hw => ?_)
                  obtain ⟨r1, er⟩ : ∃ z, z = r := ⟨_, rfl⟩
                  subst er
                  obtain ⟨u1, eu⟩ : ∃ z, z = u := ⟨_, rfl⟩
                  subst eu
                  have hp_98 := hp
                  refine lv_pop hx hb d_M_meddle_101 rfl ?_
                  refine lv_iconst (v := 1) hx hb d_M_meddle_102 (by decide) ?_
                  exact ga_zret (u := u1) hC hr hlocks hw (Or.inr rfl) (Or.inr ⟨⟨⟨h_8, g_8⟩, Or.inl ⟨c_18, h_28, g_28⟩⟩, Or.inr ⟨rfl, b_51, ⟨hb_51, h_51, g_51⟩, Or.inl ⟨c_65, a9, b9, _, ha9, ea9, hb9, eb9, hp_98⟩⟩⟩) (Nat.le_of_ble_eq_true rfl) (Nat.le_of_ble_eq_true rfl) d_M_meddle_103
              · exact absurd (nI_pos' (by omega)) c_58
          · exact absurd c_31 (by decide)
        · refine lv_if_ne (tgt := 48) hx hb d_M_meddle_31 (by decide) (fun c_31 => ?_) (fun c_31 => ?_)
          · exact absurd c_31 (by decide)
          · refine lv_aload_n hx hb d_M_meddle_34 rfl (lv_at hl 0 rfl) ?_
            refine lv_iconst (v := 1) hx hb d_M_meddle_35 (by decide) ?_
            refine ga_Vi (As := [.int 1]) (rest := []) hC hw (c_M_fail l k a (ma_sI y 0 0) 1 _) m_M_fail ml_M_58 (ga_recv hw (q0 := 0) rfl rfl) rfl rfl ⟨Nat.le_of_ble_eq_true rfl, Nat.le_of_ble_eq_true rfl⟩ rfl hl.1 rfl (Nat.le_of_ble_eq_true rfl) d_M_meddle_36 ⟨Nat.le_of_ble_eq_true rfl, Nat.le_of_ble_eq_true rfl⟩ (fun r u H locs hp hw => ?_)
            obtain ⟨rfl, rfl⟩ := hp
            refine lv_if_le (tgt := 46) hx hb d_M_meddle_39 (by decide) (fun c_39 => ?_) (fun c_39 => ?_)
            · refine lv_iconst (v := 0) hx hb d_M_meddle_46 (by decide) ?_
              exact ga_zret (u := ma_sI (ma_sI y 0 0) 0 1) hC hr hlocks hw (Or.inl rfl) (Or.inl ⟨fun h => h.2.elim (fun h => h_28.elim h.2.1 h.2.2) (fun h => h.1 c_18), rfl, ma_2s⟩) (Nat.le_of_ble_eq_true rfl) (Nat.le_of_ble_eq_true rfl) d_M_meddle_47
            · exact absurd c_39 (by decide)
  · refine lv_if_eq (tgt := 34) hx hb d_M_meddle_11 (by decide) (fun c_11 => ?_) (fun c_11 => ?_)
    · refine lv_aload_n hx hb d_M_meddle_34 rfl (lv_at hl 0 rfl) ?_
      refine lv_iconst (v := 1) hx hb d_M_meddle_35 (by decide) ?_
      refine ga_Vi (As := [.int 1]) (rest := []) hC hw (c_M_fail l k a (ma_sI y 0 0) 1 _) m_M_fail ml_M_58 (ga_recv hw (q0 := 0) rfl rfl) rfl rfl ⟨Nat.le_of_ble_eq_true rfl, Nat.le_of_ble_eq_true rfl⟩ rfl hl.1 rfl (Nat.le_of_ble_eq_true rfl) d_M_meddle_36 ⟨Nat.le_of_ble_eq_true rfl, Nat.le_of_ble_eq_true rfl⟩ (fun r u H locs hp hw => ?_)
      obtain ⟨rfl, rfl⟩ := hp
      refine lv_if_le (tgt := 46) hx hb d_M_meddle_39 (by decide) (fun c_39 => ?_) (fun c_39 => ?_)
      · refine lv_iconst (v := 0) hx hb d_M_meddle_46 (by decide) ?_
        exact ga_zret (u := ma_sI (ma_sI y 0 0) 0 1) hC hr hlocks hw (Or.inl rfl) (Or.inl ⟨fun h => h_8.elim h.1.1 h.1.2, rfl, ma_2s⟩) (Nat.le_of_ble_eq_true rfl) (Nat.le_of_ble_eq_true rfl) d_M_meddle_47
      · exact absurd c_39 (by decide)
    · exact absurd c_11 (by decide)
set_option maxHeartbeats 4000000 in
set_option maxRecDepth 100000 in
theorem lp_M_send {p : Program} {l : Launch} {e : Env} {s : State} {m : MethodId} {args : Array Value} {below : List Frame} {meth : Method} {c : Code} {Q : State → Prop} {A : Nat → Prop} {k : xa_k} {a : Nat → Nat} {y : MS} {fr to : Int32} {U t : Nat} (hC : CallFix p m c b_M_send 10 s args ga_T "NetWiresModel") (hU : y.1 3 = nI U) (ht2 : t ≤ 2048) (hUt : U + t ≤ 4200)
    (kx : ∀ (H : Heap) (locs : List Loc) (ls : Array Slot), ga_w (xa_K k) (ma_W k a (ma_sA (ma_sI (ma_sI y 0 0) 4 0) 7 (ma_cp (ma_A y 7) U (ma_A y 8) t))) A s H locs → lv_has ls 10 [(5, .int (nI t)), (4, .int (nI U)), (3, .int (nI t)), (0, .ref (a 0)), (1, .int fr), (2, .int to)] → W p l e ({ frames := 2, cells := 0, slots := 0, locals := 50 }) s m args below meth c H locs 0 0 Q (F0 m 75 ls [])) :
    ∀ (d i : Nat) (H : Heap) (locs : List Loc) (ls : Array Slot), d + i = t → ga_w (xa_K k) (ma_W k a (ma_sA (ma_sI (ma_sI y 0 0) 4 0) 7 (ma_cp (ma_A y 7) U (ma_A y 8) i))) A s H locs → lv_has ls 10 [(5, .int (nI i)), (4, .int (nI U)), (3, .int (nI t)), (0, .ref (a 0)), (1, .int fr), (2, .int to)] → W p l e ({ frames := 2, cells := 0, slots := 0, locals := 50 }) s m args below meth c H locs 0 0 Q (F0 m 44 ls []) := by
  have hx := hC.1
  have hb := hC.2.1
  intro d
  induction d with
  | zero =>
    intro i H locs ls hd hw hl
    have e : i = t := by omega
    subst e
    refine lv_iload hx hb d_M_send_44 (lv_at hl 0 rfl) ?_
    refine lv_iload_n hx hb d_M_send_46 rfl (lv_at hl 2 rfl) ?_
    refine lv_icmp_ge (tgt := 75) hx hb d_M_send_47 (by decide) (fun c_47 => ?_) (fun c_47 => ?_)
    · exact kx H locs ls hw hl
    · exact absurd (Int32.le_refl _) c_47
  | succ d ih =>
    intro i H locs ls hd hw hl
    have hi2 : i < t := by omega
    refine lv_iload hx hb d_M_send_44 (lv_at hl 0 rfl) ?_
    refine lv_iload_n hx hb d_M_send_46 rfl (lv_at hl 2 rfl) ?_
    refine lv_icmp_ge (tgt := 75) hx hb d_M_send_47 (by decide) (fun c_47 => ?_) (fun c_47 => ?_)
    · exact absurd c_47 (nI_ge hi2 (by omega))
    · refine lv_aload_n hx hb d_M_send_50 rfl (lv_at hl 3 rfl) ?_
      refine mg_said hC hw fl_M_32 d_M_send_51 ?_
      refine lv_aload_n hx hb d_M_send_54 rfl (lv_at hl 3 rfl) ?_
      refine mg_used (v := (ma_sA (ma_sI (ma_sI y 0 0) 4 0) 7 (ma_cp (ma_A y 7) U (ma_A y 8) i)).1 3) hC hw fl_M_116 d_M_send_55 rfl ?_
      refine ga_asi (v := nI U) (hU) ?_
      refine lv_iload hx hb d_M_send_58 (lv_at hl 0 rfl) ?_
      refine lv_iadd hx hb d_M_send_60 ?_
      refine ga_asi (v := nI (U + i)) (nI_add U i) ?_
      refine lv_aload_n hx hb d_M_send_61 rfl (lv_at hl 3 rfl) ?_
      refine mg_fed hC hw fl_M_35 d_M_send_62 ?_
      refine lv_iload hx hb d_M_send_65 (lv_at hl 0 rfl) ?_
      refine mr_fed (v := ma_A y 8 i) hC hw (vp_in_nI (by omega) (by decide)) d_M_send_67 (by rw [nI_clamp (by omega)] <;> rfl) ?_
      refine ms_said hC hw (vp_in_nI (by omega) (by decide)) d_M_send_68 (fun H locs hw => ?_)
      have hw : ga_w (xa_K k) (ma_W k a (ma_sA (ma_sI (ma_sI y 0 0) 4 0) 7 (ma_cp (ma_A y 7) U (ma_A y 8) (i + 1)))) A s H locs := by rw [← ma_cp_s]; rw [nI_clamp (by omega)] at hw; exact hw
      refine lv_iinc (v := nI (i + 1)) (lv' := [(5, .int (nI (i + 1))), (4, .int (nI U)), (3, .int (nI t)), (0, .ref (a 0)), (1, .int fr), (2, .int to)]) hx hb d_M_send_69 hl (k := 0) rfl (nI_1 i) (by decide) rfl (fun ls hl => ?_)
      refine lv_goto (tgt := 44) hx hb d_M_send_72 (by decide) ?_
      exact ih (i + 1) H locs ls (by omega) hw hl
set_option maxHeartbeats 4000000 in
set_option maxRecDepth 100000 in
theorem c_M_send (l : Launch) (k : xa_k) (a : Nat → Nat) (y : MS) (fr to : Int32) (M U t sp : Nat) (hM : y.1 2 = nI M) (hM2 : M + 1 < 1700) (hU : y.1 3 = nI U) (ht : y.1 4 = nI t) (ht2 : t ≤ 2048) (hUt : U + t ≤ 4200) (hsp : y.1 9 = nI sp) (hsp2 : sp ≤ 1000) (sz : Nat) : Met l y_M_send (Cond.code y_M_send b_M_send 10 (some .int) :: ga_T) ({ frames := 2, cells := 0, slots := 0, locals := 50 }) (va_Pc [.ref (a 0), .int fr, .int to] (ga_pre (xa_K k) (ma_W k a y) sz)) (va_Qi (fun (r : Int32) (u : MS) => (((fr < 0 ∨ 15 < fr) ∨ (to < 0 ∨ 15 < to)) ∧ r = 0 ∧ u = ma_sI (ma_sI (ma_sI y 0 0) 4 0) 0 1) ∨ (∃ i9 j9, i9 < 16 ∧ fr = nI i9 ∧ j9 < 16 ∧ to = nI j9 ∧ ((¬ xa_bit (y.1 5) fr = xa_bit (y.1 5) to ∧ r = 0 ∧ u = ma_sI (ma_snd y U t) 12 (y.1 12 + 1)) ∨ (xa_bit (y.1 5) fr = xa_bit (y.1 5) to ∧ ¬ 0 < y.1 7 + y.1 8 + y.1 9 ∧ ∃ r1, ma_go (ma_snd y U t) M i9 j9 fr to 0 (nI U) (nI t) r1 u ∧ r = 0 + r1) ∨ (xa_bit (y.1 5) fr = xa_bit (y.1 5) to ∧ 0 < y.1 7 + y.1 8 + y.1 9 ∧ ma_noi (ma_snd y U t) M i9 j9 sp fr to (nI U) (nI t) r u)))) (ga_post (xa_K k) (ma_W k a y) sz (ma_W k a)) (va_A (ma_W k a y) sz)) 0 0 (va_A (ma_W k a y) sz) := by
  refine ga_Met (by decide) (Nat.le_of_ble_eq_true rfl) ?_
  intro p e s m below meth c hC hr hlocks _ hw ls hl
  have hx := hC.1
  have hb := hC.2.1
  have hl : lv_has ls 10 [(0, .ref (a 0)), (1, .int fr), (2, .int to)] := hl
  refine lv_aload_n hx hb d_M_send_0 rfl (lv_at hl 0 rfl) ?_
  refine lv_iconst (v := 0) hx hb d_M_send_1 (by decide) ?_
  refine mp_thrown hC hw fl_M_51 d_M_send_2 (fun H locs hw => ?_)
  refine lv_aload_n hx hb d_M_send_5 rfl (lv_at hl 0 rfl) ?_
  refine mg_tape (v := y.1 4) hC hw fl_M_62 d_M_send_6 rfl ?_
  refine ga_asi (v := nI t) (ht) ?_
  refine lv_istore_n (lv' := [(3, .int (nI t)), (0, .ref (a 0)), (1, .int fr), (2, .int to)]) hx hb d_M_send_9 rfl hl (by decide) rfl (fun ls hl => ?_)
  refine lv_aload_n hx hb d_M_send_10 rfl (lv_at hl 1 rfl) ?_
  refine lv_iconst (v := 0) hx hb d_M_send_11 (by decide) ?_
  refine mp_tape hC hw fl_M_62 d_M_send_12 (fun H locs hw => ?_)
  refine lv_iload_n hx hb d_M_send_15 rfl (lv_at hl 2 rfl) ?_
  refine ga_Si (As := [.int fr]) (rest := []) hC hw (c_M_isEnd l k a (ma_sI (ma_sI y 0 0) 4 0) fr _) m_M_isEnd ml_M_74 rfl rfl ⟨Nat.le_of_ble_eq_true rfl, Nat.le_of_ble_eq_true rfl⟩ rfl hl.1 rfl (Nat.le_of_ble_eq_true rfl) d_M_send_16 ⟨Nat.le_of_ble_eq_true rfl, Nat.le_of_ble_eq_true rfl⟩ (fun r u H locs hp hw => ?_)
  obtain ⟨rfl, hp⟩ := hp
  rcases hp with ⟨rfl, ⟨h_16, g_16⟩⟩ | ⟨rfl, h_16⟩
  · refine lv_if_eq (tgt := 29) hx hb d_M_send_19 (by decide) (fun c_19 => ?_) (fun c_19 => ?_)
    · exact absurd c_19 (by decide)
    · refine lv_iload_n hx hb d_M_send_22 rfl (lv_at hl 3 rfl) ?_
      refine ga_Si (As := [.int to]) (rest := []) hC hw (c_M_isEnd l k a (ma_sI (ma_sI y 0 0) 4 0) to _) m_M_isEnd ml_M_74 rfl rfl ⟨Nat.le_of_ble_eq_true rfl, Nat.le_of_ble_eq_true rfl⟩ rfl hl.1 rfl (Nat.le_of_ble_eq_true rfl) d_M_send_23 ⟨Nat.le_of_ble_eq_true rfl, Nat.le_of_ble_eq_true rfl⟩ (fun r u H locs hp hw => ?_)
      obtain ⟨rfl, hp⟩ := hp
      rcases hp with ⟨rfl, ⟨h_23, g_23⟩⟩ | ⟨rfl, h_23⟩
      · refine lv_if_ne (tgt := 35) hx hb d_M_send_26 (by decide) (fun c_26 => ?_) (fun c_26 => ?_)
        · refine lv_aload_n hx hb d_M_send_35 rfl (lv_at hl 1 rfl) ?_
          refine mg_used (v := y.1 3) hC hw fl_M_116 d_M_send_36 rfl ?_
          refine ga_asi (v := nI U) (hU) ?_
          refine lv_istore (lv' := [(4, .int (nI U)), (3, .int (nI t)), (0, .ref (a 0)), (1, .int fr), (2, .int to)]) hx hb d_M_send_39 hl (by decide) rfl (fun ls hl => ?_)
          refine lv_iconst (v := 0) hx hb d_M_send_41 (by decide) ?_
          refine lv_istore (lv' := [(5, .int 0), (4, .int (nI U)), (3, .int (nI t)), (0, .ref (a 0)), (1, .int fr), (2, .int to)]) hx hb d_M_send_42 hl (by decide) rfl (fun ls hl => ?_)
          obtain ⟨i9, hi9, ei9⟩ := xa_16 h_16 g_16
          obtain ⟨j9, hj9, ej9⟩ := xa_16 h_23 g_23
          have hw : ga_w (xa_K k) (ma_W k a (ma_sA (ma_sI (ma_sI y 0 0) 4 0) 7 (ma_cp (ma_A y 7) U (ma_A y 8) 0))) (va_A (ma_W k a y) sz) s H locs := by rw [ma_cp_0, ma_sA_id (y := ma_sI (ma_sI y 0 0) 4 0) (i := 7) (f := ma_A y 7) rfl]; exact hw
          refine lp_M_send hC hU ht2 hUt (fun H locs ls hw hl => ?_) t 0 H locs ls (Nat.add_zero t) hw hl
          refine lv_aload_n hx hb d_M_send_75 rfl (lv_at hl 3 rfl) ?_
          refine lv_dup hx hb d_M_send_76 rfl ?_
          refine mg_used (v := (ma_sA (ma_sI (ma_sI y 0 0) 4 0) 7 (ma_cp (ma_A y 7) U (ma_A y 8) t)).1 3) hC hw fl_M_116 d_M_send_77 rfl ?_
          refine ga_asi (v := nI U) (hU) ?_
          refine lv_iload_n hx hb d_M_send_80 rfl (lv_at hl 2 rfl) ?_
          refine lv_iadd hx hb d_M_send_81 ?_
          refine ga_asi (v := nI (U + t)) (nI_add U t) ?_
          refine mp_used hC hw fl_M_116 d_M_send_82 (fun H locs hw => ?_)
          have hw : ga_w (xa_K k) (ma_W k a (ma_snd y U t)) (va_A (ma_W k a y) sz) s H locs := hw
          refine lv_aload_n hx hb d_M_send_85 rfl (lv_at hl 3 rfl) ?_
          refine mg_loss (v := (ma_snd y U t).1 7) hC hw fl_M_119 d_M_send_86 rfl ?_
          refine lv_aload_n hx hb d_M_send_89 rfl (lv_at hl 3 rfl) ?_
          refine mg_twice (v := (ma_snd y U t).1 8) hC hw fl_M_122 d_M_send_90 rfl ?_
          refine lv_iadd hx hb d_M_send_93 ?_
          refine lv_aload_n hx hb d_M_send_94 rfl (lv_at hl 3 rfl) ?_
          refine mg_spread (v := (ma_snd y U t).1 9) hC hw fl_M_125 d_M_send_95 rfl ?_
          refine lv_iadd hx hb d_M_send_98 ?_
          refine lv_if_le (tgt := 106) hx hb d_M_send_99 (by decide) (fun c_99 => ?_) (fun c_99 => ?_)
          · refine lv_iconst (v := 0) hx hb d_M_send_106 (by decide) ?_
            refine lv_istore (lv' := [(5, .int 0), (4, .int (nI U)), (3, .int (nI t)), (0, .ref (a 0)), (1, .int fr), (2, .int to)]) hx hb d_M_send_107 hl (by decide) rfl (fun ls hl => ?_)
            refine lv_aload_n hx hb d_M_send_109 rfl (lv_at hl 3 rfl) ?_
            refine lv_iload_n hx hb d_M_send_110 rfl (lv_at hl 4 rfl) ?_
            refine lv_iload_n hx hb d_M_send_111 rfl (lv_at hl 5 rfl) ?_
            refine ga_Vi (As := [.int fr, .int to]) (rest := []) hC hw (c_M_areParted l k a (ma_snd y U t) fr to _) m_M_areParted ml_M_128 (ga_recv hw (q0 := 0) rfl rfl) rfl rfl ⟨Nat.le_of_ble_eq_true rfl, Nat.le_of_ble_eq_true rfl⟩ rfl hl.1 rfl (Nat.le_of_ble_eq_true rfl) d_M_send_112 ⟨Nat.le_of_ble_eq_true rfl, Nat.le_of_ble_eq_true rfl⟩ (fun r u H locs hp hw => ?_)
            obtain ⟨rfl, hp⟩ := hp
            rcases hp with ⟨rfl, h_112⟩ | ⟨rfl, h_112⟩
            · refine lv_if_ne (tgt := 137) hx hb d_M_send_115 (by decide) (fun c_115 => ?_) (fun c_115 => ?_)
              · refine lv_aload_n hx hb d_M_send_137 rfl (lv_at hl 3 rfl) ?_
                refine lv_dup hx hb d_M_send_138 rfl ?_
                refine mg_lost (v := (ma_snd y U t).1 12) hC hw fl_M_110 d_M_send_139 rfl ?_
                refine lv_iconst (v := 1) hx hb d_M_send_142 (by decide) ?_
                refine lv_iadd hx hb d_M_send_143 ?_
                refine mp_lost hC hw fl_M_110 d_M_send_144 (fun H locs hw => ?_)
                refine lv_iconst (v := 0) hx hb d_M_send_147 (by decide) ?_
                exact ga_iret (u := ma_sI (ma_snd y U t) 12 (((ma_snd y U t).1 12) + 1)) hC hr hlocks hw (Or.inr ⟨i9, j9, hi9, ei9, hj9, ej9, Or.inl ⟨h_112, rfl, rfl⟩⟩) (Nat.le_of_ble_eq_true rfl) (Nat.le_of_ble_eq_true rfl) d_M_send_148
              · exact absurd c_115 (by decide)
            · refine lv_if_ne (tgt := 137) hx hb d_M_send_115 (by decide) (fun c_115 => ?_) (fun c_115 => ?_)
              · exact absurd c_115 (by decide)
              · refine lv_iload hx hb d_M_send_118 (lv_at hl 0 rfl) ?_
                refine lv_if_eq (tgt := 149) hx hb d_M_send_120 (by decide) (fun c_120 => ?_) (fun c_120 => ?_)
                · refine lv_iload hx hb d_M_send_149 (lv_at hl 0 rfl) ?_
                  refine lv_if_eq (tgt := 172) hx hb d_M_send_151 (by decide) (fun c_151 => ?_) (fun c_151 => ?_)
                  · refine lv_iconst (v := 1) hx hb d_M_send_172 (by decide) ?_
                    refine lv_istore (lv' := [(6, .int 1), (5, .int 0), (4, .int (nI U)), (3, .int (nI t)), (0, .ref (a 0)), (1, .int fr), (2, .int to)]) hx hb d_M_send_173 hl (by decide) rfl (fun ls hl => ?_)
                    refine lv_iconst (v := 0) hx hb d_M_send_175 (by decide) ?_
                    refine lv_istore (lv' := [(7, .int 0), (6, .int 1), (5, .int 0), (4, .int (nI U)), (3, .int (nI t)), (0, .ref (a 0)), (1, .int fr), (2, .int to)]) hx hb d_M_send_176 hl (by decide) rfl (fun ls hl => ?_)
                    refine lv_iconst (v := 0) hx hb d_M_send_178 (by decide) ?_
                    refine lv_istore (lv' := [(8, .int 0), (7, .int 0), (6, .int 1), (5, .int 0), (4, .int (nI U)), (3, .int (nI t)), (0, .ref (a 0)), (1, .int fr), (2, .int to)]) hx hb d_M_send_179 hl (by decide) rfl (fun ls hl => ?_)
                    refine lv_iload hx hb d_M_send_181 (lv_at hl 0 rfl) ?_
                    refine lv_iload hx hb d_M_send_183 (lv_at hl 2 rfl) ?_
                    refine lv_icmp_ge (tgt := 239) hx hb d_M_send_185 (by decide) (fun c_185 => ?_) (fun c_185 => ?_)
                    · exact absurd c_185 (by decide)
                    · refine lv_iload hx hb d_M_send_188 (lv_at hl 3 rfl) ?_
                      refine lv_if_eq (tgt := 206) hx hb d_M_send_190 (by decide) (fun c_190 => ?_) (fun c_190 => ?_)
                      · refine lv_iconst (v := 0) hx hb d_M_send_206 (by decide) ?_
                        refine lv_istore (lv' := [(9, .int 0), (8, .int 0), (7, .int 0), (6, .int 1), (5, .int 0), (4, .int (nI U)), (3, .int (nI t)), (0, .ref (a 0)), (1, .int fr), (2, .int to)]) hx hb d_M_send_207 hl (by decide) rfl (fun ls hl => ?_)
                        refine lv_iload hx hb d_M_send_209 (lv_at hl 2 rfl) ?_
                        refine lv_aload_n hx hb d_M_send_211 rfl (lv_at hl 7 rfl) ?_
                        refine lv_iload_n hx hb d_M_send_212 rfl (lv_at hl 8 rfl) ?_
                        refine lv_iload_n hx hb d_M_send_213 rfl (lv_at hl 9 rfl) ?_
                        refine lv_iload hx hb d_M_send_214 (lv_at hl 0 rfl) ?_
                        refine lv_iload hx hb d_M_send_216 (lv_at hl 5 rfl) ?_
                        refine lv_iload_n hx hb d_M_send_218 rfl (lv_at hl 6 rfl) ?_
                        refine ga_Vi (As := [.int fr, .int to, .int 0, .int (nI U), .int (nI t)]) (rest := [.int 0]) hC hw (c_M_go l k a (ma_snd y U t) fr to 0 (nI U) (nI t) M i9 j9 hM (by omega) ei9 hi9 ej9 hj9 _) m_M_go ml_M_134 (ga_recv hw (q0 := 0) rfl rfl) rfl rfl ⟨Nat.le_of_ble_eq_true rfl, Nat.le_of_ble_eq_true rfl⟩ rfl hl.1 rfl (Nat.le_of_ble_eq_true rfl) d_M_send_219 ⟨Nat.le_of_ble_eq_true rfl, Nat.le_of_ble_eq_true rfl⟩ (fun r u H locs hp hw => ?_)
                        have hp1 := hp
                        obtain ⟨r1, er1⟩ : ∃ z, z = r := ⟨_, rfl⟩
                        subst er1
                        obtain ⟨u1, eu1⟩ : ∃ z, z = u := ⟨_, rfl⟩
                        subst eu1
                        rcases ma_go_M hp1 hM with ⟨rfl, hM1, hs1⟩ | ⟨rfl, hM1, hs1⟩
                        · refine lv_if_eq (tgt := 229) hx hb d_M_send_222 (by decide) (fun c_222 => ?_) (fun c_222 => ?_)
                          · refine lv_iconst (v := 0) hx hb d_M_send_229 (by decide) ?_
                            refine lv_iadd hx hb d_M_send_230 ?_
                            refine lv_istore (lv' := [(7, .int (0 + 0)), (9, .int 0), (8, .int 0), (6, .int 1), (5, .int 0), (4, .int (nI U)), (3, .int (nI t)), (0, .ref (a 0)), (1, .int fr), (2, .int to)]) hx hb d_M_send_231 hl (by decide) rfl (fun ls hl => ?_)
                            refine lv_iinc (v := 1) (lv' := [(8, .int 1), (7, .int (0 + 0)), (9, .int 0), (6, .int 1), (5, .int 0), (4, .int (nI U)), (3, .int (nI t)), (0, .ref (a 0)), (1, .int fr), (2, .int to)]) hx hb d_M_send_233 hl (k := 2) rfl (rfl) (by decide) rfl (fun ls hl => ?_)
                            refine lv_goto (tgt := 181) hx hb d_M_send_236 (by decide) ?_
                            refine lv_iload hx hb d_M_send_181 (lv_at hl 0 rfl) ?_
                            refine lv_iload hx hb d_M_send_183 (lv_at hl 3 rfl) ?_
                            refine lv_icmp_ge (tgt := 239) hx hb d_M_send_185 (by decide) (fun c_185 => ?_) (fun c_185 => ?_)
                            · refine lv_iload hx hb d_M_send_239 (lv_at hl 1 rfl) ?_
                              exact ga_iret (u := u1) hC hr hlocks hw (Or.inr ⟨i9, j9, hi9, ei9, hj9, ej9, Or.inr (Or.inl ⟨h_112, Int32.not_lt.mpr c_99, 0, hp1, rfl⟩)⟩) (Nat.le_of_ble_eq_true rfl) (Nat.le_of_ble_eq_true rfl) d_M_send_241
                            · exact absurd c_185 (by decide)
                          · exact absurd c_222 (by decide)
                        · refine lv_if_eq (tgt := 229) hx hb d_M_send_222 (by decide) (fun c_222 => ?_) (fun c_222 => ?_)
                          · exact absurd c_222 (by decide)
                          · refine lv_iconst (v := 1) hx hb d_M_send_225 (by decide) ?_
                            refine lv_goto (tgt := 230) hx hb d_M_send_226 (by decide) ?_
                            refine lv_iadd hx hb d_M_send_230 ?_
                            refine lv_istore (lv' := [(7, .int (0 + 1)), (9, .int 0), (8, .int 0), (6, .int 1), (5, .int 0), (4, .int (nI U)), (3, .int (nI t)), (0, .ref (a 0)), (1, .int fr), (2, .int to)]) hx hb d_M_send_231 hl (by decide) rfl (fun ls hl => ?_)
                            refine lv_iinc (v := 1) (lv' := [(8, .int 1), (7, .int (0 + 1)), (9, .int 0), (6, .int 1), (5, .int 0), (4, .int (nI U)), (3, .int (nI t)), (0, .ref (a 0)), (1, .int fr), (2, .int to)]) hx hb d_M_send_233 hl (k := 2) rfl (rfl) (by decide) rfl (fun ls hl => ?_)
                            refine lv_goto (tgt := 181) hx hb d_M_send_236 (by decide) ?_
                            refine lv_iload hx hb d_M_send_181 (lv_at hl 0 rfl) ?_
                            refine lv_iload hx hb d_M_send_183 (lv_at hl 3 rfl) ?_
                            refine lv_icmp_ge (tgt := 239) hx hb d_M_send_185 (by decide) (fun c_185 => ?_) (fun c_185 => ?_)
                            · refine lv_iload hx hb d_M_send_239 (lv_at hl 1 rfl) ?_
                              exact ga_iret (u := u1) hC hr hlocks hw (Or.inr ⟨i9, j9, hi9, ei9, hj9, ej9, Or.inr (Or.inl ⟨h_112, Int32.not_lt.mpr c_99, 1, hp1, rfl⟩)⟩) (Nat.le_of_ble_eq_true rfl) (Nat.le_of_ble_eq_true rfl) d_M_send_241
                            · exact absurd c_185 (by decide)
                      · exact absurd c_190 (by decide)
                  · exact absurd c_151 (by decide)
                · exact absurd c_120 (by decide)
          · refine lv_iconst (v := 1) hx hb d_M_send_102 (by decide) ?_
            refine lv_goto (tgt := 107) hx hb d_M_send_103 (by decide) ?_
            refine lv_istore (lv' := [(5, .int 1), (4, .int (nI U)), (3, .int (nI t)), (0, .ref (a 0)), (1, .int fr), (2, .int to)]) hx hb d_M_send_107 hl (by decide) rfl (fun ls hl => ?_)
            refine lv_aload_n hx hb d_M_send_109 rfl (lv_at hl 3 rfl) ?_
            refine lv_iload_n hx hb d_M_send_110 rfl (lv_at hl 4 rfl) ?_
            refine lv_iload_n hx hb d_M_send_111 rfl (lv_at hl 5 rfl) ?_
            refine ga_Vi (As := [.int fr, .int to]) (rest := []) hC hw (c_M_areParted l k a (ma_snd y U t) fr to _) m_M_areParted ml_M_128 (ga_recv hw (q0 := 0) rfl rfl) rfl rfl ⟨Nat.le_of_ble_eq_true rfl, Nat.le_of_ble_eq_true rfl⟩ rfl hl.1 rfl (Nat.le_of_ble_eq_true rfl) d_M_send_112 ⟨Nat.le_of_ble_eq_true rfl, Nat.le_of_ble_eq_true rfl⟩ (fun r u H locs hp hw => ?_)
            obtain ⟨rfl, hp⟩ := hp
            rcases hp with ⟨rfl, h_112⟩ | ⟨rfl, h_112⟩
            · refine lv_if_ne (tgt := 137) hx hb d_M_send_115 (by decide) (fun c_115 => ?_) (fun c_115 => ?_)
              · refine lv_aload_n hx hb d_M_send_137 rfl (lv_at hl 3 rfl) ?_
                refine lv_dup hx hb d_M_send_138 rfl ?_
                refine mg_lost (v := (ma_snd y U t).1 12) hC hw fl_M_110 d_M_send_139 rfl ?_
                refine lv_iconst (v := 1) hx hb d_M_send_142 (by decide) ?_
                refine lv_iadd hx hb d_M_send_143 ?_
                refine mp_lost hC hw fl_M_110 d_M_send_144 (fun H locs hw => ?_)
                refine lv_iconst (v := 0) hx hb d_M_send_147 (by decide) ?_
                exact ga_iret (u := ma_sI (ma_snd y U t) 12 (((ma_snd y U t).1 12) + 1)) hC hr hlocks hw (Or.inr ⟨i9, j9, hi9, ei9, hj9, ej9, Or.inl ⟨h_112, rfl, rfl⟩⟩) (Nat.le_of_ble_eq_true rfl) (Nat.le_of_ble_eq_true rfl) d_M_send_148
              · exact absurd c_115 (by decide)
            · refine lv_if_ne (tgt := 137) hx hb d_M_send_115 (by decide) (fun c_115 => ?_) (fun c_115 => ?_)
              · exact absurd c_115 (by decide)
              · refine lv_iload hx hb d_M_send_118 (lv_at hl 0 rfl) ?_
                refine lv_if_eq (tgt := 149) hx hb d_M_send_120 (by decide) (fun c_120 => ?_) (fun c_120 => ?_)
                · exact absurd c_120 (by decide)
                · refine lv_aload_n hx hb d_M_send_123 rfl (lv_at hl 3 rfl) ?_
                  refine lv_sipush (v := 1000) hx hb d_M_send_124 (by decide) ?_
                  refine ga_Vi (As := [.int 1000]) (rest := []) hC hw (c_M_drawn l k a (ma_snd y U t) 1000 (by decide) _) m_M_drawn ml_M_131 (ga_recv hw (q0 := 0) rfl rfl) rfl rfl ⟨Nat.le_of_ble_eq_true rfl, Nat.le_of_ble_eq_true rfl⟩ rfl hl.1 rfl (Nat.le_of_ble_eq_true rfl) d_M_send_127 ⟨Nat.le_of_ble_eq_true rfl, Nat.le_of_ble_eq_true rfl⟩ (fun r u H locs hp hw => ?_)
                  obtain ⟨rfl, rfl⟩ := hp
                  obtain ⟨d_127, ed_127⟩ : ∃ z, z = xa_lcg (ma_D (ma_snd y U t)) := ⟨_, rfl⟩
                  rw [← ed_127] at hw
                  have f_127 : d_127 = xa_lcg (ma_D (ma_snd y U t)) := ed_127
                  rw [← ed_127]
                  refine lv_aload_n hx hb d_M_send_130 rfl (lv_at hl 3 rfl) ?_
                  refine mg_loss (v := (ma_snd y U t).1 7) hC hw fl_M_119 d_M_send_131 rfl ?_
                  refine lv_icmp_ge (tgt := 149) hx hb d_M_send_134 (by decide) (fun c_134 => ?_) (fun c_134 => ?_)
                  · refine lv_iload hx hb d_M_send_149 (lv_at hl 0 rfl) ?_
                    refine lv_if_eq (tgt := 172) hx hb d_M_send_151 (by decide) (fun c_151 => ?_) (fun c_151 => ?_)
                    · exact absurd c_151 (by decide)
                    · refine lv_aload_n hx hb d_M_send_154 rfl (lv_at hl 3 rfl) ?_
                      refine lv_sipush (v := 1000) hx hb d_M_send_155 (by decide) ?_
                      refine ga_Vi (As := [.int 1000]) (rest := []) hC hw (c_M_drawn l k a (ma_sD (ma_snd y U t) d_127) 1000 (by decide) _) m_M_drawn ml_M_131 (ga_recv hw (q0 := 0) rfl rfl) rfl rfl ⟨Nat.le_of_ble_eq_true rfl, Nat.le_of_ble_eq_true rfl⟩ rfl hl.1 rfl (Nat.le_of_ble_eq_true rfl) d_M_send_158 ⟨Nat.le_of_ble_eq_true rfl, Nat.le_of_ble_eq_true rfl⟩ (fun r u H locs hp hw => ?_)
                      obtain ⟨rfl, rfl⟩ := hp
                      obtain ⟨d_158, ed_158⟩ : ∃ z, z = xa_lcg (ma_D (ma_sD (ma_snd y U t) d_127)) := ⟨_, rfl⟩
                      rw [← ed_158] at hw
                      have f_158 : d_158 = xa_lcg d_127 := ed_158
                      rw [← ed_158]
                      refine lv_aload_n hx hb d_M_send_161 rfl (lv_at hl 3 rfl) ?_
                      refine mg_twice (v := (ma_snd y U t).1 8) hC hw fl_M_122 d_M_send_162 rfl ?_
                      refine lv_icmp_ge (tgt := 172) hx hb d_M_send_165 (by decide) (fun c_165 => ?_) (fun c_165 => ?_)
                      · refine lv_iconst (v := 1) hx hb d_M_send_172 (by decide) ?_
                        refine lv_istore (lv' := [(6, .int 1), (5, .int 1), (4, .int (nI U)), (3, .int (nI t)), (0, .ref (a 0)), (1, .int fr), (2, .int to)]) hx hb d_M_send_173 hl (by decide) rfl (fun ls hl => ?_)
                        refine lv_iconst (v := 0) hx hb d_M_send_175 (by decide) ?_
                        refine lv_istore (lv' := [(7, .int 0), (6, .int 1), (5, .int 1), (4, .int (nI U)), (3, .int (nI t)), (0, .ref (a 0)), (1, .int fr), (2, .int to)]) hx hb d_M_send_176 hl (by decide) rfl (fun ls hl => ?_)
                        refine lv_iconst (v := 0) hx hb d_M_send_178 (by decide) ?_
                        refine lv_istore (lv' := [(8, .int 0), (7, .int 0), (6, .int 1), (5, .int 1), (4, .int (nI U)), (3, .int (nI t)), (0, .ref (a 0)), (1, .int fr), (2, .int to)]) hx hb d_M_send_179 hl (by decide) rfl (fun ls hl => ?_)
                        refine lv_iload hx hb d_M_send_181 (lv_at hl 0 rfl) ?_
                        refine lv_iload hx hb d_M_send_183 (lv_at hl 2 rfl) ?_
                        refine lv_icmp_ge (tgt := 239) hx hb d_M_send_185 (by decide) (fun c_185 => ?_) (fun c_185 => ?_)
                        · exact absurd c_185 (by decide)
                        · refine lv_iload hx hb d_M_send_188 (lv_at hl 3 rfl) ?_
                          refine lv_if_eq (tgt := 206) hx hb d_M_send_190 (by decide) (fun c_190 => ?_) (fun c_190 => ?_)
                          · exact absurd c_190 (by decide)
                          · refine lv_aload_n hx hb d_M_send_193 rfl (lv_at hl 6 rfl) ?_
                            refine lv_aload_n hx hb d_M_send_194 rfl (lv_at hl 6 rfl) ?_
                            refine mg_spread (v := (ma_snd y U t).1 9) hC hw fl_M_125 d_M_send_195 rfl ?_
                            refine ga_asi (v := nI sp) (hsp) ?_
                            refine lv_iconst (v := 1) hx hb d_M_send_198 (by decide) ?_
                            refine lv_iadd hx hb d_M_send_199 ?_
                            refine ga_asi (v := nI (sp + 1)) (nI_1 sp) ?_
                            refine ga_Vi (As := [.int (nI (sp + 1))]) (rest := []) hC hw (c_M_drawn l k a (ma_sD (ma_sD (ma_snd y U t) d_127) d_158) (nI (sp + 1)) (xa_posn sp hsp2) _) m_M_drawn ml_M_131 (ga_recv hw (q0 := 0) rfl rfl) rfl rfl ⟨Nat.le_of_ble_eq_true rfl, Nat.le_of_ble_eq_true rfl⟩ rfl hl.1 rfl (Nat.le_of_ble_eq_true rfl) d_M_send_200 ⟨Nat.le_of_ble_eq_true rfl, Nat.le_of_ble_eq_true rfl⟩ (fun r u H locs hp hw => ?_)
                            obtain ⟨rfl, rfl⟩ := hp
                            obtain ⟨d_200, ed_200⟩ : ∃ z, z = xa_lcg (ma_D (ma_sD (ma_sD (ma_snd y U t) d_127) d_158)) := ⟨_, rfl⟩
                            rw [← ed_200] at hw
                            have f_200 : d_200 = xa_lcg d_158 := ed_200
                            rw [← ed_200]
                            refine lv_goto (tgt := 207) hx hb d_M_send_203 (by decide) ?_
                            refine lv_istore (lv' := [(9, .int (xa_draw d_200 (nI (sp + 1)))), (8, .int 0), (7, .int 0), (6, .int 1), (5, .int 1), (4, .int (nI U)), (3, .int (nI t)), (0, .ref (a 0)), (1, .int fr), (2, .int to)]) hx hb d_M_send_207 hl (by decide) rfl (fun ls hl => ?_)
                            refine lv_iload hx hb d_M_send_209 (lv_at hl 2 rfl) ?_
                            refine lv_aload_n hx hb d_M_send_211 rfl (lv_at hl 7 rfl) ?_
                            refine lv_iload_n hx hb d_M_send_212 rfl (lv_at hl 8 rfl) ?_
                            refine lv_iload_n hx hb d_M_send_213 rfl (lv_at hl 9 rfl) ?_
                            refine lv_iload hx hb d_M_send_214 (lv_at hl 0 rfl) ?_
                            refine lv_iload hx hb d_M_send_216 (lv_at hl 5 rfl) ?_
                            refine lv_iload_n hx hb d_M_send_218 rfl (lv_at hl 6 rfl) ?_
                            refine ga_Vi (As := [.int fr, .int to, .int (xa_draw d_200 (nI (sp + 1))), .int (nI U), .int (nI t)]) (rest := [.int 0]) hC hw (c_M_go l k a (ma_sD (ma_sD (ma_sD (ma_snd y U t) d_127) d_158) d_200) fr to (xa_draw d_200 (nI (sp + 1))) (nI U) (nI t) M i9 j9 hM (by omega) ei9 hi9 ej9 hj9 _) m_M_go ml_M_134 (ga_recv hw (q0 := 0) rfl rfl) rfl rfl ⟨Nat.le_of_ble_eq_true rfl, Nat.le_of_ble_eq_true rfl⟩ rfl hl.1 rfl (Nat.le_of_ble_eq_true rfl) d_M_send_219 ⟨Nat.le_of_ble_eq_true rfl, Nat.le_of_ble_eq_true rfl⟩ (fun r u H locs hp hw => ?_)
                            have hp1 := hp
                            obtain ⟨r1, er1⟩ : ∃ z, z = r := ⟨_, rfl⟩
                            subst er1
                            obtain ⟨u1, eu1⟩ : ∃ z, z = u := ⟨_, rfl⟩
                            subst eu1
                            rcases ma_go_M hp1 hM with ⟨rfl, hM1, hs1⟩ | ⟨rfl, hM1, hs1⟩
                            · refine lv_if_eq (tgt := 229) hx hb d_M_send_222 (by decide) (fun c_222 => ?_) (fun c_222 => ?_)
                              · refine lv_iconst (v := 0) hx hb d_M_send_229 (by decide) ?_
                                refine lv_iadd hx hb d_M_send_230 ?_
                                refine lv_istore (lv' := [(7, .int (0 + 0)), (9, .int (xa_draw d_200 (nI (sp + 1)))), (8, .int 0), (6, .int 1), (5, .int 1), (4, .int (nI U)), (3, .int (nI t)), (0, .ref (a 0)), (1, .int fr), (2, .int to)]) hx hb d_M_send_231 hl (by decide) rfl (fun ls hl => ?_)
                                refine lv_iinc (v := 1) (lv' := [(8, .int 1), (7, .int (0 + 0)), (9, .int (xa_draw d_200 (nI (sp + 1)))), (6, .int 1), (5, .int 1), (4, .int (nI U)), (3, .int (nI t)), (0, .ref (a 0)), (1, .int fr), (2, .int to)]) hx hb d_M_send_233 hl (k := 2) rfl (rfl) (by decide) rfl (fun ls hl => ?_)
                                refine lv_goto (tgt := 181) hx hb d_M_send_236 (by decide) ?_
                                refine lv_iload hx hb d_M_send_181 (lv_at hl 0 rfl) ?_
                                refine lv_iload hx hb d_M_send_183 (lv_at hl 3 rfl) ?_
                                refine lv_icmp_ge (tgt := 239) hx hb d_M_send_185 (by decide) (fun c_185 => ?_) (fun c_185 => ?_)
                                · refine lv_iload hx hb d_M_send_239 (lv_at hl 1 rfl) ?_
                                  exact ga_iret (u := u1) hC hr hlocks hw (Or.inr ⟨i9, j9, hi9, ei9, hj9, ej9, Or.inr (Or.inr ⟨h_112, Int32.not_le.mp c_99, by unfold ma_noi; rw [← f_127, ← f_158, ← f_200]; exact Or.inr ⟨Int32.not_lt.mpr c_134, 0, u1, hp1, Or.inl ⟨Int32.not_lt.mpr c_165, rfl, rfl⟩⟩⟩)⟩) (Nat.le_of_ble_eq_true rfl) (Nat.le_of_ble_eq_true rfl) d_M_send_241
                                · exact absurd c_185 (by decide)
                              · exact absurd c_222 (by decide)
                            · refine lv_if_eq (tgt := 229) hx hb d_M_send_222 (by decide) (fun c_222 => ?_) (fun c_222 => ?_)
                              · exact absurd c_222 (by decide)
                              · refine lv_iconst (v := 1) hx hb d_M_send_225 (by decide) ?_
                                refine lv_goto (tgt := 230) hx hb d_M_send_226 (by decide) ?_
                                refine lv_iadd hx hb d_M_send_230 ?_
                                refine lv_istore (lv' := [(7, .int (0 + 1)), (9, .int (xa_draw d_200 (nI (sp + 1)))), (8, .int 0), (6, .int 1), (5, .int 1), (4, .int (nI U)), (3, .int (nI t)), (0, .ref (a 0)), (1, .int fr), (2, .int to)]) hx hb d_M_send_231 hl (by decide) rfl (fun ls hl => ?_)
                                refine lv_iinc (v := 1) (lv' := [(8, .int 1), (7, .int (0 + 1)), (9, .int (xa_draw d_200 (nI (sp + 1)))), (6, .int 1), (5, .int 1), (4, .int (nI U)), (3, .int (nI t)), (0, .ref (a 0)), (1, .int fr), (2, .int to)]) hx hb d_M_send_233 hl (k := 2) rfl (rfl) (by decide) rfl (fun ls hl => ?_)
                                refine lv_goto (tgt := 181) hx hb d_M_send_236 (by decide) ?_
                                refine lv_iload hx hb d_M_send_181 (lv_at hl 0 rfl) ?_
                                refine lv_iload hx hb d_M_send_183 (lv_at hl 3 rfl) ?_
                                refine lv_icmp_ge (tgt := 239) hx hb d_M_send_185 (by decide) (fun c_185 => ?_) (fun c_185 => ?_)
                                · refine lv_iload hx hb d_M_send_239 (lv_at hl 1 rfl) ?_
                                  exact ga_iret (u := u1) hC hr hlocks hw (Or.inr ⟨i9, j9, hi9, ei9, hj9, ej9, Or.inr (Or.inr ⟨h_112, Int32.not_le.mp c_99, by unfold ma_noi; rw [← f_127, ← f_158, ← f_200]; exact Or.inr ⟨Int32.not_lt.mpr c_134, 1, u1, hp1, Or.inl ⟨Int32.not_lt.mpr c_165, rfl, rfl⟩⟩⟩)⟩) (Nat.le_of_ble_eq_true rfl) (Nat.le_of_ble_eq_true rfl) d_M_send_241
                                · exact absurd c_185 (by decide)
                      · refine lv_iconst (v := 2) hx hb d_M_send_168 (by decide) ?_
                        refine lv_goto (tgt := 173) hx hb d_M_send_169 (by decide) ?_
                        refine lv_istore (lv' := [(6, .int 2), (5, .int 1), (4, .int (nI U)), (3, .int (nI t)), (0, .ref (a 0)), (1, .int fr), (2, .int to)]) hx hb d_M_send_173 hl (by decide) rfl (fun ls hl => ?_)
                        refine lv_iconst (v := 0) hx hb d_M_send_175 (by decide) ?_
                        refine lv_istore (lv' := [(7, .int 0), (6, .int 2), (5, .int 1), (4, .int (nI U)), (3, .int (nI t)), (0, .ref (a 0)), (1, .int fr), (2, .int to)]) hx hb d_M_send_176 hl (by decide) rfl (fun ls hl => ?_)
                        refine lv_iconst (v := 0) hx hb d_M_send_178 (by decide) ?_
                        refine lv_istore (lv' := [(8, .int 0), (7, .int 0), (6, .int 2), (5, .int 1), (4, .int (nI U)), (3, .int (nI t)), (0, .ref (a 0)), (1, .int fr), (2, .int to)]) hx hb d_M_send_179 hl (by decide) rfl (fun ls hl => ?_)
                        refine lv_iload hx hb d_M_send_181 (lv_at hl 0 rfl) ?_
                        refine lv_iload hx hb d_M_send_183 (lv_at hl 2 rfl) ?_
                        refine lv_icmp_ge (tgt := 239) hx hb d_M_send_185 (by decide) (fun c_185 => ?_) (fun c_185 => ?_)
                        · exact absurd c_185 (by decide)
                        · refine lv_iload hx hb d_M_send_188 (lv_at hl 3 rfl) ?_
                          refine lv_if_eq (tgt := 206) hx hb d_M_send_190 (by decide) (fun c_190 => ?_) (fun c_190 => ?_)
                          · exact absurd c_190 (by decide)
                          · refine lv_aload_n hx hb d_M_send_193 rfl (lv_at hl 6 rfl) ?_
                            refine lv_aload_n hx hb d_M_send_194 rfl (lv_at hl 6 rfl) ?_
                            refine mg_spread (v := (ma_snd y U t).1 9) hC hw fl_M_125 d_M_send_195 rfl ?_
                            refine ga_asi (v := nI sp) (hsp) ?_
                            refine lv_iconst (v := 1) hx hb d_M_send_198 (by decide) ?_
                            refine lv_iadd hx hb d_M_send_199 ?_
                            refine ga_asi (v := nI (sp + 1)) (nI_1 sp) ?_
                            refine ga_Vi (As := [.int (nI (sp + 1))]) (rest := []) hC hw (c_M_drawn l k a (ma_sD (ma_sD (ma_snd y U t) d_127) d_158) (nI (sp + 1)) (xa_posn sp hsp2) _) m_M_drawn ml_M_131 (ga_recv hw (q0 := 0) rfl rfl) rfl rfl ⟨Nat.le_of_ble_eq_true rfl, Nat.le_of_ble_eq_true rfl⟩ rfl hl.1 rfl (Nat.le_of_ble_eq_true rfl) d_M_send_200 ⟨Nat.le_of_ble_eq_true rfl, Nat.le_of_ble_eq_true rfl⟩ (fun r u H locs hp hw => ?_)
                            obtain ⟨rfl, rfl⟩ := hp
                            obtain ⟨d_200, ed_200⟩ : ∃ z, z = xa_lcg (ma_D (ma_sD (ma_sD (ma_snd y U t) d_127) d_158)) := ⟨_, rfl⟩
                            rw [← ed_200] at hw
                            have f_200 : d_200 = xa_lcg d_158 := ed_200
                            rw [← ed_200]
                            refine lv_goto (tgt := 207) hx hb d_M_send_203 (by decide) ?_
                            refine lv_istore (lv' := [(9, .int (xa_draw d_200 (nI (sp + 1)))), (8, .int 0), (7, .int 0), (6, .int 2), (5, .int 1), (4, .int (nI U)), (3, .int (nI t)), (0, .ref (a 0)), (1, .int fr), (2, .int to)]) hx hb d_M_send_207 hl (by decide) rfl (fun ls hl => ?_)
                            refine lv_iload hx hb d_M_send_209 (lv_at hl 2 rfl) ?_
                            refine lv_aload_n hx hb d_M_send_211 rfl (lv_at hl 7 rfl) ?_
                            refine lv_iload_n hx hb d_M_send_212 rfl (lv_at hl 8 rfl) ?_
                            refine lv_iload_n hx hb d_M_send_213 rfl (lv_at hl 9 rfl) ?_
                            refine lv_iload hx hb d_M_send_214 (lv_at hl 0 rfl) ?_
                            refine lv_iload hx hb d_M_send_216 (lv_at hl 5 rfl) ?_
                            refine lv_iload_n hx hb d_M_send_218 rfl (lv_at hl 6 rfl) ?_
                            refine ga_Vi (As := [.int fr, .int to, .int (xa_draw d_200 (nI (sp + 1))), .int (nI U), .int (nI t)]) (rest := [.int 0]) hC hw (c_M_go l k a (ma_sD (ma_sD (ma_sD (ma_snd y U t) d_127) d_158) d_200) fr to (xa_draw d_200 (nI (sp + 1))) (nI U) (nI t) M i9 j9 hM (by omega) ei9 hi9 ej9 hj9 _) m_M_go ml_M_134 (ga_recv hw (q0 := 0) rfl rfl) rfl rfl ⟨Nat.le_of_ble_eq_true rfl, Nat.le_of_ble_eq_true rfl⟩ rfl hl.1 rfl (Nat.le_of_ble_eq_true rfl) d_M_send_219 ⟨Nat.le_of_ble_eq_true rfl, Nat.le_of_ble_eq_true rfl⟩ (fun r u H locs hp hw => ?_)
                            have hp1 := hp
                            obtain ⟨r1, er1⟩ : ∃ z, z = r := ⟨_, rfl⟩
                            subst er1
                            obtain ⟨u1, eu1⟩ : ∃ z, z = u := ⟨_, rfl⟩
                            subst eu1
                            rcases ma_go_M hp1 hM with ⟨rfl, hM1, hs1⟩ | ⟨rfl, hM1, hs1⟩
                            · refine lv_if_eq (tgt := 229) hx hb d_M_send_222 (by decide) (fun c_222 => ?_) (fun c_222 => ?_)
                              · refine lv_iconst (v := 0) hx hb d_M_send_229 (by decide) ?_
                                refine lv_iadd hx hb d_M_send_230 ?_
                                refine lv_istore (lv' := [(7, .int (0 + 0)), (9, .int (xa_draw d_200 (nI (sp + 1)))), (8, .int 0), (6, .int 2), (5, .int 1), (4, .int (nI U)), (3, .int (nI t)), (0, .ref (a 0)), (1, .int fr), (2, .int to)]) hx hb d_M_send_231 hl (by decide) rfl (fun ls hl => ?_)
                                refine lv_iinc (v := 1) (lv' := [(8, .int 1), (7, .int (0 + 0)), (9, .int (xa_draw d_200 (nI (sp + 1)))), (6, .int 2), (5, .int 1), (4, .int (nI U)), (3, .int (nI t)), (0, .ref (a 0)), (1, .int fr), (2, .int to)]) hx hb d_M_send_233 hl (k := 2) rfl (rfl) (by decide) rfl (fun ls hl => ?_)
                                refine lv_goto (tgt := 181) hx hb d_M_send_236 (by decide) ?_
                                refine lv_iload hx hb d_M_send_181 (lv_at hl 0 rfl) ?_
                                refine lv_iload hx hb d_M_send_183 (lv_at hl 3 rfl) ?_
                                refine lv_icmp_ge (tgt := 239) hx hb d_M_send_185 (by decide) (fun c_185 => ?_) (fun c_185 => ?_)
                                · exact absurd c_185 (by decide)
                                · refine lv_iload hx hb d_M_send_188 (lv_at hl 4 rfl) ?_
                                  refine lv_if_eq (tgt := 206) hx hb d_M_send_190 (by decide) (fun c_190 => ?_) (fun c_190 => ?_)
                                  · exact absurd c_190 (by decide)
                                  · refine lv_aload_n hx hb d_M_send_193 rfl (lv_at hl 7 rfl) ?_
                                    refine lv_aload_n hx hb d_M_send_194 rfl (lv_at hl 7 rfl) ?_
                                    refine mg_spread (v := u1.1 9) hC hw fl_M_125 d_M_send_195 rfl ?_
                                    refine ga_asi (v := nI sp) (hs1.trans hsp) ?_
                                    refine lv_iconst (v := 1) hx hb d_M_send_198 (by decide) ?_
                                    refine lv_iadd hx hb d_M_send_199 ?_
                                    refine ga_asi (v := nI (sp + 1)) (nI_1 sp) ?_
                                    refine ga_Vi (As := [.int (nI (sp + 1))]) (rest := []) hC hw (c_M_drawn l k a u1 (nI (sp + 1)) (xa_posn sp hsp2) _) m_M_drawn ml_M_131 (ga_recv hw (q0 := 0) rfl rfl) rfl rfl ⟨Nat.le_of_ble_eq_true rfl, Nat.le_of_ble_eq_true rfl⟩ rfl hl.1 rfl (Nat.le_of_ble_eq_true rfl) d_M_send_200 ⟨Nat.le_of_ble_eq_true rfl, Nat.le_of_ble_eq_true rfl⟩ (fun r u H locs hp hw => ?_)
                                    obtain ⟨rfl, rfl⟩ := hp
                                    obtain ⟨d_200b, ed_200b⟩ : ∃ z, z = xa_lcg (ma_D u1) := ⟨_, rfl⟩
                                    rw [← ed_200b] at hw
                                    have f_200b : d_200b = xa_lcg (ma_D u1) := ed_200b
                                    rw [← ed_200b]
                                    refine lv_goto (tgt := 207) hx hb d_M_send_203 (by decide) ?_
                                    refine lv_istore (lv' := [(9, .int (xa_draw d_200b (nI (sp + 1)))), (8, .int 1), (7, .int (0 + 0)), (6, .int 2), (5, .int 1), (4, .int (nI U)), (3, .int (nI t)), (0, .ref (a 0)), (1, .int fr), (2, .int to)]) hx hb d_M_send_207 hl (by decide) rfl (fun ls hl => ?_)
                                    refine lv_iload hx hb d_M_send_209 (lv_at hl 2 rfl) ?_
                                    refine lv_aload_n hx hb d_M_send_211 rfl (lv_at hl 7 rfl) ?_
                                    refine lv_iload_n hx hb d_M_send_212 rfl (lv_at hl 8 rfl) ?_
                                    refine lv_iload_n hx hb d_M_send_213 rfl (lv_at hl 9 rfl) ?_
                                    refine lv_iload hx hb d_M_send_214 (lv_at hl 0 rfl) ?_
                                    refine lv_iload hx hb d_M_send_216 (lv_at hl 5 rfl) ?_
                                    refine lv_iload_n hx hb d_M_send_218 rfl (lv_at hl 6 rfl) ?_
                                    refine ga_Vi (As := [.int fr, .int to, .int (xa_draw d_200b (nI (sp + 1))), .int (nI U), .int (nI t)]) (rest := [.int (0 + 0)]) hC hw (c_M_go l k a (ma_sD u1 d_200b) fr to (xa_draw d_200b (nI (sp + 1))) (nI U) (nI t) M i9 j9 hM1 (by omega) ei9 hi9 ej9 hj9 _) m_M_go ml_M_134 (ga_recv hw (q0 := 0) rfl rfl) rfl rfl ⟨Nat.le_of_ble_eq_true rfl, Nat.le_of_ble_eq_true rfl⟩ rfl hl.1 rfl (Nat.le_of_ble_eq_true rfl) d_M_send_219 ⟨Nat.le_of_ble_eq_true rfl, Nat.le_of_ble_eq_true rfl⟩ (fun r u H locs hp hw => ?_)
                                    have hp2 := hp
                                    rcases ma_go_b hp2 with rfl | rfl
                                    · refine lv_if_eq (tgt := 229) hx hb d_M_send_222 (by decide) (fun c_222 => ?_) (fun c_222 => ?_)
                                      · refine lv_iconst (v := 0) hx hb d_M_send_229 (by decide) ?_
                                        refine lv_iadd hx hb d_M_send_230 ?_
                                        refine lv_istore (lv' := [(7, .int ((0 + 0) + 0)), (9, .int (xa_draw d_200b (nI (sp + 1)))), (8, .int 1), (6, .int 2), (5, .int 1), (4, .int (nI U)), (3, .int (nI t)), (0, .ref (a 0)), (1, .int fr), (2, .int to)]) hx hb d_M_send_231 hl (by decide) rfl (fun ls hl => ?_)
                                        refine lv_iinc (v := 2) (lv' := [(8, .int 2), (7, .int ((0 + 0) + 0)), (9, .int (xa_draw d_200b (nI (sp + 1)))), (6, .int 2), (5, .int 1), (4, .int (nI U)), (3, .int (nI t)), (0, .ref (a 0)), (1, .int fr), (2, .int to)]) hx hb d_M_send_233 hl (k := 2) rfl (rfl) (by decide) rfl (fun ls hl => ?_)
                                        refine lv_goto (tgt := 181) hx hb d_M_send_236 (by decide) ?_
                                        refine lv_iload hx hb d_M_send_181 (lv_at hl 0 rfl) ?_
                                        refine lv_iload hx hb d_M_send_183 (lv_at hl 3 rfl) ?_
                                        refine lv_icmp_ge (tgt := 239) hx hb d_M_send_185 (by decide) (fun c_185 => ?_) (fun c_185 => ?_)
                                        · refine lv_iload hx hb d_M_send_239 (lv_at hl 1 rfl) ?_
                                          exact ga_iret (u := u) hC hr hlocks hw (Or.inr ⟨i9, j9, hi9, ei9, hj9, ej9, Or.inr (Or.inr ⟨h_112, Int32.not_le.mp c_99, by unfold ma_noi; rw [← f_127, ← f_158, ← f_200]; exact Or.inr ⟨Int32.not_lt.mpr c_134, 0, u1, hp1, Or.inr ⟨Int32.not_le.mp c_165, M, 0, Or.inl ⟨rfl, rfl⟩, by rw [← f_200b]; exact hp2, rfl⟩⟩⟩)⟩) (Nat.le_of_ble_eq_true rfl) (Nat.le_of_ble_eq_true rfl) d_M_send_241
                                        · exact absurd c_185 (by decide)
                                      · exact absurd c_222 (by decide)
                                    · refine lv_if_eq (tgt := 229) hx hb d_M_send_222 (by decide) (fun c_222 => ?_) (fun c_222 => ?_)
                                      · exact absurd c_222 (by decide)
                                      · refine lv_iconst (v := 1) hx hb d_M_send_225 (by decide) ?_
                                        refine lv_goto (tgt := 230) hx hb d_M_send_226 (by decide) ?_
                                        refine lv_iadd hx hb d_M_send_230 ?_
                                        refine lv_istore (lv' := [(7, .int ((0 + 0) + 1)), (9, .int (xa_draw d_200b (nI (sp + 1)))), (8, .int 1), (6, .int 2), (5, .int 1), (4, .int (nI U)), (3, .int (nI t)), (0, .ref (a 0)), (1, .int fr), (2, .int to)]) hx hb d_M_send_231 hl (by decide) rfl (fun ls hl => ?_)
                                        refine lv_iinc (v := 2) (lv' := [(8, .int 2), (7, .int ((0 + 0) + 1)), (9, .int (xa_draw d_200b (nI (sp + 1)))), (6, .int 2), (5, .int 1), (4, .int (nI U)), (3, .int (nI t)), (0, .ref (a 0)), (1, .int fr), (2, .int to)]) hx hb d_M_send_233 hl (k := 2) rfl (rfl) (by decide) rfl (fun ls hl => ?_)
                                        refine lv_goto (tgt := 181) hx hb d_M_send_236 (by decide) ?_
                                        refine lv_iload hx hb d_M_send_181 (lv_at hl 0 rfl) ?_
                                        refine lv_iload hx hb d_M_send_183 (lv_at hl 3 rfl) ?_
                                        refine lv_icmp_ge (tgt := 239) hx hb d_M_send_185 (by decide) (fun c_185 => ?_) (fun c_185 => ?_)
                                        · refine lv_iload hx hb d_M_send_239 (lv_at hl 1 rfl) ?_
                                          exact ga_iret (u := u) hC hr hlocks hw (Or.inr ⟨i9, j9, hi9, ei9, hj9, ej9, Or.inr (Or.inr ⟨h_112, Int32.not_le.mp c_99, by unfold ma_noi; rw [← f_127, ← f_158, ← f_200]; exact Or.inr ⟨Int32.not_lt.mpr c_134, 0, u1, hp1, Or.inr ⟨Int32.not_le.mp c_165, M, 1, Or.inl ⟨rfl, rfl⟩, by rw [← f_200b]; exact hp2, rfl⟩⟩⟩)⟩) (Nat.le_of_ble_eq_true rfl) (Nat.le_of_ble_eq_true rfl) d_M_send_241
                                        · exact absurd c_185 (by decide)
                              · exact absurd c_222 (by decide)
                            · refine lv_if_eq (tgt := 229) hx hb d_M_send_222 (by decide) (fun c_222 => ?_) (fun c_222 => ?_)
                              · exact absurd c_222 (by decide)
                              · refine lv_iconst (v := 1) hx hb d_M_send_225 (by decide) ?_
                                refine lv_goto (tgt := 230) hx hb d_M_send_226 (by decide) ?_
                                refine lv_iadd hx hb d_M_send_230 ?_
                                refine lv_istore (lv' := [(7, .int (0 + 1)), (9, .int (xa_draw d_200 (nI (sp + 1)))), (8, .int 0), (6, .int 2), (5, .int 1), (4, .int (nI U)), (3, .int (nI t)), (0, .ref (a 0)), (1, .int fr), (2, .int to)]) hx hb d_M_send_231 hl (by decide) rfl (fun ls hl => ?_)
                                refine lv_iinc (v := 1) (lv' := [(8, .int 1), (7, .int (0 + 1)), (9, .int (xa_draw d_200 (nI (sp + 1)))), (6, .int 2), (5, .int 1), (4, .int (nI U)), (3, .int (nI t)), (0, .ref (a 0)), (1, .int fr), (2, .int to)]) hx hb d_M_send_233 hl (k := 2) rfl (rfl) (by decide) rfl (fun ls hl => ?_)
                                refine lv_goto (tgt := 181) hx hb d_M_send_236 (by decide) ?_
                                refine lv_iload hx hb d_M_send_181 (lv_at hl 0 rfl) ?_
                                refine lv_iload hx hb d_M_send_183 (lv_at hl 3 rfl) ?_
                                refine lv_icmp_ge (tgt := 239) hx hb d_M_send_185 (by decide) (fun c_185 => ?_) (fun c_185 => ?_)
                                · exact absurd c_185 (by decide)
                                · refine lv_iload hx hb d_M_send_188 (lv_at hl 4 rfl) ?_
                                  refine lv_if_eq (tgt := 206) hx hb d_M_send_190 (by decide) (fun c_190 => ?_) (fun c_190 => ?_)
                                  · exact absurd c_190 (by decide)
                                  · refine lv_aload_n hx hb d_M_send_193 rfl (lv_at hl 7 rfl) ?_
                                    refine lv_aload_n hx hb d_M_send_194 rfl (lv_at hl 7 rfl) ?_
                                    refine mg_spread (v := u1.1 9) hC hw fl_M_125 d_M_send_195 rfl ?_
                                    refine ga_asi (v := nI sp) (hs1.trans hsp) ?_
                                    refine lv_iconst (v := 1) hx hb d_M_send_198 (by decide) ?_
                                    refine lv_iadd hx hb d_M_send_199 ?_
                                    refine ga_asi (v := nI (sp + 1)) (nI_1 sp) ?_
                                    refine ga_Vi (As := [.int (nI (sp + 1))]) (rest := []) hC hw (c_M_drawn l k a u1 (nI (sp + 1)) (xa_posn sp hsp2) _) m_M_drawn ml_M_131 (ga_recv hw (q0 := 0) rfl rfl) rfl rfl ⟨Nat.le_of_ble_eq_true rfl, Nat.le_of_ble_eq_true rfl⟩ rfl hl.1 rfl (Nat.le_of_ble_eq_true rfl) d_M_send_200 ⟨Nat.le_of_ble_eq_true rfl, Nat.le_of_ble_eq_true rfl⟩ (fun r u H locs hp hw => ?_)
                                    obtain ⟨rfl, rfl⟩ := hp
                                    obtain ⟨d_200b, ed_200b⟩ : ∃ z, z = xa_lcg (ma_D u1) := ⟨_, rfl⟩
                                    rw [← ed_200b] at hw
                                    have f_200b : d_200b = xa_lcg (ma_D u1) := ed_200b
                                    rw [← ed_200b]
                                    refine lv_goto (tgt := 207) hx hb d_M_send_203 (by decide) ?_
                                    refine lv_istore (lv' := [(9, .int (xa_draw d_200b (nI (sp + 1)))), (8, .int 1), (7, .int (0 + 1)), (6, .int 2), (5, .int 1), (4, .int (nI U)), (3, .int (nI t)), (0, .ref (a 0)), (1, .int fr), (2, .int to)]) hx hb d_M_send_207 hl (by decide) rfl (fun ls hl => ?_)
                                    refine lv_iload hx hb d_M_send_209 (lv_at hl 2 rfl) ?_
                                    refine lv_aload_n hx hb d_M_send_211 rfl (lv_at hl 7 rfl) ?_
                                    refine lv_iload_n hx hb d_M_send_212 rfl (lv_at hl 8 rfl) ?_
                                    refine lv_iload_n hx hb d_M_send_213 rfl (lv_at hl 9 rfl) ?_
                                    refine lv_iload hx hb d_M_send_214 (lv_at hl 0 rfl) ?_
                                    refine lv_iload hx hb d_M_send_216 (lv_at hl 5 rfl) ?_
                                    refine lv_iload_n hx hb d_M_send_218 rfl (lv_at hl 6 rfl) ?_
                                    refine ga_Vi (As := [.int fr, .int to, .int (xa_draw d_200b (nI (sp + 1))), .int (nI U), .int (nI t)]) (rest := [.int (0 + 1)]) hC hw (c_M_go l k a (ma_sD u1 d_200b) fr to (xa_draw d_200b (nI (sp + 1))) (nI U) (nI t) (M + 1) i9 j9 hM1 (by omega) ei9 hi9 ej9 hj9 _) m_M_go ml_M_134 (ga_recv hw (q0 := 0) rfl rfl) rfl rfl ⟨Nat.le_of_ble_eq_true rfl, Nat.le_of_ble_eq_true rfl⟩ rfl hl.1 rfl (Nat.le_of_ble_eq_true rfl) d_M_send_219 ⟨Nat.le_of_ble_eq_true rfl, Nat.le_of_ble_eq_true rfl⟩ (fun r u H locs hp hw => ?_)
                                    have hp2 := hp
                                    rcases ma_go_b hp2 with rfl | rfl
                                    · refine lv_if_eq (tgt := 229) hx hb d_M_send_222 (by decide) (fun c_222 => ?_) (fun c_222 => ?_)
                                      · refine lv_iconst (v := 0) hx hb d_M_send_229 (by decide) ?_
                                        refine lv_iadd hx hb d_M_send_230 ?_
                                        refine lv_istore (lv' := [(7, .int ((0 + 1) + 0)), (9, .int (xa_draw d_200b (nI (sp + 1)))), (8, .int 1), (6, .int 2), (5, .int 1), (4, .int (nI U)), (3, .int (nI t)), (0, .ref (a 0)), (1, .int fr), (2, .int to)]) hx hb d_M_send_231 hl (by decide) rfl (fun ls hl => ?_)
                                        refine lv_iinc (v := 2) (lv' := [(8, .int 2), (7, .int ((0 + 1) + 0)), (9, .int (xa_draw d_200b (nI (sp + 1)))), (6, .int 2), (5, .int 1), (4, .int (nI U)), (3, .int (nI t)), (0, .ref (a 0)), (1, .int fr), (2, .int to)]) hx hb d_M_send_233 hl (k := 2) rfl (rfl) (by decide) rfl (fun ls hl => ?_)
                                        refine lv_goto (tgt := 181) hx hb d_M_send_236 (by decide) ?_
                                        refine lv_iload hx hb d_M_send_181 (lv_at hl 0 rfl) ?_
                                        refine lv_iload hx hb d_M_send_183 (lv_at hl 3 rfl) ?_
                                        refine lv_icmp_ge (tgt := 239) hx hb d_M_send_185 (by decide) (fun c_185 => ?_) (fun c_185 => ?_)
                                        · refine lv_iload hx hb d_M_send_239 (lv_at hl 1 rfl) ?_
                                          exact ga_iret (u := u) hC hr hlocks hw (Or.inr ⟨i9, j9, hi9, ei9, hj9, ej9, Or.inr (Or.inr ⟨h_112, Int32.not_le.mp c_99, by unfold ma_noi; rw [← f_127, ← f_158, ← f_200]; exact Or.inr ⟨Int32.not_lt.mpr c_134, 1, u1, hp1, Or.inr ⟨Int32.not_le.mp c_165, M + 1, 0, Or.inr ⟨rfl, rfl⟩, by rw [← f_200b]; exact hp2, rfl⟩⟩⟩)⟩) (Nat.le_of_ble_eq_true rfl) (Nat.le_of_ble_eq_true rfl) d_M_send_241
                                        · exact absurd c_185 (by decide)
                                      · exact absurd c_222 (by decide)
                                    · refine lv_if_eq (tgt := 229) hx hb d_M_send_222 (by decide) (fun c_222 => ?_) (fun c_222 => ?_)
                                      · exact absurd c_222 (by decide)
                                      · refine lv_iconst (v := 1) hx hb d_M_send_225 (by decide) ?_
                                        refine lv_goto (tgt := 230) hx hb d_M_send_226 (by decide) ?_
                                        refine lv_iadd hx hb d_M_send_230 ?_
                                        refine lv_istore (lv' := [(7, .int ((0 + 1) + 1)), (9, .int (xa_draw d_200b (nI (sp + 1)))), (8, .int 1), (6, .int 2), (5, .int 1), (4, .int (nI U)), (3, .int (nI t)), (0, .ref (a 0)), (1, .int fr), (2, .int to)]) hx hb d_M_send_231 hl (by decide) rfl (fun ls hl => ?_)
                                        refine lv_iinc (v := 2) (lv' := [(8, .int 2), (7, .int ((0 + 1) + 1)), (9, .int (xa_draw d_200b (nI (sp + 1)))), (6, .int 2), (5, .int 1), (4, .int (nI U)), (3, .int (nI t)), (0, .ref (a 0)), (1, .int fr), (2, .int to)]) hx hb d_M_send_233 hl (k := 2) rfl (rfl) (by decide) rfl (fun ls hl => ?_)
                                        refine lv_goto (tgt := 181) hx hb d_M_send_236 (by decide) ?_
                                        refine lv_iload hx hb d_M_send_181 (lv_at hl 0 rfl) ?_
                                        refine lv_iload hx hb d_M_send_183 (lv_at hl 3 rfl) ?_
                                        refine lv_icmp_ge (tgt := 239) hx hb d_M_send_185 (by decide) (fun c_185 => ?_) (fun c_185 => ?_)
                                        · refine lv_iload hx hb d_M_send_239 (lv_at hl 1 rfl) ?_
                                          exact ga_iret (u := u) hC hr hlocks hw (Or.inr ⟨i9, j9, hi9, ei9, hj9, ej9, Or.inr (Or.inr ⟨h_112, Int32.not_le.mp c_99, by unfold ma_noi; rw [← f_127, ← f_158, ← f_200]; exact Or.inr ⟨Int32.not_lt.mpr c_134, 1, u1, hp1, Or.inr ⟨Int32.not_le.mp c_165, M + 1, 1, Or.inr ⟨rfl, rfl⟩, by rw [← f_200b]; exact hp2, rfl⟩⟩⟩)⟩) (Nat.le_of_ble_eq_true rfl) (Nat.le_of_ble_eq_true rfl) d_M_send_241
                                        · exact absurd c_185 (by decide)
                  · refine lv_aload_n hx hb d_M_send_137 rfl (lv_at hl 3 rfl) ?_
                    refine lv_dup hx hb d_M_send_138 rfl ?_
                    refine mg_lost (v := (ma_snd y U t).1 12) hC hw fl_M_110 d_M_send_139 rfl ?_
                    refine lv_iconst (v := 1) hx hb d_M_send_142 (by decide) ?_
                    refine lv_iadd hx hb d_M_send_143 ?_
                    refine mp_lost hC hw fl_M_110 d_M_send_144 (fun H locs hw => ?_)
                    refine lv_iconst (v := 0) hx hb d_M_send_147 (by decide) ?_
                    exact ga_iret (u := ma_sI (ma_sD (ma_snd y U t) d_127) 12 (((ma_snd y U t).1 12) + 1)) hC hr hlocks hw (Or.inr ⟨i9, j9, hi9, ei9, hj9, ej9, Or.inr (Or.inr ⟨h_112, Int32.not_le.mp c_99, by unfold ma_noi; rw [← f_127]; exact Or.inl ⟨Int32.not_le.mp c_134, rfl, rfl⟩⟩)⟩) (Nat.le_of_ble_eq_true rfl) (Nat.le_of_ble_eq_true rfl) d_M_send_148
        · exact absurd c_26 (by decide)
      · refine lv_if_ne (tgt := 35) hx hb d_M_send_26 (by decide) (fun c_26 => ?_) (fun c_26 => ?_)
        · exact absurd c_26 (by decide)
        · refine lv_aload_n hx hb d_M_send_29 rfl (lv_at hl 1 rfl) ?_
          refine lv_iconst (v := 1) hx hb d_M_send_30 (by decide) ?_
          refine ga_Vi (As := [.int 1]) (rest := []) hC hw (c_M_fail l k a (ma_sI (ma_sI y 0 0) 4 0) 1 _) m_M_fail ml_M_58 (ga_recv hw (q0 := 0) rfl rfl) rfl rfl ⟨Nat.le_of_ble_eq_true rfl, Nat.le_of_ble_eq_true rfl⟩ rfl hl.1 rfl (Nat.le_of_ble_eq_true rfl) d_M_send_31 ⟨Nat.le_of_ble_eq_true rfl, Nat.le_of_ble_eq_true rfl⟩ (fun r u H locs hp hw => ?_)
          obtain ⟨rfl, rfl⟩ := hp
          exact ga_iret (u := ma_sI (ma_sI (ma_sI y 0 0) 4 0) 0 1) hC hr hlocks hw (Or.inl ⟨Or.inr h_23, rfl, rfl⟩) (Nat.le_of_ble_eq_true rfl) (Nat.le_of_ble_eq_true rfl) d_M_send_34
  · refine lv_if_eq (tgt := 29) hx hb d_M_send_19 (by decide) (fun c_19 => ?_) (fun c_19 => ?_)
    · refine lv_aload_n hx hb d_M_send_29 rfl (lv_at hl 1 rfl) ?_
      refine lv_iconst (v := 1) hx hb d_M_send_30 (by decide) ?_
      refine ga_Vi (As := [.int 1]) (rest := []) hC hw (c_M_fail l k a (ma_sI (ma_sI y 0 0) 4 0) 1 _) m_M_fail ml_M_58 (ga_recv hw (q0 := 0) rfl rfl) rfl rfl ⟨Nat.le_of_ble_eq_true rfl, Nat.le_of_ble_eq_true rfl⟩ rfl hl.1 rfl (Nat.le_of_ble_eq_true rfl) d_M_send_31 ⟨Nat.le_of_ble_eq_true rfl, Nat.le_of_ble_eq_true rfl⟩ (fun r u H locs hp hw => ?_)
      obtain ⟨rfl, rfl⟩ := hp
      exact ga_iret (u := ma_sI (ma_sI (ma_sI y 0 0) 4 0) 0 1) hC hr hlocks hw (Or.inl ⟨Or.inl h_16, rfl, rfl⟩) (Nat.le_of_ble_eq_true rfl) (Nat.le_of_ble_eq_true rfl) d_M_send_34
    · exact absurd c_19 (by decide)
