/-! send -/
section SO
variable {k : xa_k} {x : XS} {y y' : MS} {n M U t D c : Nat} {num : Nat → Nat}
theorem si_by.to {P P' : List Nat × (Nat → va_E)} {b : Nat} {bg sz : Int32} (h : si_by k P b y U bg sz) (hP : xa_ext P P') (h7 : ma_A y' 7 = ma_A y 7) : si_by k P' b y' U bg sz := by
  obtain ⟨len, f, g, h1, h2, h3, h4, h5, h6⟩ := h
  exact ⟨len, f, g, xa_isB_ext hP h1, h2, h3, h4, h5, by rw [h7]; exact h6⟩
theorem si0.noi {i9 j9 b sp : Nat} {fr to bg sz r r2 : Int32} {u : XS} (h : si0 k x y n M U t D num) (hfr : fr = nI i9) (hi9 : i9 < 16) (hto : to = nI j9) (hj9 : j9 < 16) (hb : si_by k (xa_P x) b y U bg sz) (hx : xa_noi x n i9 j9 sp fr to b r u) (hy : ma_noi y M i9 j9 sp fr to bg sz r2 y') :
    r2 = r ∧ y'.1 0 = y.1 0 ∧ ∃ n' M' num', M' ≤ M + 2 ∧ si0 k u y' n' M' U t D num' := by
  have eD : xa_D x = ma_D y := h.2.2.2.2.1.2.1.2.2.2
  have e12 : x.1 12 = y.1 7 := h.2.2.2.2.1.2.1.1
  have e13 : x.1 13 = y.1 8 := h.2.2.2.2.1.2.1.2.1
  have e5 : x.1 5 = y.1 12 := h.2.2.2.2.1.1.2.2.2.2
  unfold xa_noi at hx
  unfold ma_noi at hy
  rw [← eD, ← e12, ← e13, ← e5] at hy
  obtain ⟨d1, f1⟩ : ∃ z, z = xa_lcg (xa_D x) := ⟨_, rfl⟩
  rw [← f1] at hx hy
  obtain ⟨d2, f2⟩ : ∃ z, z = xa_lcg d1 := ⟨_, rfl⟩
  rw [← f2] at hx hy
  obtain ⟨d3, f3⟩ : ∃ z, z = xa_lcg d2 := ⟨_, rfl⟩
  rw [← f3] at hx hy
  rcases hx with ⟨hx, rfl, rfl⟩ | ⟨hx, r1, u1, hl1, hx2⟩
  · rcases hy with ⟨hy, rfl, rfl⟩ | ⟨hy, -⟩
    · exact ⟨rfl, rfl, n, M, num, by omega, (h.draw d1).lost (x.1 5 + 1)⟩
    · exact absurd hx hy
  · rcases hy with ⟨hy, -⟩ | ⟨hy, q1, w1, hg1, hy2⟩
    · exact absurd hy hx
    · have hb3 : si_by k (xa_P (xa_sD x d3)) b (ma_sD y d3) U bg sz := hb
      obtain ⟨e1, z1, x1, D1, A1, -, n1, M1, num1, hm1, hs1⟩ := (h.draw d3).lau hfr hi9 hto hj9 hb3 hl1 hg1
      subst e1
      have z1 : w1.1 0 = y.1 0 := z1
      have eD1 : xa_D u1 = ma_D w1 := hs1.2.2.2.2.1.2.1.2.2.2
      rw [← eD1] at hy2
      obtain ⟨d4, f4⟩ : ∃ z, z = xa_lcg (xa_D u1) := ⟨_, rfl⟩
      rw [← f4] at hx2 hy2
      rcases hx2 with ⟨hx2, rfl, rfl⟩ | ⟨hx2, n2, r3, hn2, hl2, rfl⟩
      · rcases hy2 with ⟨hy2, rfl, rfl⟩ | ⟨hy2, -⟩
        · refine ⟨rfl, z1, n1, M1, num1, ?_, hs1⟩
          rcases hm1 with ⟨-, -, a3⟩ | ⟨-, -, a3⟩ <;> omega
        · exact absurd hy2 hx2
      · rcases hy2 with ⟨hy2, -⟩ | ⟨hy2, M2, r4, hM2, hg2, rfl⟩
        · exact absurd hx2 hy2
        · have e2 : n2 = n1 ∧ M2 = M1 := by
            rcases hm1 with ⟨a1, a2, a3⟩ | ⟨a1, a2, a3⟩
            · rcases hn2 with ⟨-, b2⟩ | ⟨b1, -⟩
              · rcases hM2 with ⟨-, d2⟩ | ⟨d1, -⟩
                · exact ⟨b2.trans a2.symm, d2.trans a3.symm⟩
                · rw [a1] at d1; exact absurd d1 (by decide)
              · rw [a1] at b1; exact absurd b1 (by decide)
            · rcases hn2 with ⟨b1, -⟩ | ⟨-, b2⟩
              · rw [a1] at b1; exact absurd b1 (by decide)
              · rcases hM2 with ⟨d1, -⟩ | ⟨-, d2⟩
                · rw [a1] at d1; exact absurd d1 (by decide)
                · exact ⟨b2.trans a2.symm, d2.trans a3.symm⟩
          obtain ⟨rfl, rfl⟩ := e2
          have hb4 : si_by k (xa_P (xa_sD u1 d4)) b (ma_sD w1 d4) U bg sz := hb.to x1 A1
          obtain ⟨e4, z2, x2, D2, A2, -, n3, M3, num3, hm3, hs3⟩ := (hs1.draw d4).lau hfr hi9 hto hj9 hb4 hl2 hg2
          subst e4
          have z2 : y'.1 0 = w1.1 0 := z2
          refine ⟨rfl, z2.trans z1, n3, M3, num3, ?_, hs3⟩
          rcases hm1 with ⟨-, -, a3⟩ | ⟨-, -, a3⟩ <;> rcases hm3 with ⟨-, -, b3⟩ | ⟨-, -, b3⟩ <;> omega
theorem ends_no {fr : Int32} {i : Nat} (hi : i < 16) (e : fr = nI i) (h : fr < 0 ∨ 15 < fr) : False := by
  subst e
  rcases h with h | h
  · exact nI_pos (by omega) h
  · exact absurd ((nI_ltI (a := 15) (by decide) (by omega)).mp h) (by omega)
theorem so_send {fr to r r2 : Int32} {sp : Nat} {u : (Nat → Int64) × XS} (h : si0 k x y n M U t D num) (hc : M ≤ 2 * c ∧ U + t ≤ 8 * c ∧ D ≤ 232 * c) (hx : lo_send k x fr to n t sp r u)
    (hy : (((fr < 0 ∨ 15 < fr) ∨ (to < 0 ∨ 15 < to)) ∧ r2 = 0 ∧ y' = ma_sI (ma_sI (ma_sI y 0 0) 4 0) 0 1) ∨ (∃ i9 j9, i9 < 16 ∧ fr = nI i9 ∧ j9 < 16 ∧ to = nI j9 ∧ ((¬ xa_bit (y.1 5) fr = xa_bit (y.1 5) to ∧ r2 = 0 ∧ y' = ma_sI (ma_snd y U t) 12 (y.1 12 + 1)) ∨ (xa_bit (y.1 5) fr = xa_bit (y.1 5) to ∧ ¬ 0 < y.1 7 + y.1 8 + y.1 9 ∧ ∃ r1, ma_go (ma_snd y U t) M i9 j9 fr to 0 (nI U) (nI t) r1 y' ∧ r2 = 0 + r1) ∨ (xa_bit (y.1 5) fr = xa_bit (y.1 5) to ∧ 0 < y.1 7 + y.1 8 + y.1 9 ∧ ma_noi (ma_snd y U t) M i9 j9 sp fr to (nI U) (nI t) r2 y')))) :
    so k c r u.2 y' ∧ (r = 0 → u.1 0 = r2.toInt64) := by
  obtain ⟨T1, T2, T3, T4, T5⟩ := h.2.2.2.2.2.1
  have hS := h.2.2.2.2.1
  have e2 : x.1 2 = y.1 5 := hS.1.2.1
  have e5 : x.1 5 = y.1 12 := hS.1.2.2.2.2
  rcases hx with ⟨rfl, v7, hv, b, f, P2, hext, hB, hf, i9, j9, hi9, ei, hj9, ej, hx⟩ | ⟨rfl, -, ⟨P2, hext, hu⟩, hx⟩
  · rcases hy with ⟨hy, -⟩ | ⟨i', j', hi', ei', hj', ej', hy⟩
    · exfalso
      rcases hy with hy | hy
      · exact ends_no hi9 ei hy
      · exact ends_no hj9 ej hy
    · obtain rfl := (nI_eq (by omega) (by omega)).mp (ei.symm.trans ei')
      obtain rfl := (nI_eq (by omega) (by omega)).mp (ej.symm.trans ej')
      have hs : si0 k (xa_sI (xa_sP x P2) 6 0) (ma_snd y U t) n M (U + t) 0 D num := by
        refine h.pool (y' := ma_snd y U t) hext (Nat.le_add_right U t) rfl rfl (fun i h0 h3 h4 => ?_) rfl (fun i h7 => if_neg h7) (fun j hj => ?_)
        · show upd (upd (upd y.1 0 0) 4 0) 3 (nI (U + t)) i = y.1 i
          rw [pk_un h3, pk_un h4, pk_un h0]
        · show ma_cp (ma_A y 7) U (ma_A y 8) t j = ma_A y 7 j
          unfold ma_cp
          rw [if_neg (by omega)]
      have hby : si_by k P2 b (ma_snd y U t) (U + t) (nI U) (nI t) := by
        refine ⟨t, f, U, hB, T3, rfl, rfl, Nat.le_refl _, fun i hi => ?_⟩
        show f i &&& 255 = ma_cp (ma_A y 7) U (ma_A y 8) t (U + i)
        unfold ma_cp
        rw [if_pos (by omega), Nat.add_sub_cancel_left, hf i hi, T5 i hi]
      have hpar : xa_par x fr to ↔ ¬ xa_bit (y.1 5) fr = xa_bit (y.1 5) to := by
        unfold xa_par
        rw [e2]
        exact bit_par _ _ _
      have hz : (x.1 12 = 0 ∧ x.1 13 = 0 ∧ x.1 14 = 0) ↔ ¬ 0 < y.1 7 + y.1 8 + y.1 9 := by
        obtain ⟨a, b9, c9, ha, hb9, hc9, q1, q2, q3⟩ := hS.2.2.1
        rw [← hS.2.1.1, ← hS.2.1.2.1, ← hS.2.1.2.2.1, q1, q2, q3, nI_add, nI_add]
        constructor
        · rintro ⟨z1, z2, z3⟩
          have z1' := (nI_eq (b := 0) (by omega) (by decide)).mp z1
          have z2' := (nI_eq (b := 0) (by omega) (by decide)).mp z2
          have z3' := (nI_eq (b := 0) (by omega) (by decide)).mp z3
          rw [z1', z2', z3']
          decide
        · intro hz
          have : ¬ 0 < a + b9 + c9 := fun h => hz (nI_lt (a := 0) h (by omega))
          have y1 : a = 0 := by omega
          have y2 : b9 = 0 := by omega
          have y3 : c9 = 0 := by omega
          subst y1; subst y2; subst y3
          exact ⟨rfl, rfl, rfl⟩
      rcases hx with ⟨p1, rfl, hu⟩ | ⟨p1, z1, hl⟩ | ⟨p1, z1, hl⟩
      · rcases hy with ⟨p2, rfl, rfl⟩ | ⟨p2, -⟩ | ⟨p2, -⟩
        · rw [hu, e5]
          exact ⟨⟨rfl, n, M, U + t, 0, D, num, hs.lost _, by omega, by omega, by omega⟩, fun _ => hv⟩
        · exact absurd p2 (hpar.mp p1)
        · exact absurd p2 (hpar.mp p1)
      · rcases hy with ⟨p2, -⟩ | ⟨p2, z2, r1, hg, rfl⟩ | ⟨p2, z2, -⟩
        · exact absurd (hpar.mpr p2) p1
        · obtain ⟨rfl, z9, -, -, -, -, n', M', num', hm, hs'⟩ := hs.lau ei hi9 ej hj9 hby hl hg
          refine ⟨⟨z9, n', M', U + t, 0, D, num', hs', ?_, by omega, by omega⟩, fun _ => ?_⟩
          · rcases hm with ⟨-, -, a3⟩ | ⟨-, -, a3⟩ <;> omega
          · rw [hv, Int32.zero_add]
        · exact absurd z2 (hz.mp z1)
      · rcases hy with ⟨p2, -⟩ | ⟨p2, z2, -⟩ | ⟨p2, z2, hg⟩
        · exact absurd (hpar.mpr p2) p1
        · exact absurd (hz.mpr z2) z1
        · obtain ⟨rfl, z9, n', M', num', hm, hs'⟩ := hs.noi ei hi9 ej hj9 hby hl hg
          exact ⟨⟨z9, n', M', U + t, 0, D, num', hs', by omega, by omega, by omega⟩, fun _ => hv⟩
  · rcases hy with ⟨-, rfl, rfl⟩ | ⟨i', j', hi', ei', hj', ej', -⟩
    · rw [hu]
      refine ⟨⟨rfl, n, M, U, 0, D, num, h.pool (y' := ma_sI (ma_sI (ma_sI y 0 0) 4 0) 0 1) hext (Nat.le_refl U) h.2.1.2.2 rfl (fun i h0 h3 h4 => ?_) rfl (fun i _ => rfl) (fun j _ => rfl), by omega, by omega, by omega⟩, fun h => absurd h (by decide)⟩
      show upd (upd (upd y.1 0 0) 4 0) 0 1 i = y.1 i
      rw [pk_un h0, pk_un h4, pk_un h0]
    · exfalso
      rcases hx with hx | hx | hx | hx
      · exact ends_no hi' ei' (Or.inl hx)
      · exact ends_no hi' ei' (Or.inr hx)
      · exact ends_no hj' ej' (Or.inl hx)
      · exact ends_no hj' ej' (Or.inr hx)
end SO
