/-! feed and send -/
theorem ne_IAE_ISE : ga_IAE ≠ ga_ISE := by decide
theorem ne_IAE_IOB : ga_IAE ≠ ga_IOB := by decide
theorem ma_sI_2 {y : MS} {i : Nat} {a v : Int32} : ma_sI (ma_sI y i a) i v = ma_sI y i v := by
  have e : upd (upd y.1 i a) i v = upd y.1 i v := by
    funext j
    unfold upd
    by_cases h : j = i
    · rw [if_pos h, if_pos h]
    · rw [if_neg h, if_neg h, if_neg h]
  show (upd (upd y.1 i a) i v, y.2) = (upd y.1 i v, y.2)
  rw [e]
/-- what a call leaves: the same throw, and what holds goes on -/
def so (k : xa_k) (c : Nat) (r : Int32) (u : XS) (y : MS) : Prop := y.1 0 = r ∧ si k u y (c + 1)
section SO
variable {k : xa_k} {x : XS} {y y' : MS} {n M U t D c : Nat} {num : Nat → Nat}
theorem so_same (h : si0 k x y n M U t D num) (hc : M ≤ 2 * c ∧ U + t ≤ 8 * c ∧ D ≤ 232 * c) (v : Int32) : so k c v x (ma_sI y 0 v) := ⟨rfl, n, M, U, t, D, num, h, by omega, by omega, by omega⟩
theorem si0.feed (h : si0 k x y n M U t D num) {nn : Nat} (hn8 : nn ≤ 8) (ht2 : t + nn ≤ 2048) (e9 : Int64) : si0 k (xa_sI (xa_sT x (xa_fd (xa_T x) t e9 nn)) 6 (nI (t + nn))) (ma_sI (ma_sA y 8 (ma_fd (ma_A y 8) t e9 nn)) 4 (nI (t + nn))) n M U (t + nn) D num := by
  obtain ⟨h1, h2, h3, h4, h5, h6, h7, h8⟩ := h
  refine ⟨h1, h2, h3, h4, h5, ⟨rfl, rfl, ht2, fun j hj => ?_, fun j hj => ?_⟩, h7, h8⟩
  · show fits .byte (.int (xa_fd (xa_T x) t e9 nn j)) = true
    unfold xa_fd
    split
    · exact by_fit _ _
    · exact h6.2.2.2.1 j hj
  · show xa_fd (xa_T x) t e9 nn j &&& 255 = ma_fd (ma_A y 8) t e9 nn j
    unfold xa_fd ma_fd
    by_cases hc : t ≤ j ∧ j < t + nn
    · rw [if_pos hc, if_pos hc]; exact by_eq e9 (j - t) (by omega)
    · rw [if_neg hc, if_neg hc]; exact h6.2.2.2.2 j (by omega)
theorem n8_no {n9 : Int32} {m : Nat} (h1 : 1 ≤ m) (h2 : m ≤ 8) (e : n9 = nI m) (h : n9 < 1 ∨ ¬ n9 ≤ 8) : False := by
  subst e
  rcases h with h | h
  · exact absurd ((nI_ltI (b := 1) (by omega) (by decide)).mp h) (by omega)
  · exact h (nI_le (b := 8) h2 (by decide))
theorem so_feed {e9 : Int64} {n9 r r2 : Int32} {u : (Nat → Int64) × XS} (h : si0 k x y n M U t D num) (hc : M ≤ 2 * c ∧ U + t ≤ 8 * c ∧ D ≤ 232 * c) (hx : lo_feed x e9 n9 t r u)
    (hy : ((n9 < 1 ∨ ¬ n9 ≤ 8) ∧ r2 = 0 ∧ y' = ma_sI y 0 1) ∨ (∃ n, 1 ≤ n ∧ n ≤ 8 ∧ n9 = nI n ∧ 2048 < t + n ∧ r2 = 0 ∧ y' = ma_sI y 0 2) ∨ (∃ n, 1 ≤ n ∧ n ≤ 8 ∧ n9 = nI n ∧ t + n ≤ 2048 ∧ r2 = nI (t + n) ∧ y' = ma_sI (ma_sA (ma_sI y 0 0) 8 (ma_fd (ma_A y 8) t e9 n)) 4 (nI (t + n)))) :
    so k c r u.2 y' ∧ (r = 0 → u.1 0 = r2.toInt64) := by
  rcases hx with ⟨rfl, v7, hv, m, m1, m8, em, hm, rfl, hu⟩ | ⟨rfl, hu, hx⟩ | ⟨rfl, hu, hx⟩
  · rcases hy with ⟨hy, -⟩ | ⟨m', m1', m8', em', hm', -⟩ | ⟨m', m1', m8', em', hm', rfl, rfl⟩
    · exact absurd (n8_no m1 m8 em hy) id
    · have := (nI_eq (by omega) (by omega)).mp (em.symm.trans em'); omega
    · obtain rfl := (nI_eq (by omega) (by omega)).mp (em.symm.trans em')
      rw [hu]
      exact ⟨⟨rfl, n, M, U, t + m, D, num, (h.thr 0).feed m8 hm e9, by omega, by omega, by omega⟩, fun _ => hv⟩
  · rcases hx with ⟨-, hx⟩ | ⟨hx, -⟩
    · rcases hy with ⟨-, -, rfl⟩ | ⟨m', m1', m8', em', -⟩ | ⟨m', m1', m8', em', -⟩
      · rw [← hu]; exact ⟨so_same h hc 1, fun h => absurd h (by decide)⟩
      · exact absurd (n8_no m1' m8' em' hx) id
      · exact absurd (n8_no m1' m8' em' hx) id
    · exact absurd hx ne_IAE_ISE
  · rcases hx with ⟨hx, -⟩ | ⟨-, m, m1, m8, em, hm⟩
    · exact absurd hx.symm ne_IAE_ISE
    · rcases hy with ⟨hy, -⟩ | ⟨m', m1', m8', em', hm', -, rfl⟩ | ⟨m', m1', m8', em', hm', -⟩
      · exact absurd (n8_no m1 m8 em hy) id
      · rw [← hu]; exact ⟨so_same h hc 2, fun h => absurd h (by decide)⟩
      · have := (nI_eq (by omega) (by omega)).mp (em.symm.trans em'); omega
/-- the tape is taken: P2 holds its bytes -/
theorem si0.pool (h : si0 k x y n M U t D num) {P2 : List Nat × (Nat → va_E)} (hext : xa_ext (xa_P x) P2) {U' : Nat} (hU : U ≤ U') (h3' : y'.1 3 = nI U') (h4' : y'.1 4 = nI 0) (hi : ∀ i, i ≠ 0 → i ≠ 3 → i ≠ 4 → y'.1 i = y.1 i) (hD : ma_D y' = ma_D y) (ho : ∀ i, i ≠ 7 → ma_A y' i = ma_A y i) (h7' : ∀ j, j < U → ma_A y' 7 j = ma_A y 7 j) : si0 k (xa_sI (xa_sP x P2) 6 0) y' n M U' 0 D num := by
  obtain ⟨h1, h2, h3, h4, h5, h6, h7, h8⟩ := h
  obtain ⟨e1, e2⟩ := h1.ext hext
  have e3 : ∀ j, j < n → xa_bb (xa_sI (xa_sP x P2) 6 0) j = xa_bb x j := fun j hj => (xa_okE_ext hext (h1.get hj).2).2.2
  have e2' : ∀ j, j < n → xa_at (xa_sI (xa_sP x P2) 6 0) j = xa_at x j := e2
  refine ⟨e1, ⟨h2.1, by rw [hi 2 (by decide) (by decide) (by decide)]; exact h2.2.1, h3'⟩, ?_, ?_, ?_, ⟨rfl, h4', Nat.zero_le _, h6.2.2.2.1, fun j hj => absurd hj (Nat.not_lt_zero j)⟩, ?_, ?_⟩
  · exact (h3.to hext hU (fun i hi9 e _ => by rw [ho i (by omega)]) h7').cg (fun j hj i _ => by rw [e2' j hj]) e3
  · obtain ⟨c1, c2, c3⟩ := h4
    have e : cn (fun i => xa_at (xa_sI (xa_sP x P2) 6 0) i 0 = 0) n = cn (fun i => xa_at x i 0 = 0) n := cn_congr n (fun i hi => by rw [e2' i hi])
    unfold si_C
    rw [e, hi 10 (by decide) (by decide) (by decide)]
    exact ⟨c1, c2, c3⟩
  · unfold si_S
    rw [hi 1 (by decide) (by decide) (by decide), hi 5 (by decide) (by decide) (by decide), hi 6 (by decide) (by decide) (by decide), hi 11 (by decide) (by decide) (by decide), hi 12 (by decide) (by decide) (by decide), hi 7 (by decide) (by decide) (by decide), hi 8 (by decide) (by decide) (by decide), hi 9 (by decide) (by decide) (by decide), hD, ho 9 (by decide)]
    exact h5
  · obtain ⟨al, af, b1, b2, b3⟩ := h7
    refine ⟨al, af, xa_isB_ext hext b1, b2, ?_⟩
    rw [hi 14 (by decide) (by decide) (by decide)]
    rcases b3 with b3 | ⟨e, bg, d1, d2, d3, d4, d5, d6⟩
    · exact Or.inl b3
    · exact Or.inr ⟨e, bg, d1, d2, by rw [ho 5 (by decide)]; exact d3, by rw [ho 4 (by decide)]; exact d4, by omega, fun i hi => by rw [h7' (bg + i) (by omega)]; exact d6 i hi⟩
  · unfold si_H
    rw [hi 13 (by decide) (by decide) (by decide), ho 11 (by decide), ho 10 (by decide), ho 0 (by decide), ho 3 (by decide)]
    exact h8
/-- the bytes at b are those that the reference has from bg on -/
def si_by (k : xa_k) (P : List Nat × (Nat → va_E)) (b : Nat) (y : MS) (U : Nat) (bg sz : Int32) : Prop := ∃ len f g, xa_isB k P b len f ∧ len ≤ 2048 ∧ bg = nI g ∧ sz = nI len ∧ g + len ≤ U ∧ ∀ i, i < len → f i &&& 255 = ma_A y 7 (g + i)
/-- launch() and go() -/
theorem si0.lau {i9 j9 b : Nat} {fr to late bg sz r r2 : Int32} {u : XS} (h : si0 k x y n M U t D num) (hfr : fr = nI i9) (hi9 : i9 < 16) (hto : to = nI j9) (hj9 : j9 < 16) (hb : si_by k (xa_P x) b y U bg sz) (hx : xa_lau x n i9 j9 fr to late b r u) (hy : ma_go y M i9 j9 fr to late bg sz r2 y') :
    r2 = r ∧ y'.1 0 = y.1 0 ∧ xa_ext (xa_P x) (xa_P u) ∧ xa_D u = xa_D x ∧ ma_A y' 7 = ma_A y 7 ∧ u.1 12 = x.1 12 ∧ ∃ n' M' num', ((r = 0 ∧ n' = n ∧ M' = M) ∨ (r = 1 ∧ n' = n + 1 ∧ M' = M + 1)) ∧ si0 k u y' n' M' U t D num' := by
  obtain ⟨c1, c2, c3⟩ := h.2.2.2.1
  rcases hx with ⟨rfl, hx, rfl⟩ | ⟨rfl, hx, a, q, hf, hq, hb4, haf, rfl⟩
  · rcases hy with ⟨hy, rfl, rfl⟩ | ⟨hy, rfl, rfl⟩
    · refine ⟨rfl, rfl, xa_ext_rf _, rfl, rfl, rfl, n, M, num, Or.inl ⟨rfl, rfl, rfl⟩, ?_⟩
      have e : x.1 5 = y.1 12 := h.2.2.2.2.1.1.2.2.2.2
      rw [e]
      exact h.lost (y.1 12 + 1)
    · exfalso
      rw [c1] at hx
      rw [c3, c1] at hy
      have e : cn (fun j => xa_at x j 0 = 0) n = 200 := Nat.le_antisymm c2 (Nat.le_of_not_lt (fun h => hx ((nI_ltI (b := 200) (by omega) (by decide)).mpr h)))
      rw [e] at hy
      exact hy rfl
  · rcases hy with ⟨hy, rfl, rfl⟩ | ⟨hy, rfl, rfl⟩
    · exfalso
      rw [← c3, hy] at hx
      exact absurd hx (by decide)
    · obtain ⟨len, f, g, B1, B2, rfl, rfl, B5, B6⟩ := hb
      have eL : x.1 0 + xa_L x (i9 * 16 + j9) + late = y.1 1 + ma_A y 9 (16 * i9 + j9) + late := by
        rw [h.2.2.2.2.1.1.1, h.2.2.2.2.1.2.2.2 (i9 * 16 + j9) (by omega), Nat.mul_comm i9 16]
      generalize hT : x.1 0 + xa_L x (i9 * 16 + j9) + late = T at hb4 haf eL ⊢
      rw [← eL]
      obtain ⟨o1, o2, o3, o4, o5, o6⟩ := xa_add_o x n a q (xa_five 0 to fr T (x.1 1)) b
      have hadd := h.add (y' := ma_sI (ma_sI (ma_sA (ma_sA (ma_ev (ma_sI y 11 (y.1 11 + 1)) M T 0 to fr) 4 (upd (ma_A y 4) M (nI g))) 5 (upd (ma_A y 5) M (nI len))) 10 (y.1 10 + 1)) 11 (y.1 11)) (a := a) (q := q) (b := b) (w := xa_five 0 to fr T (x.1 1)) (h.rm1 hx) hf hq hb4 haf (fun j hj _ h0 => absurd rfl h0)
        ⟨⟨Nat.lt_succ_self M, by show ¬ upd (ma_A y 6) M 1 M = 0; rw [pk_us]; decide, h.2.1.1, by show T = upd (ma_A y 0) M T M; rw [pk_us], by show to = upd (ma_A y 2) M to M; rw [pk_us], by show fr = upd (ma_A y 3) M fr M; rw [pk_us]⟩, Or.inl ⟨by show upd (ma_A y 1) M 0 M = 0; rw [pk_us], rfl⟩,
          ⟨len, f, B1, B2, fun _ => ⟨g, by show upd (ma_A y 4) M (nI g) M = nI g; rw [pk_us], by show upd (ma_A y 5) M (nI len) M = nI len; rw [pk_us], B5, B6⟩⟩, ⟨j9, hj9, hto⟩, fun _ => ⟨i9, hi9, hfr⟩⟩
        (fun i hi e he => by
          have hne : e ≠ M := by omega
          rcases (show i = 0 ∨ i = 1 ∨ i = 2 ∨ i = 3 ∨ i = 4 ∨ i = 5 ∨ i = 6 by omega) with rfl | rfl | rfl | rfl | rfl | rfl | rfl <;> exact pk_un hne)
        (fun i hi => by
          show (if i = 5 then _ else if i = 4 then _ else if i = 6 then _ else if i = 3 then _ else if i = 2 then _ else if i = 1 then _ else if i = 0 then _ else ma_A y i) = ma_A y i
          rw [if_neg (by omega), if_neg (by omega), if_neg (by omega), if_neg (by omega), if_neg (by omega), if_neg (by omega), if_neg (by omega)])
        (fun i h2 h10 => by
          show upd (upd (upd (upd y.1 11 (y.1 11 + 1)) 2 (nI (M + 1))) 10 (y.1 10 + 1)) 11 (y.1 11) i = y.1 i
          by_cases e : i = 11
          · subst e; rw [pk_us]
          · rw [pk_un e, pk_un h10, pk_un h2, pk_un e])
        rfl rfl rfl (fun _ => hx)
      have hs := hadd.sent (y.1 11 + 1)
      rw [ma_sI_2, ma_sI_id (y := ma_sI (ma_sA (ma_sA (ma_ev (ma_sI y 11 (y.1 11 + 1)) M T 0 to fr) 4 (upd (ma_A y 4) M (nI g))) 5 (upd (ma_A y 5) M (nI len))) 10 (y.1 10 + 1)) (i := 11) (v := y.1 11 + 1) rfl] at hs
      refine ⟨rfl, rfl, xa_add_ext hf, o5, rfl, ?_, n + 1, M + 1, is q num M, Or.inr ⟨rfl, rfl, rfl⟩, ?_⟩
      · show (xa_add x n a q (xa_five 0 to fr T (x.1 1)) b).1 12 = x.1 12
        exact xa_add_I x n a q _ b 12 (by decide) (by decide) (by decide)
      · have e4 : (xa_add x n a q (xa_five 0 to fr T (x.1 1)) b).1 4 = y.1 11 := (xa_add_I x n a q _ b 4 (by decide) (by decide) (by decide)).trans h.2.2.2.2.1.1.2.2.2.1
        rw [e4]
        exact hs
end SO
