/-! meddle, step, run -/
theorem upd_comm {f : Nat → Int32} {i j : Nat} {a b : Int32} (h : i ≠ j) : upd (upd f i a) j b = upd (upd f j b) i a := by
  funext t
  unfold upd
  by_cases h1 : t = j
  · rw [if_pos h1, if_neg (fun h2 => h (h2.symm.trans h1)), if_pos h1]
  · rw [if_neg h1]
    by_cases h2 : t = i
    · rw [if_pos h2, if_pos h2]
    · rw [if_neg h2, if_neg h2, if_neg h1]
theorem ma_sI_c {y : MS} {i j : Nat} {a b : Int32} (h : i ≠ j) : ma_sI (ma_sI y i a) j b = ma_sI (ma_sI y j b) i a := by
  show (upd (upd y.1 i a) j b, y.2) = (upd (upd y.1 j b) i a, y.2)
  rw [upd_comm h]
theorem okm_iff (wh ti : Int32) : ma_okm wh ti ↔ ((wh = 2 ∧ ¬ ti < 0 ∧ ¬ 1000 < ti) ∨ ((wh = 0 ∨ wh = 1) ∧ ti = 0)) := by
  unfold ma_okm
  constructor
  · rintro ⟨⟨w1, w2⟩, h | ⟨h1, h2, h3⟩⟩
    · exact Or.inl h
    · refine Or.inr ⟨?_, i32_0 h2 h3⟩
      obtain ⟨q, hq, rfl⟩ := nI_of w1
      have h5 : ¬ 2 < q := fun h => w2 (nI_lt h hq)
      rcases (show q = 0 ∨ q = 1 ∨ q = 2 by omega) with rfl | rfl | rfl
      · exact Or.inl rfl
      · exact Or.inr rfl
      · exact absurd rfl h1
  · rintro (⟨rfl, h1, h2⟩ | ⟨rfl | rfl, rfl⟩)
    · exact ⟨by decide, Or.inl ⟨rfl, h1, h2⟩⟩
    · exact ⟨by decide, Or.inr (by decide)⟩
    · exact ⟨by decide, Or.inr (by decide)⟩
section SO
variable {k : xa_k} {x : XS} {y y' : MS} {n M U t D c : Nat} {num : Nat → Nat}
theorem si0.bys (h : si0 k x y n M U t D num) {j : Nat} (hj : j < n) (hm : xa_at x j 0 = 0) : si_by k (xa_P x) (xa_bb x j) y U (ma_A y 4 (num j)) (ma_A y 5 (num j)) := by
  obtain ⟨len, f, h1, h2, h3⟩ := (h.2.2.1.1 j hj).2.2.1
  obtain ⟨bg, g1, g2, g3, g4⟩ := h3 hm
  exact ⟨len, f, bg, h1, h2, g1, g2, g3, g4⟩
theorem so_meddle {k9 wh ti r r2 : Int32} {u : (Nat → Int64) × XS} (h : si0 k x y n M U t D num) (hc : M ≤ 2 * c ∧ U + t ≤ 8 * c ∧ D ≤ 232 * c) (hx : lo_meddle x k9 wh ti n r u)
    (hy : (¬ ma_okm wh ti ∧ r2 = 0 ∧ y' = ma_sI y 0 1) ∨ (ma_okm wh ti ∧ ((r2 = 0 ∧ y' = ma_sI y 0 0 ∧ ma_nom y M k9) ∨ (r2 = 1 ∧ ∃ e, ma_isM y M k9 e ∧ ((wh = 1 ∧ ∃ a9 b9 r3, a9 < 16 ∧ ma_A y 3 e = nI a9 ∧ b9 < 16 ∧ ma_A y 2 e = nI b9 ∧ ma_go (ma_sI y 0 0) M a9 b9 (ma_A y 3 e) (ma_A y 2 e) 0 (ma_A y 4 e) (ma_A y 5 e) r3 y') ∨ (wh = 0 ∧ y' = ma_sI (ma_sI (ma_sA (ma_sI y 0 0) 6 (upd (ma_A y 6) e 0)) 12 (y.1 12 + 1)) 10 (y.1 10 - 1)) ∨ (¬ wh = 0 ∧ ¬ wh = 1 ∧ y' = ma_sA (ma_sA (ma_ev (ma_sA (ma_sI y 0 0) 6 (upd (ma_A y 6) e 0)) M (ma_A y 0 e + ti) 0 (ma_A y 2 e) (ma_A y 3 e)) 4 (upd (ma_A y 4) M (ma_A y 4 e))) 5 (upd (ma_A y 5) M (ma_A y 5 e)))))))) :
    so k c r u.2 y' ∧ (r = 0 → u.1 0 = if r2 = 0 then 0 else 1) := by
  rcases hx with ⟨rfl, v7, hv, ok, hx⟩ | ⟨rfl, -, hu, hx⟩
  · have ok2 := (okm_iff wh ti).mpr ok
    rcases hy with ⟨hy, -⟩ | ⟨-, hy⟩
    · exact absurd ok2 hy
    · rcases hx with ⟨rfl, hu, hx⟩ | ⟨rfl, j, hj, hx⟩
      · rcases hy with ⟨rfl, rfl, -⟩ | ⟨-, e, he, -⟩
        · rw [← hu]; exact ⟨so_same h hc 0, fun _ => hv⟩
        · exact absurd (h.nom hx he) id
      · rcases hy with ⟨-, -, hy⟩ | ⟨rfl, e, he, hy⟩
        · exact absurd (h.noy hy hj) id
        · obtain rfl := h.same hj he
          refine ⟨?_, fun _ => hv⟩
          obtain ⟨e1, e2, e3, e4, e5, e6⟩ := (h.2.2.1.1 j hj.1).1
          rcases hx with ⟨rfl, a9, b9, r3, ha9, ea9, hb9, eb9, hl⟩ | ⟨rfl, hu⟩ | ⟨rfl, a, q, hf, hq, hb4, haf, hu⟩
          · rcases hy with ⟨-, a', b', r4, ha', ea', hb', eb', hg⟩ | ⟨hw, -⟩ | ⟨-, hw, -⟩
            · rw [← e6] at ea'
              rw [← e5] at eb'
              obtain rfl := (nI_eq (by omega) (by omega)).mp (ea9.symm.trans ea')
              obtain rfl := (nI_eq (by omega) (by omega)).mp (eb9.symm.trans eb')
              rw [← e6, ← e5] at hg
              obtain ⟨-, z9, -, -, -, -, n', M', num', hm, hs'⟩ := (h.thr 0).lau ea9 ha9 eb9 hb9 (h.bys hj.1 hj.2.1) hl hg
              refine ⟨z9, n', M', U, t, D, num', hs', ?_, by omega, by omega⟩
              rcases hm with ⟨-, -, a3⟩ | ⟨-, -, a3⟩ <;> omega
            · exact absurd hw (by decide)
            · exact absurd rfl hw
          · rcases hy with ⟨hw, -⟩ | ⟨-, rfl⟩ | ⟨hw, -⟩
            · exact absurd hw (by decide)
            · have ht := ((h.thr 0).take hj.1).lost (y.1 12 + 1)
              rw [if_pos hj.2.1, ma_sI_c (i := 10) (j := 12) (by decide)] at ht
              have e12 : (xa_take x n j).1 5 + 1 = y.1 12 + 1 := by rw [xa_take_I x n j 5 (by decide) (by decide), h.2.2.2.2.1.1.2.2.2.2]
              rw [hu, e12]
              exact ⟨rfl, n - 1, M, U, t, D, sk j num, ht, by omega, by omega, by omega⟩
            · exact absurd rfl hw
          · rcases hy with ⟨hw, -⟩ | ⟨hw, -⟩ | ⟨-, -, rfl⟩
            · exact absurd hw (by decide)
            · exact absurd hw (by decide)
            · have ht := (h.thr 0).take hj.1
              rw [if_pos hj.2.1] at ht
              rw [hu]
              have h32 := h.1.2.1
              have hjn := hj.1
              obtain ⟨c1, c2, c3⟩ := h.2.2.2.1
              obtain ⟨len, f, g, B1, B2, B3, B4, B5, B6⟩ := h.bys hj.1 hj.2.1
              have hTm : xa_at x j 3 = ma_A y 0 (num j) := e4
              have h8 : (xa_take x n j).1 8 < 200 := by
                have c9 := cn_lt (p := fun t => xa_at x t 0 = 0) hj.1 hj.2.1
                rw [xa_take_8, if_pos hj.2.1, c1, i32_m1, xa_pred (by omega)]
                exact nI_lt (b := 200) (by omega) (by decide)
              have hadd := ht.add (y' := ma_sA (ma_sA (ma_ev (ma_sA (ma_sI y 0 0) 6 (upd (ma_A y 6) (num j) 0)) M (ma_A y 0 (num j) + ti) 0 (ma_A y 2 (num j)) (ma_A y 3 (num j))) 4 (upd (ma_A y 4) M (ma_A y 4 (num j)))) 5 (upd (ma_A y 5) M (ma_A y 5 (num j)))) (a := a) (q := q) (b := xa_bb x j) (w := xa_five 0 (xa_at x j 1) (xa_at x j 2) (xa_at x j 3 + ti) ((xa_take x n j).1 1)) (by omega) hf hq hb4 haf (fun j hj _ h0 => absurd rfl h0)
                ⟨⟨Nat.lt_succ_self M, by show ¬ upd (upd (ma_A y 6) (num j) 0) M 1 M = 0; rw [pk_us]; decide, by show (xa_take x n j).1 1 = nI M; rw [xa_take_I x n j 1 (by decide) (by decide)]; exact h.2.1.1, by show xa_at x j 3 + ti = upd (ma_A y 0) M (ma_A y 0 (num j) + ti) M; rw [pk_us, hTm], by show xa_at x j 1 = upd (ma_A y 2) M (ma_A y 2 (num j)) M; rw [pk_us]; exact e5, by show xa_at x j 2 = upd (ma_A y 3) M (ma_A y 3 (num j)) M; rw [pk_us]; exact e6⟩, Or.inl ⟨by show upd (ma_A y 1) M 0 M = 0; rw [pk_us], rfl⟩,
                  ⟨len, f, by rw [xa_take_P]; exact B1, B2, fun _ => ⟨g, by show upd (ma_A y 4) M (ma_A y 4 (num j)) M = nI g; rw [pk_us]; exact B3, by show upd (ma_A y 5) M (ma_A y 5 (num j)) M = nI len; rw [pk_us]; exact B4, B5, B6⟩⟩, (h.2.2.1.1 j hj.1).2.2.2.1, fun _ => (h.2.2.1.1 j hj.1).2.2.2.2 hj.2.1⟩
                (fun i hi e he => by
                  have hne : e ≠ M := by omega
                  rcases (show i = 0 ∨ i = 1 ∨ i = 2 ∨ i = 3 ∨ i = 4 ∨ i = 5 ∨ i = 6 by omega) with rfl | rfl | rfl | rfl | rfl | rfl | rfl <;> exact pk_un hne)
                (fun i hi => by
                  show (if i = 5 then _ else if i = 4 then _ else if i = 6 then _ else if i = 3 then _ else if i = 2 then _ else if i = 1 then _ else if i = 0 then _ else if i = 6 then _ else ma_A y i) = (if i = 6 then _ else ma_A y i)
                  rw [if_neg (by omega), if_neg (by omega), if_neg (by omega), if_neg (by omega), if_neg (by omega), if_neg (by omega), if_neg (by omega), if_neg (by omega), if_neg (by omega)])
                (fun i h2 h10 => by
                  show upd (upd y.1 0 0) 2 (nI (M + 1)) i = upd (upd y.1 0 0) 10 _ i
                  rw [pk_un h2, pk_un h10])
                rfl rfl (by
                  show y.1 10 = (if (0 : Int32) = 0 then y.1 10 - 1 + 1 else y.1 10 - 1)
                  rw [if_pos rfl, Int32.sub_add_cancel]) (fun _ => h8)
              exact ⟨rfl, n - 1 + 1, M + 1, U, t, D, is q (sk j num) M, hadd, by omega, by omega, by omega⟩
  · rcases hy with ⟨-, -, rfl⟩ | ⟨hy, -⟩
    · rw [← hu]; exact ⟨so_same h hc 1, fun h => absurd h (by decide)⟩
    · exact absurd ((okm_iff wh ti).mp hy) hx
end SO
/-! one event that happens -/
theorem xa_mem_at (F : Nat → Int32) (w : Nat) (a b c d : Int32) : xa_mem F w a b c d (w * 4) = a ∧ xa_mem F w a b c d (w * 4 + 1) = b ∧ xa_mem F w a b c d (w * 4 + 2) = c ∧ xa_mem F w a b c d (w * 4 + 3) = d := by
  unfold xa_mem
  refine ⟨?_, ?_, ?_, ?_⟩
  · rw [pk_un (by omega), pk_un (by omega), pk_un (by omega), pk_us]
  · rw [pk_un (by omega), pk_un (by omega), pk_us]
  · rw [pk_un (by omega), pk_us]
  · rw [pk_us]
theorem xa_mem_no (F : Nat → Int32) {w w' j : Nat} (a b c d : Int32) (hw : w' ≠ w) (hj : j < 4) : xa_mem F w a b c d (w' * 4 + j) = F (w' * 4 + j) := by
  unfold xa_mem
  rw [pk_un (by omega), pk_un (by omega), pk_un (by omega), pk_un (by omega)]
section SO
variable {k : xa_k} {x : XS} {y y' : MS} {n M U t D c : Nat} {num : Nat → Nat}
theorem si0.rec {e : Nat} {r : Int32} {v : Nat → Int32} (h : si0 k x y n M U t D num) (hM : M ≤ 1700) (he : e < M) (h3 : v 3 = ma_A y 0 e) (h4 : v 4 = nI e) (h2 : v 2 = ma_A y 3 e) : si0 k (xa_rmb x r v (D % 32) (min D 32)) (ma_rec y e D r) n M U t (D + 1) num := by
  obtain ⟨g1, g2, g3, g4, g5, g6, g7, ⟨⟨a1, a2, a3, a4⟩, a5, a6⟩⟩ := h
  refine ⟨g1, g2, g3, g4, g5, g6, g7, ⟨⟨?_, ?_, ?_, rfl⟩, fun m hm => ?_, fun m hm hmD => ?_⟩⟩
  · show nI ((D % 32 + 1) % 32) = nI ((D + 1) % 32)
    rw [show (D % 32 + 1) % 32 = (D + 1) % 32 by omega]
  · show (if min D 32 < 32 then nI (min D 32 + 1) else nI (min D 32)) = nI (min (D + 1) 32)
    rcases Nat.lt_or_ge D 32 with hD | hD
    · rw [Nat.min_eq_left (by omega), if_pos hD, Nat.min_eq_left (by omega)]
    · rw [Nat.min_eq_right hD, if_neg (by decide), Nat.min_eq_right (by omega)]
  · show x.1 11 + 1 = nI (D + 1)
    rw [a3]; exact nI_1 D
  · show ∃ e', e' < 1700 ∧ upd (ma_A y 11) (D % 32) (nI e) m = nI e'
    by_cases hm2 : m = D % 32
    · subst hm2; exact ⟨e, by omega, pk_us⟩
    · rw [pk_un hm2]; exact a5 m hm
  · show ∃ e', e' < M ∧ upd (ma_A y 11) (D % 32) (nI e) m = nI e' ∧ xa_mem (xa_F x) ((D % 32 + 1) % 32) r (v 3) (v 4) (v 2) ((m + 1) % 32 * 4) = upd (ma_A y 10) (D % 32) r m ∧ xa_mem (xa_F x) ((D % 32 + 1) % 32) r (v 3) (v 4) (v 2) ((m + 1) % 32 * 4 + 1) = ma_A y 0 e' ∧ xa_mem (xa_F x) ((D % 32 + 1) % 32) r (v 3) (v 4) (v 2) ((m + 1) % 32 * 4 + 2) = nI e' ∧ xa_mem (xa_F x) ((D % 32 + 1) % 32) r (v 3) (v 4) (v 2) ((m + 1) % 32 * 4 + 3) = ma_A y 3 e'
    by_cases hm2 : m = D % 32
    · subst hm2
      obtain ⟨q1, q2, q3, q4⟩ := xa_mem_at (xa_F x) ((D % 32 + 1) % 32) r (v 3) (v 4) (v 2)
      exact ⟨e, he, pk_us, by rw [q1, pk_us], by rw [q2, h3], by rw [q3, h4], by rw [q4, h2]⟩
    · have hne : (m + 1) % 32 ≠ (D % 32 + 1) % 32 := by omega
      obtain ⟨e', b1, b2, b3, b4, b5, b6⟩ := a6 m hm (by omega)
      exact ⟨e', b1, by rw [pk_un hm2]; exact b2, by rw [pk_un hm2, ← b3]; exact xa_mem_no (j := 0) _ _ _ _ _ hne (by decide), by rw [← b4]; exact xa_mem_no _ _ _ _ _ hne (by decide), by rw [← b5]; exact xa_mem_no _ _ _ _ _ hne (by decide), by rw [← b6]; exact xa_mem_no _ _ _ _ _ hne (by decide)⟩
theorem si0.arr {e b : Nat} (h : si0 k x y n M U t D num) (he : e < M) (hb : si_by k (xa_P x) b y U (ma_A y 4 e) (ma_A y 5 e)) : si0 k (xa_sB x b) (ma_sI y 14 (nI e)) n M U t D num := by
  obtain ⟨g1, g2, g3, g4, g5, g6, g7, g8⟩ := h
  obtain ⟨len, f, g, b1, b2, b3, b4, b5, b6⟩ := hb
  exact ⟨g1, g2, g3, g4, g5, g6, ⟨len, f, b1, b2, Or.inr ⟨e, g, he, rfl, b4, b3, b5, b6⟩⟩, g8⟩
theorem si0.hi (h : si0 k x y n M U t D num) : xa_hi x (D % 32) (min D 32) := ⟨h.2.2.2.2.2.2.2.1.1, Nat.mod_lt _ (by decide), h.2.2.2.2.2.2.2.1.2.1, Nat.min_le_right _ _⟩
theorem si0.hap {r : Int32} (h : si0 k x y n M U t D num) (hM : M ≤ 1700) (hn : 0 < n) (hy : ma_hap y (num 0) D r y') : r = xa_stR x ∧ y'.1 0 = y.1 0 ∧ si0 k (xa_st x) y' (n - 1) M U t (D + 1) (sk 0 num) := by
  have hev := h.2.2.1.1 0 hn
  obtain ⟨e1, e2, e3, e4, e5, e6⟩ := hev.1
  have hbs := fun hm => h.bys hn hm
  have ht := h.take hn
  have hS := h.2.2.2.2.1
  have q2 : (xa_take x n 0).1 2 = y.1 5 := (xa_take_I x n 0 2 (by decide) (by decide)).trans hS.1.2.1
  have q3 : (xa_take x n 0).1 3 = y.1 6 := (xa_take_I x n 0 3 (by decide) (by decide)).trans hS.1.2.2.1
  have q5 : (xa_take x n 0).1 5 = y.1 12 := (xa_take_I x n 0 5 (by decide) (by decide)).trans hS.1.2.2.2.2
  have hlg : xa_lose (xa_take x n 0) (xa_at x 0) ↔ ma_gone y (num 0) := by
    unfold xa_lose xa_par ma_gone
    rw [q2, q3, e5, e6, bit_par]
  have key : ∀ Y r', xa_hap (xa_take x n 0) (xa_v0 x) (xa_b0 x) Y r' → ∀ Z, si0 k Y Z (n - 1) M U t D (sk 0 num) → ma_A Z 0 (num 0) = ma_A y 0 (num 0) → ma_A Z 3 (num 0) = ma_A y 3 (num 0) → r' = xa_stR x ∧ si0 k (xa_st x) (ma_rec Z (num 0) D r') (n - 1) M U t (D + 1) (sk 0 num) := by
    intro Y r' hp Z hZ z0 z3
    obtain ⟨s1, s2⟩ := xa_st_eq h.1 h.hi hp
    refine ⟨s2, ?_⟩
    rw [← s1]
    exact hZ.rec hM e1 (by rw [z0]; exact e4) e3 (by rw [z3]; exact e6)
  rcases hy with ⟨k1, k2, rfl⟩ | ⟨k1, k2, k3, rfl⟩ | ⟨k1, k2, k3, rfl⟩
  · have k0 : ¬ xa_at x 0 0 = 0 := fun h => k1 (hev.m0.mp h)
    rw [if_neg k0, ma_sI_id (y := ma_sA y 6 (upd (ma_A y 6) (num 0) 0)) (i := 10) (v := y.1 10) rfl] at ht
    have hr : r = xa_at x 0 1 + xa_at x 0 0 := by
      rw [k2, ← e5]
      unfold ma_kd
      rcases hev.2.1 with ⟨h1, h2⟩ | ⟨h1, h2⟩ | ⟨h1, h2⟩
      · exact absurd h1 k1
      · rw [h1, h2, if_pos rfl]
      · rw [h1, h2, if_neg (by decide), if_pos rfl]
    have hZ : si0 k (xa_sI (xa_take x n 0) 0 (xa_at x 0 3)) (ma_off y (num 0)) (n - 1) M U t D (sk 0 num) := by
      have := ht.now (xa_at x 0 3)
      rw [e4] at this ⊢
      exact this
    obtain ⟨s1, s2⟩ := key _ r (Or.inl ⟨k0, hr, rfl⟩) (ma_off y (num 0)) hZ rfl rfl
    exact ⟨s1, rfl, s2⟩
  · have k0 : xa_at x 0 0 = 0 := hev.m0.mpr k1
    rw [if_pos k0] at ht
    have hr : r = xa_at x 0 1 + 16 := by rw [k3, ← e5, Int32.add_zero]
    have hZ : si0 k (xa_sI (xa_sI (xa_take x n 0) 0 (xa_at x 0 3)) 5 ((xa_take x n 0).1 5 + 1)) (ma_sI (ma_sI (ma_sI (ma_off y (num 0)) 10 (y.1 10 - 1)) 12 (y.1 12 + 1)) 14 (y.1 14)) (n - 1) M U t D (sk 0 num) := by
      have := (ht.now (xa_at x 0 3)).lost (y.1 12 + 1)
      rw [ma_sI_c (i := 10) (j := 1) (by decide)] at this
      rw [ma_sI_id (y := ma_sI (ma_sI (ma_off y (num 0)) 10 (y.1 10 - 1)) 12 (y.1 12 + 1)) (i := 14) (v := y.1 14) rfl, q5]
      unfold ma_off
      rw [e4] at this ⊢
      exact this
    obtain ⟨s1, s2⟩ := key _ r (Or.inr (Or.inl ⟨k0, hlg.mpr k2, hr, rfl⟩)) _ hZ rfl rfl
    exact ⟨s1, rfl, s2⟩
  · have k0 : xa_at x 0 0 = 0 := hev.m0.mpr k1
    rw [if_pos k0] at ht
    have hr : r = xa_at x 0 1 + 0 := by rw [k3, ← e5, Int32.add_zero]
    have hZ : si0 k (xa_sB (xa_sI (xa_take x n 0) 0 (xa_at x 0 3)) (xa_bb x 0)) (ma_sI (ma_sI (ma_sI (ma_off y (num 0)) 10 (y.1 10 - 1)) 12 (y.1 12 + 0)) 14 (nI (num 0))) (n - 1) M U t D (sk 0 num) := by
      have h1 := ht.now (xa_at x 0 3)
      rw [ma_sI_c (i := 10) (j := 1) (by decide)] at h1
      rw [Int32.add_zero, ma_sI_id (y := ma_sI (ma_off y (num 0)) 10 (y.1 10 - 1)) (i := 12) (v := y.1 12) rfl]
      unfold ma_off
      rw [e4] at h1 ⊢
      refine h1.arr e1 ?_
      show si_by k (xa_P (xa_take x n 0)) (xa_bb x 0) _ U _ _
      rw [xa_take_P]
      exact hbs k0
    obtain ⟨s1, s2⟩ := key _ r (Or.inr (Or.inr ⟨k0, fun h => k2 (hlg.mp h), hr, rfl⟩)) _ hZ rfl rfl
    exact ⟨s1, rfl, s2⟩
theorem so_step {r r2 : Int32} {u : XS} (h : si0 k x y n M U t D num) (hc : M ≤ 2 * c ∧ U + t ≤ 8 * c ∧ D ≤ 232 * c) (hM : M ≤ 1700)
    (hx : (r = -1 ∧ x = u ∧ n = 0) ∨ (0 < n ∧ ∃ y, xa_hap (xa_take x n 0) (xa_v (xa_P x) (xa_ad x 0)) (xa_b (xa_P x) (xa_ad x 0)) y r ∧ u = xa_rmb y r (xa_v (xa_P x) (xa_ad x 0)) (D % 32) (min D 32)))
    (hy : (r2 = -1 ∧ y' = ma_sI y 0 0 ∧ ∀ f, f < M → ma_A y 6 f = 0) ∨ (∃ b, b < M ∧ ma_lea y M b ∧ ma_hap (ma_sI y 0 0) b D r2 y')) : so k c 0 u y' ∧ r = r2 := by
  rcases hx with ⟨rfl, rfl, hn⟩ | ⟨hn, Y, hp, hu⟩
  · rcases hy with ⟨rfl, rfl, -⟩ | ⟨b, hb, hl, -⟩
    · exact ⟨so_same h hc 0, rfl⟩
    · have := (h.2.2.1.least hb hl).1; omega
  · rcases hy with ⟨-, -, hy⟩ | ⟨b, hb, hl, hy⟩
    · have := h.2.2.1.none hy; omega
    · obtain rfl := (h.2.2.1.least hb hl).2
      obtain ⟨s1, s2⟩ := xa_st_eq h.1 h.hi hp
      obtain ⟨g1, g2, g3⟩ := (h.thr 0).hap hM hn hy
      rw [hu, s1]
      exact ⟨⟨g2, n - 1, M, U, t, D + 1, sk 0 num, g3, by omega, by omega, by omega⟩, s2.trans g1.symm⟩
theorem si0.runs {en : Int32} (h : si0 k x y n M U t D num) (hM : M ≤ 1700) (hD : D < 2 ^ 30) : ∀ (c9 : Nat) (Y : MS), ma_runs M en y c9 Y → c9 ≤ n ∧ (∀ d, d < c9 → xa_at (xa_it d x) 0 3 ≤ en) ∧ Y.1 0 = y.1 0 ∧ ∃ num', si0 k (xa_it c9 x) Y (n - c9) M U t (D + c9) num' := by
  have hn := h.1.2.1
  intro c9
  induction c9 with
  | zero =>
    intro Y hY
    have e : Y = y := hY
    subst e
    exact ⟨Nat.zero_le _, fun d hd => absurd hd (Nat.not_lt_zero d), rfl, num, h⟩
  | succ c9 ih =>
    rintro Y ⟨y1, b, D1, r, hr, ⟨eD, hD1⟩, hb, hl, hle, hp⟩
    obtain ⟨i1, i2, i3, num1, hs⟩ := ih y1 hr
    obtain ⟨p1, rfl⟩ := hs.2.2.1.least hb hl
    have hev := hs.2.2.1.1 0 p1
    have eD2 : y1.1 13 = nI (D + c9) := hs.2.2.2.2.2.2.2.1.2.2.2
    obtain rfl := (nI_eq (by omega) (by omega)).mp (eD.symm.trans eD2)
    obtain ⟨g1, g2, g3⟩ := hs.hap hM p1 hp
    refine ⟨by omega, fun d hd => ?_, g2.trans i3, sk 0 num1, g3⟩
    rcases Nat.lt_or_ge d c9 with h3 | h3
    · exact i2 d h3
    · have e : d = c9 := by omega
      subst e
      rw [hev.1.2.2.2.1]
      exact hle
theorem so_run {n9 r r2 : Int32} {u : (Nat → Int64) × XS} {w kp : Nat} (h : si0 k x y n M U t D num) (hc : M ≤ 2 * c ∧ U + t ≤ 8 * c ∧ D ≤ 232 * c) (hM : M ≤ 1700) (hD : D < 2 ^ 30) (hx : lo_run x n9 n w kp r u)
    (hy : ((n9 < 1 ∨ 1000 < n9) ∧ r2 = 0 ∧ y' = ma_sI y 0 1) ∨ ((¬ n9 < 1 ∧ ¬ 1000 < n9) ∧ ∃ c9 Y, ma_runs M (y.1 1 + n9) (ma_sI y 0 0) c9 Y ∧ ((∀ f, f < M → ma_A Y 6 f = 0) ∨ ∃ b, b < M ∧ ma_lea Y M b ∧ ¬ ma_A Y 0 b ≤ y.1 1 + n9) ∧ r2 = nI c9 ∧ y' = ma_sI Y 1 (y.1 1 + n9))) :
    so k c r u.2 y' ∧ (r = 0 → u.1 0 = r2.toInt64) := by
  rcases hx with ⟨rfl, v7, hv, ok, c9, hc9, hle, hst, rfl, hu⟩ | ⟨rfl, -, hu, hx⟩
  · rcases hy with ⟨hy, -⟩ | ⟨-, c8, Y, hr, hst8, rfl, rfl⟩
    · exact absurd hy (fun h => h.elim ok.1 ok.2)
    · have e0 : x.1 0 = y.1 1 := h.2.2.2.2.1.1.1
      rw [e0] at hle hst hu
      have hn := h.1.2.1
      obtain ⟨i1, i2, i3, num', hs⟩ := (h.thr 0).runs hM hD c8 Y hr
      have ec : c9 = c8 := by
        rcases Nat.lt_trichotomy c9 c8 with h1 | h1 | h1
        · exfalso
          rcases hst with h2 | h2
          · omega
          · exact h2 (i2 c9 h1)
        · exact h1
        · exfalso
          have h2 := hle c8 h1
          rcases hst8 with h3 | ⟨b, hb, hl, h3⟩
          · have := hs.2.2.1.none h3; omega
          · obtain ⟨p1, rfl⟩ := hs.2.2.1.least hb hl
            rw [(hs.2.2.1.1 0 p1).1.2.2.2.1] at h2
            exact h3 h2
      subst ec
      rw [hu]
      refine ⟨⟨i3, n - c9, M, U, t, D + c9, num', hs.now _, by omega, by omega, by omega⟩, fun _ => hv⟩
  · rcases hy with ⟨-, -, rfl⟩ | ⟨ok, -⟩
    · rw [← hu]; exact ⟨so_same h hc 1, fun h => absurd h (by decide)⟩
    · exact absurd hx (fun h => h.elim ok.1 ok.2)
end SO
