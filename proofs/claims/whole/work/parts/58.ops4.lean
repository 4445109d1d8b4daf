/-! what is asked -/
theorem i32_0 {v : Int32} (h1 : ¬ v < 0) (h2 : ¬ 0 < v) : v = 0 := by
  rcases i32_tri v 0 with h | h | h
  · exact absurd h h1
  · exact h
  · exact absurd h h2
theorem i32_out {v : Int32} {m : Nat} (hm : m < 1000) (h : v.toInt < 0 ∨ (m : Int) < v.toInt) : v < 0 ∨ nI m < v := by
  rcases h with h | h
  · exact Or.inl (Int32.lt_iff_toInt_lt.mpr h)
  · exact Or.inr (Int32.lt_iff_toInt_lt.mpr (by rw [nI_toInt (by omega)]; exact h))
section SO
variable {k : xa_k} {x : XS} {y y' : MS} {n M U t D c : Nat} {num : Nat → Nat}
/-- bytes of every event -/
theorem si0.bytes (h : si0 k x y n M U t D num) : ∃ (bl : Nat → Nat) (bf : Nat → Nat → Int32), (∀ j, j < n → xa_isB k (xa_P x) (xa_bb x j) (bl j) (bf j)) ∧ (∀ j, j < n → bl j ≤ 2048) ∧ ∀ j, j < n → xa_at x j 0 = 0 → ∃ bg, ma_A y 4 (num j) = nI bg ∧ ma_A y 5 (num j) = nI (bl j) ∧ bg + bl j ≤ U ∧ ∀ i, i < bl j → bf j i &&& 255 = ma_A y 7 (bg + i) := by
  have H : ∀ j : Nat, ∃ p : Nat × (Nat → Int32), j < n → xa_isB k (xa_P x) (xa_bb x j) p.1 p.2 ∧ p.1 ≤ 2048 ∧ (xa_at x j 0 = 0 → ∃ bg, ma_A y 4 (num j) = nI bg ∧ ma_A y 5 (num j) = nI p.1 ∧ bg + p.1 ≤ U ∧ ∀ i, i < p.1 → p.2 i &&& 255 = ma_A y 7 (bg + i)) := by
    intro j
    by_cases hj : j < n
    · obtain ⟨len, f, h1, h2, h3⟩ := (h.2.2.1.1 j hj).2.2.1
      exact ⟨(len, f), fun _ => ⟨h1, h2, h3⟩⟩
    · exact ⟨(0, fun _ => 0), fun h => absurd h hj⟩
  obtain ⟨g, hg⟩ := Classical.skolem.mp H
  exact ⟨fun j => (g j).1, fun j => (g j).2, fun j hj => (hg j hj).1, fun j hj => (hg j hj).2.1, fun j hj => (hg j hj).2.2⟩
theorem so_message {k9 wh r r2 : Int32} {u : XS} {bl : Nat → Nat} (h : si0 k x y n M U t D num) (hc : M ≤ 2 * c ∧ U + t ≤ 8 * c ∧ D ≤ 232 * c) (hbl : ∀ j, j < n → xa_at x j 0 = 0 → ma_A y 5 (num j) = nI (bl j))
    (hx : x = u ∧ ((r = -1 ∧ xa_nom x n k9) ∨ (∃ j, xa_isM x n k9 j ∧ ((wh = nI 0 ∧ r = xa_at x j 2) ∨ (wh = nI 1 ∧ r = xa_at x j 1) ∨ (wh = nI 2 ∧ r = xa_at x j 3) ∨ (wh = nI 3 ∧ r = xa_at x j 4) ∨ (wh = nI 4 ∧ r = nI (bl j)) ∨ ((wh.toInt < 0 ∨ 4 < wh.toInt) ∧ r = -1)))))
    (hy : y' = ma_sI y 0 0 ∧ ((r2 = -1 ∧ ma_nom y M k9) ∨ (∃ e, ma_isM y M k9 e ∧ r2 = ma_mes y e wh))) : so k c 0 u y' ∧ r = r2 := by
  obtain ⟨rfl, hx⟩ := hx
  obtain ⟨rfl, hy⟩ := hy
  refine ⟨so_same h hc 0, ?_⟩
  rcases hx with ⟨rfl, hx⟩ | ⟨j, hj, hx⟩
  · rcases hy with ⟨rfl, -⟩ | ⟨e, he, -⟩
    · rfl
    · exact absurd (h.nom hx he) id
  · rcases hy with ⟨-, hy⟩ | ⟨e, he, rfl⟩
    · exact absurd (h.noy hy hj) id
    · obtain rfl := h.same hj he
      obtain ⟨e1, -, e3, e4, e5, e6⟩ := (h.2.2.1.1 j hj.1).1
      have el := hbl j hj.1 hj.2.1
      unfold ma_mes
      rcases hx with ⟨rfl, rfl⟩ | ⟨rfl, rfl⟩ | ⟨rfl, rfl⟩ | ⟨rfl, rfl⟩ | ⟨rfl, rfl⟩ | ⟨hw, rfl⟩
      · rw [if_neg (by decide), if_neg (by decide), if_pos (by decide)]; exact e6
      · rw [if_neg (by decide), if_neg (by decide), if_neg (by decide), if_pos (by decide)]; exact e5
      · rw [if_neg (by decide), if_neg (by decide), if_neg (by decide), if_neg (by decide)]; exact e4
      · rw [if_neg (by decide), if_pos (by decide), if_pos (by decide)]; exact e3
      · rw [if_neg (by decide), if_pos (by decide), if_neg (by decide)]; exact el.symm
      · rw [if_pos (show wh < 0 ∨ 4 < wh from i32_out (m := 4) (by decide) hw)]
theorem ix_no {i9 : Int32} {i s : Nat} (hi : i < s) (hs : s < 2 ^ 31) (e : i9 = nI i) (h : i9 < 0 ∨ nI s ≤ i9) : False := by
  subst e
  rcases h with h | h
  · exact nI_pos (by omega) h
  · exact absurd ((nI_leI hs (by omega)).mp h) (by omega)
theorem so_messageAt {k9 i9 r r2 : Int32} {u : (Nat → Int64) × XS} {bl : Nat → Nat} {bf : Nat → Nat → Int32} (h : si0 k x y n M U t D num) (hc : M ≤ 2 * c ∧ U + t ≤ 8 * c ∧ D ≤ 232 * c) (hU : U ≤ 4200) (hbl : ∀ j, j < n → xa_at x j 0 = 0 → ∃ bg, ma_A y 4 (num j) = nI bg ∧ ma_A y 5 (num j) = nI (bl j) ∧ bg + bl j ≤ U ∧ ∀ i, i < bl j → bf j i &&& 255 = ma_A y 7 (bg + i))
    (hx : lo_messageAt x k9 i9 n bl bf r u)
    (hy : (r2 = 0 ∧ y' = ma_sI y 0 1 ∧ ma_nom y M k9) ∨ (∃ e s9, ma_isM y M k9 e ∧ s9 ≤ 4200 ∧ ma_A y 5 e = nI s9 ∧ (i9 < 0 ∨ nI s9 ≤ i9) ∧ r2 = 0 ∧ y' = ma_sI y 0 1) ∨ (∃ e b9 s9 i, ma_isM y M k9 e ∧ b9 + s9 ≤ 4200 ∧ ma_A y 4 e = nI b9 ∧ ma_A y 5 e = nI s9 ∧ i < s9 ∧ i9 = nI i ∧ r2 = ma_A y 7 (b9 + i) ∧ y' = ma_sI y 0 0)) :
    so k c r u.2 y' ∧ (r = 0 → u.1 0 = r2.toInt64) := by
  rcases hx with ⟨rfl, v7, hv, hu, j, i, hj, hi, ei, rfl⟩ | ⟨rfl, -, hu, hx⟩
  · obtain ⟨bg, g1, g2, g3, g4⟩ := hbl j hj.1 hj.2.1
    rcases hy with ⟨-, -, hy⟩ | ⟨e, s9, he, -, es, hy, -⟩ | ⟨e, b9, s9, i', he, hbs, eb, es, hi', ei', rfl, rfl⟩
    · exact absurd (h.noy hy hj) id
    · obtain rfl := h.same hj he
      rw [← es, g2] at hy
      exact absurd (ix_no hi (by omega) ei hy) id
    · obtain rfl := h.same hj he
      obtain rfl := (nI_eq (by omega) (by omega)).mp (g1.symm.trans eb)
      obtain rfl := (nI_eq (by omega) (by omega)).mp (ei.symm.trans ei')
      rw [← hu]
      refine ⟨so_same h hc 0, fun _ => ?_⟩
      rw [hv, g4 i hi]
  · have hr : so k c 1 x (ma_sI y 0 1) := so_same h hc 1
    rcases hy with ⟨-, rfl, -⟩ | ⟨e, s9, he, -, es, hy, -, rfl⟩ | ⟨e, b9, s9, i', he, hbs, eb, es, hi', ei', -, -⟩
    · rw [← hu]; exact ⟨hr, fun h => absurd h (by decide)⟩
    · rw [← hu]; exact ⟨hr, fun h => absurd h (by decide)⟩
    · exfalso
      rcases hx with hx | ⟨j, hj, hx⟩
      · exact h.nom hx he
      · obtain rfl := h.same hj he
        obtain ⟨bg, g1, g2, g3, g4⟩ := hbl j hj.1 hj.2.1
        obtain e9 := (nI_eq (by omega) (by omega)).mp (g2.symm.trans es)
        rw [e9] at hx
        exact ix_no hi' (by omega) ei' hx
theorem so_byteAt {i9 r r2 : Int32} {u : (Nat → Int64) × XS} {al : Nat} {af : Nat → Int32} (h : si0 k x y n M U t D num) (hc : M ≤ 2 * c ∧ U + t ≤ 8 * c ∧ D ≤ 232 * c) (hU : U ≤ 4200) (hM : M < 1700) (hb : (y.1 14 = -1 ∧ al = 0) ∨ ∃ e bg, e < M ∧ y.1 14 = nI e ∧ ma_A y 5 e = nI al ∧ ma_A y 4 e = nI bg ∧ bg + al ≤ U ∧ ∀ i, i < al → af i &&& 255 = ma_A y 7 (bg + i))
    (hx : lo_byteAt x i9 al af r u)
    (hy : (y.1 14 = -1 ∧ r2 = 0 ∧ y' = ma_sI y 0 1) ∨ (∃ e b9 s9, e < 1700 ∧ b9 + s9 ≤ 4200 ∧ y.1 14 = nI e ∧ ma_A y 4 e = nI b9 ∧ ma_A y 5 e = nI s9 ∧ (((i9 < 0 ∨ nI s9 ≤ i9) ∧ r2 = 0 ∧ y' = ma_sI y 0 1) ∨ (∃ i, i < s9 ∧ i9 = nI i ∧ r2 = ma_A y 7 (b9 + i) ∧ y' = ma_sI y 0 0)))) :
    so k c r u.2 y' ∧ (r = 0 → u.1 0 = r2.toInt64) := by
  have hm1 : ∀ e, e < 1700 → nI e = -1 → False := fun e he h => by
    have h3 := congrArg Int32.toInt h
    rw [nI_toInt (by omega)] at h3
    have h4 : (-1 : Int32).toInt = -1 := rfl
    omega
  rcases hb with ⟨b1, b2⟩ | ⟨e, bg, b1, b2, b3, b4, b5, b6⟩
  · rcases hx with ⟨rfl, v7, hv, hu, j, hj, -⟩ | ⟨rfl, -, hu, hx⟩
    · omega
    · rcases hy with ⟨-, -, rfl⟩ | ⟨e, b9, s9, he, -, e14, -⟩
      · rw [← hu]; exact ⟨so_same h hc 1, fun h => absurd h (by decide)⟩
      · exact absurd (hm1 e he (e14.symm.trans b1)) id
  · rcases hy with ⟨hy, -⟩ | ⟨e', b9, s9, he', hbs, e14, eb, es, hy⟩
    · exact absurd (hm1 e (by omega) (b2.symm.trans hy)) id
    · obtain rfl := (nI_eq (by omega) (by omega)).mp (b2.symm.trans e14)
      obtain rfl := (nI_eq (by omega) (by omega)).mp (b3.symm.trans es)
      obtain rfl := (nI_eq (by omega) (by omega)).mp (b4.symm.trans eb)
      rcases hx with ⟨rfl, v7, hv, hu, j, hj, ej, rfl⟩ | ⟨rfl, -, hu, hx⟩
      · rcases hy with ⟨hy, -⟩ | ⟨i, hi, ei, rfl, rfl⟩
        · exact absurd (ix_no hj (by omega) ej hy) id
        · obtain rfl := (nI_eq (by omega) (by omega)).mp (ej.symm.trans ei)
          rw [← hu]
          exact ⟨so_same h hc 0, fun _ => by rw [hv, b6 j hj]⟩
      · rcases hy with ⟨-, -, rfl⟩ | ⟨i, hi, ei, -⟩
        · rw [← hu]; exact ⟨so_same h hc 1, fun h => absurd h (by decide)⟩
        · exact absurd (ix_no hi (by omega) ei hx) id
theorem so_count {wh r r2 : Int32} {u : XS} {al : Nat} (h : si0 k x y n M U t D num) (hc : M ≤ 2 * c ∧ U + t ≤ 8 * c ∧ D ≤ 232 * c) (hM : M < 1700) (hb : (y.1 14 = -1 ∧ al = 0) ∨ ∃ e, e < M ∧ y.1 14 = nI e ∧ ma_A y 5 e = nI al)
    (hx : x = u ∧ ((wh = nI 0 ∧ r = x.1 0) ∨ (wh = nI 1 ∧ r = x.1 8) ∨ (wh = nI 2 ∧ r = x.1 4) ∨ (wh = nI 3 ∧ r = x.1 5) ∨ (wh = nI 4 ∧ r = x.1 11) ∨ (wh = nI 5 ∧ r = x.1 1) ∨ (wh = nI 6 ∧ r = x.1 6) ∨ (wh = nI 7 ∧ r = nI al) ∨ ((wh.toInt < 0 ∨ 7 < wh.toInt) ∧ r = -1)))
    (hy : y' = ma_sI y 0 0 ∧ r2 = ma_cou y wh) : so k c 0 u y' ∧ r = r2 := by
  obtain ⟨rfl, hx⟩ := hx
  obtain ⟨rfl, rfl⟩ := hy
  refine ⟨so_same h hc 0, ?_⟩
  obtain ⟨-, ⟨i1, i2, i3⟩, -, ⟨c1, c2, c3⟩, ⟨⟨s1, s2, s3, s4, s5⟩, -⟩, ⟨t1, t2, -⟩, -, ⟨⟨h1, h2, h3, h4⟩, -⟩⟩ := h
  unfold ma_cou
  rcases hx with ⟨rfl, rfl⟩ | ⟨rfl, rfl⟩ | ⟨rfl, rfl⟩ | ⟨rfl, rfl⟩ | ⟨rfl, rfl⟩ | ⟨rfl, rfl⟩ | ⟨rfl, rfl⟩ | ⟨rfl, rfl⟩ | ⟨hw, rfl⟩
  · rw [if_neg (by decide), if_neg (by decide), if_pos (by decide)]; exact s1
  · rw [if_neg (by decide), if_neg (by decide), if_neg (by decide), if_pos (by decide)]; exact c3.symm
  · rw [if_neg (by decide), if_neg (by decide), if_neg (by decide), if_neg (by decide), if_pos (by decide)]; exact s4
  · rw [if_neg (by decide), if_neg (by decide), if_neg (by decide), if_neg (by decide), if_neg (by decide)]; exact s5
  · rw [if_neg (by decide), if_pos (by decide), if_pos (by decide)]; exact h3.trans h4.symm
  · rw [if_neg (by decide), if_pos (by decide), if_neg (by decide), if_pos (by decide)]; exact i1.trans i2.symm
  · rw [if_neg (by decide), if_pos (by decide), if_neg (by decide), if_neg (by decide), if_pos (by decide)]; exact t1.trans t2.symm
  · rw [if_neg (by decide), if_pos (by decide), if_neg (by decide), if_neg (by decide), if_neg (by decide)]
    rcases hb with ⟨b1, b2⟩ | ⟨e, he, b1, b2⟩
    · rw [b1, if_neg (by decide), b2]; rfl
    · rw [b1, if_pos (nI_pos' (by omega)), nI_clamp (by omega), b2]
  · rw [if_pos ?_]
    rcases i32_out (m := 7) (by decide) hw with h9 | h9
    · exact Or.inl h9
    · exact Or.inr (Int32.not_le.mpr h9)
theorem so_happened {k9 wh r r2 : Int32} {u : XS} (h : si0 k x y n M U t D num) (hc : M ≤ 2 * c ∧ U + t ≤ 8 * c ∧ D ≤ 232 * c) (hM : M < 1700) (hD : D < 2 ^ 30)
    (hx : x = u ∧ ((r = -1 ∧ (k9 < 0 ∨ nI (min D 32) ≤ k9 ∨ wh < 0 ∨ ¬ wh < 4)) ∨ (∃ i j, i < min D 32 ∧ k9 = nI i ∧ j < 4 ∧ wh = nI j ∧ r = xa_F x ((D % 32 + 32 - i) % 32 * 4 + j))))
    (hy : y' = ma_sI y 0 0 ∧ ((r2 = -1 ∧ ((k9 < 0 ∨ 31 < k9) ∨ nI D ≤ k9 ∨ (wh < 0 ∨ 3 < wh))) ∨ (∃ i e, i < 32 ∧ i < D ∧ k9 = nI i ∧ (¬ wh < 0 ∧ ¬ 3 < wh) ∧ ma_A y 11 ((D - 1 - i) % 32) = nI e ∧ e < 1700 ∧ r2 = ma_hpd y wh ((D - 1 - i) % 32) e))) : so k c 0 u y' ∧ r = r2 := by
  obtain ⟨rfl, hx⟩ := hx
  obtain ⟨rfl, hy⟩ := hy
  refine ⟨so_same h hc 0, ?_⟩
  have hH := h.2.2.2.2.2.2.2.2.2
  have hmin : min D 32 ≤ 32 ∧ min D 32 ≤ D := ⟨Nat.min_le_right _ _, Nat.min_le_left _ _⟩
  rcases hx with ⟨rfl, hx⟩ | ⟨i, j, hi, ei, hj, ej, rfl⟩
  · rcases hy with ⟨rfl, -⟩ | ⟨i, e, hi, hiD, ei, ⟨w1, w2⟩, -⟩
    · rfl
    · exfalso
      rcases hx with hx | hx | hx | hx
      · rw [ei] at hx; exact nI_pos (by omega) hx
      · rw [ei] at hx
        have := (nI_leI (by omega) (by omega)).mp hx
        have : i < min D 32 := Nat.lt_min.mpr ⟨hiD, hi⟩
        omega
      · exact w1 hx
      · obtain ⟨q, hq, eq⟩ := nI_of w1
        rw [eq] at hx w2
        have h5 : ¬ 3 < q := fun h => w2 (nI_lt h hq)
        exact hx (nI_lt (b := 4) (by omega) (by decide))
  · rcases hy with ⟨-, hy⟩ | ⟨i', e, hi', hiD, ei', -, ee, he, rfl⟩
    · exfalso
      rcases hy with (hy | hy) | hy | hy | hy
      · rw [ei] at hy; exact nI_pos (by omega) hy
      · rw [ei] at hy
        have := (nI_ltI (a := 31) (by decide) (by omega)).mp hy
        omega
      · rw [ei] at hy
        have := (nI_leI (by omega) (by omega)).mp hy
        omega
      · rw [ej] at hy; exact nI_pos (by omega) hy
      · rw [ej] at hy
        have := (nI_ltI (a := 3) (by decide) (by omega)).mp hy
        omega
    · obtain rfl := (nI_eq (by omega) (by omega)).mp (ei.symm.trans ei')
      have hm : (D - 1 - i) % 32 < 32 := Nat.mod_lt _ (by decide)
      have hle : (D - 1 - i) % 32 ≤ D - 1 - i := Nat.mod_le _ _
      obtain ⟨e', he', d0, d1, d2, d3, d4⟩ := hH ((D - 1 - i) % 32) hm (by omega)
      obtain rfl := (nI_eq (by omega) (by omega)).mp (ee.symm.trans d0)
      have em : (D % 32 + 32 - i) % 32 = ((D - 1 - i) % 32 + 1) % 32 := by omega
      rw [em, ej]
      unfold ma_hpd
      rcases (show j = 0 ∨ j = 1 ∨ j = 2 ∨ j = 3 by omega) with rfl | rfl | rfl | rfl
      · rw [if_neg (by decide), if_pos (by decide)]; exact d1
      · rw [if_neg (by decide), if_neg (by decide)]; exact d2
      · rw [if_pos (by decide), if_pos (by decide)]; exact d3
      · rw [if_pos (by decide), if_neg (by decide)]; exact d4
theorem so_when {ep wh r r2 : Int32} {u : (Nat → Int64) × XS} (h : si0 k x y n M U t D num) (hc : M ≤ 2 * c ∧ U + t ≤ 8 * c ∧ D ≤ 232 * c) (hx : lo_when x ep wh n r u)
    (hy : (((ep < 0 ∨ 15 < ep) ∨ (wh < 0 ∨ 1 < wh)) ∧ r2 = 0 ∧ y' = ma_sI y 0 1) ∨ (((¬ ep < 0 ∧ ¬ 15 < ep) ∧ (¬ wh < 0 ∧ ¬ 1 < wh)) ∧ y' = ma_sI y 0 0 ∧ ∃ so, ((wh = 0 ∧ so = 1) ∨ (¬ wh = 0 ∧ so = 2)) ∧ ((r2 = -1 ∧ ∀ f, f < M → ¬ ma_mt y f so ep) ∨ (∃ b, b < M ∧ ma_mt y b so ep ∧ (∀ f, b < f → f < M → ¬ ma_mt y f so ep) ∧ r2 = ma_A y 0 b)))) :
    so k c r u.2 y' ∧ (r = 0 → u.1 0 = r2.toInt64) := by
  rcases hx with ⟨rfl, v7, hv, ok, hu, kd, hkd, hx⟩ | ⟨rfl, -, hu, hx⟩
  · rcases hy with ⟨hy, -⟩ | ⟨-, rfl, s, hs, hy⟩
    · exfalso
      rcases hy with hy | hy
      · exact hy.elim ok.1 ok.2
      · rcases hkd with ⟨rfl, -⟩ | ⟨rfl, -⟩ <;> revert hy <;> decide
    · rw [← hu]
      refine ⟨so_same h hc 0, fun _ => ?_⟩
      have hsk : (s = 1 ∧ kd = 32) ∨ (s = 2 ∧ kd = 48) := by
        rcases hkd with ⟨rfl, rfl⟩ | ⟨rfl, rfl⟩
        · rcases hs with ⟨-, rfl⟩ | ⟨h9, -⟩
          · exact Or.inl ⟨rfl, rfl⟩
          · exact absurd rfl h9
        · rcases hs with ⟨h9, -⟩ | ⟨-, rfl⟩
          · exact absurd h9 (by decide)
          · exact Or.inr ⟨rfl, rfl⟩
      have hk0 : ¬ kd = 0 := by rcases hsk with ⟨-, rfl⟩ | ⟨-, rfl⟩ <;> decide
      rw [hv]
      rcases hx with ⟨rfl, hx⟩ | ⟨j, hj, hm, -, rfl⟩
      · rcases hy with ⟨rfl, -⟩ | ⟨b, hb, hmb, -⟩
        · rfl
        · obtain ⟨i, hi, rfl⟩ := h.2.2.1.2.1 b hb hmb.1
          exact absurd ((h.mt hi hsk).mpr hmb) (hx i hi)
      · rcases hy with ⟨-, hy⟩ | ⟨b, hb, hmb, -, rfl⟩
        · exact absurd ((h.mt hj hsk).mp hm) (hy _ (h.2.2.1.1 j hj).1.1)
        · obtain ⟨i, hi, rfl⟩ := h.2.2.1.2.1 b hb hmb.1
          obtain rfl := h.uni hi hj hk0 ((h.mt hi hsk).mpr hmb) hm
          rw [(h.2.2.1.1 i hi).1.2.2.2.1]
  · rcases hy with ⟨-, -, rfl⟩ | ⟨⟨o1, o2⟩, -⟩
    · rw [← hu]; exact ⟨so_same h hc 1, fun h => absurd h (by decide)⟩
    · exfalso
      rcases hx with hx | ⟨hx1, hx2⟩
      · exact hx.elim o1.1 o1.2
      · obtain ⟨q, hq, rfl⟩ := nI_of o2.1
        have h5 : ¬ 1 < q := fun h => o2.2 (nI_lt h hq)
        rcases (show q = 0 ∨ q = 1 by omega) with rfl | rfl
        · exact hx1 rfl
        · exact hx2 rfl
end SO
