/-! the agenda of the class and the events of the reference -/
theorem i32_tri (a b : Int32) : a < b ∨ a = b ∨ b < a := by
  rcases Int.lt_or_le a.toInt b.toInt with h | h
  · exact Or.inl (Int32.lt_iff_toInt_lt.mpr h)
  · rcases Int.lt_or_le b.toInt a.toInt with h2 | h2
    · exact Or.inr (Or.inr (Int32.lt_iff_toInt_lt.mpr h2))
    · exact Or.inr (Or.inl (Int32.toInt_inj.mp (by omega)))
theorem i32_asym {a b : Int32} (h : a < b) (h2 : b < a) : False := Int32.lt_irrefl (Int32.lt_trans h h2)
theorem i32_ne {a b : Int32} (h : a < b) : a ≠ b := fun e => Int32.lt_irrefl (e ▸ h)
/-- the event of ints v and bytes b is the reference's event e -/
def si_ev (k : xa_k) (P : List Nat × (Nat → va_E)) (v : Nat → Int32) (b : Nat) (y : MS) (M U e : Nat) : Prop :=
  (e < M ∧ ¬ ma_A y 6 e = 0 ∧ v 4 = nI e ∧ v 3 = ma_A y 0 e ∧ v 1 = ma_A y 2 e ∧ v 2 = ma_A y 3 e) ∧
  ((ma_A y 1 e = 0 ∧ v 0 = 0) ∨ (ma_A y 1 e = 1 ∧ v 0 = 32) ∨ (ma_A y 1 e = 2 ∧ v 0 = 48)) ∧
  (∃ len f, xa_isB k P b len f ∧ len ≤ 2048 ∧ (v 0 = 0 → ∃ bg, ma_A y 4 e = nI bg ∧ ma_A y 5 e = nI len ∧ bg + len ≤ U ∧ ∀ i, i < len → f i &&& 255 = ma_A y 7 (bg + i))) ∧
  (∃ j, j < 16 ∧ v 1 = nI j) ∧ (v 0 = 0 → ∃ j, j < 16 ∧ v 2 = nI j)
theorem si_ev.to {k : xa_k} {P P' : List Nat × (Nat → va_E)} {v : Nat → Int32} {b M U M' U' e : Nat} {y y' : MS} (h : si_ev k P v b y M U e) (hP : xa_ext P P') (hM : M ≤ M') (hU : U ≤ U') (ho : ∀ i, i < 7 → ma_A y' i e = ma_A y i e) (h7 : ∀ j, j < U → ma_A y' 7 j = ma_A y 7 j) : si_ev k P' v b y' M' U' e := by
  obtain ⟨⟨h1, h2, h3, h4, h5, h6⟩, hk, ⟨len, f, hB, hl, hb⟩, he, he2⟩ := h
  refine ⟨⟨by omega, by rw [ho 6 (by decide)]; exact h2, h3, by rw [ho 0 (by decide)]; exact h4, by rw [ho 2 (by decide)]; exact h5, by rw [ho 3 (by decide)]; exact h6⟩, by rw [ho 1 (by decide)]; exact hk, ⟨len, f, xa_isB_ext hP hB, hl, fun h0 => ?_⟩, he, he2⟩
  obtain ⟨bg, b1, b2, b3, b4⟩ := hb h0
  exact ⟨bg, by rw [ho 4 (by decide)]; exact b1, by rw [ho 5 (by decide)]; exact b2, by omega, fun i hi => by rw [h7 (bg + i) (by omega)]; exact b4 i hi⟩
theorem si_ev.cg {k : xa_k} {P : List Nat × (Nat → va_E)} {v v' : Nat → Int32} {b b' M U e : Nat} {y : MS} (h : si_ev k P v b y M U e) (hv : ∀ i, i < 5 → v' i = v i) (hb : b' = b) : si_ev k P v' b' y M U e := by
  subst hb
  unfold si_ev
  rw [hv 0 (by decide), hv 1 (by decide), hv 2 (by decide), hv 3 (by decide), hv 4 (by decide)]
  exact h
def si_A (k : xa_k) (P : List Nat × (Nat → va_E)) (n : Nat) (v : Nat → Nat → Int32) (b : Nat → Nat) (y : MS) (M U : Nat) (num : Nat → Nat) : Prop :=
  (∀ j, j < n → si_ev k P (v j) (b j) y M U (num j)) ∧ (∀ e, e < M → ¬ ma_A y 6 e = 0 → ∃ j, j < n ∧ num j = e) ∧
  (∀ i j, i < j → j < n → v i 3 < v j 3 ∨ (v i 3 = v j 3 ∧ num i < num j)) ∧ (∀ i j, i < j → j < n → v i 0 = v j 0 → ¬ v i 0 = 0 → ¬ v i 1 = v j 1)
section SA
variable {k : xa_k} {P P' : List Nat × (Nat → va_E)} {n M U U' q : Nat} {v v' : Nat → Nat → Int32} {b b' : Nat → Nat} {y y' : MS} {num : Nat → Nat}
theorem si_A.to (h : si_A k P n v b y M U num) (hP : xa_ext P P') (hU : U ≤ U') (ho : ∀ i, i < 7 → ∀ e, e < M → ma_A y' i e = ma_A y i e) (h7 : ∀ j, j < U → ma_A y' 7 j = ma_A y 7 j) : si_A k P' n v b y' M U' num := by
  obtain ⟨h1, h2, h3, h4⟩ := h
  exact ⟨fun j hj => (h1 j hj).to hP (Nat.le_refl M) hU (fun i hi => ho i hi _ (h1 j hj).1.1) h7, fun e he h6 => h2 e he (by rw [← ho 6 (by decide) e he]; exact h6), h3, h4⟩
theorem si_A.cg (h : si_A k P n v b y M U num) (hv : ∀ j, j < n → ∀ i, i < 5 → v' j i = v j i) (hb : ∀ j, j < n → b' j = b j) : si_A k P n v' b' y M U num := by
  obtain ⟨h1, h2, h3, h4⟩ := h
  refine ⟨fun j hj => (h1 j hj).cg (hv j hj) (hb j hj), h2, fun i j hi hj => ?_, fun i j hi hj => ?_⟩
  · rw [hv i (by omega) 3 (by decide), hv j hj 3 (by decide)]; exact h3 i j hi hj
  · rw [hv i (by omega) 0 (by decide), hv j hj 0 (by decide), hv i (by omega) 1 (by decide), hv j hj 1 (by decide)]; exact h4 i j hi hj
theorem si_A.inj (h : si_A k P n v b y M U num) : ∀ i j, i < j → j < n → num i ≠ num j := by
  intro i j hi hj e
  rcases h.2.2.1 i j hi hj with h3 | ⟨-, h3⟩
  · have e1 := (h.1 i (by omega)).1.2.2.2.1
    have e2 := (h.1 j hj).1.2.2.2.1
    rw [e1, e2, e] at h3
    exact Int32.lt_irrefl h3
  · omega
theorem si_A.inj2 (h : si_A k P n v b y M U num) {i j : Nat} (hi : i < n) (hj : j < n) (e : num i = num j) : i = j := by
  rcases Nat.lt_trichotomy i j with h2 | h2 | h2
  · exact absurd e (h.inj i j h2 hj)
  · exact h2
  · exact absurd e.symm (h.inj j i h2 hi)
def sx (j t : Nat) : Nat := if t < j then t else t + 1
theorem sk_sx {α : Type} (j t : Nat) (f : Nat → α) : sk j f t = f (sx j t) := by
  unfold sk sx
  split <;> rfl
theorem sx_mono {j s t : Nat} (h : s < t) : sx j s < sx j t := by
  unfold sx
  split <;> split <;> omega
theorem sx_ne (j t : Nat) : sx j t ≠ j := by
  unfold sx
  split <;> omega
theorem sx_lt {j t n : Nat} (h : t < n - 1) : sx j t < n := by
  unfold sx
  split <;> omega
theorem sx_inv {j i n : Nat} (hi : i < n) (hj : j < n) (h : i ≠ j) : ∃ t, t < n - 1 ∧ sx j t = i := by
  rcases Nat.lt_or_ge i j with h2 | h2
  · exact ⟨i, by omega, by unfold sx; rw [if_pos h2]⟩
  · exact ⟨i - 1, by omega, by unfold sx; rw [if_neg (by omega)]; omega⟩
theorem si_A.take {j : Nat} (h : si_A k P n v b y M U num) (hj : j < n) (h6 : ma_A y' 6 = upd (ma_A y 6) (num j) 0) (ho : ∀ i, i < 8 → i ≠ 6 → ma_A y' i = ma_A y i) : si_A k P (n - 1) (sk j v) (sk j b) y' M U (sk j num) := by
  have hin : ∀ {i j : Nat}, i < n → j < n → num i = num j → i = j := fun hi hj e => h.inj2 hi hj e
  obtain ⟨h1, h2, h3, h4⟩ := h
  refine ⟨fun t ht => ?_, fun e he he6 => ?_, fun s t hs ht => ?_, fun s t hs ht => ?_⟩
  · rw [sk_sx, sk_sx, sk_sx]
    have hlt := sx_lt (j := j) ht
    refine (h1 (sx j t) hlt).to (xa_ext_rf P) (Nat.le_refl M) (Nat.le_refl U) (fun i hi => ?_) (fun i _ => by rw [ho 7 (by decide) (by decide)])
    by_cases e6 : i = 6
    · subst e6
      rw [h6, pk_un (fun e => sx_ne j t (hin hlt hj e))]
    · rw [ho i (by omega) e6]
  · rw [h6] at he6
    by_cases e9 : e = num j
    · subst e9; rw [pk_us] at he6; exact absurd rfl he6
    · rw [pk_un e9] at he6
      obtain ⟨i, hi, rfl⟩ := h2 e he he6
      obtain ⟨t, ht, et⟩ := sx_inv hi hj (fun h => e9 (by rw [h]))
      exact ⟨t, ht, by rw [sk_sx, et]⟩
  · rw [sk_sx, sk_sx, sk_sx, sk_sx]; exact h3 _ _ (sx_mono hs) (sx_lt ht)
  · rw [sk_sx, sk_sx]; exact h4 _ _ (sx_mono hs) (sx_lt ht)
theorem si_A.le (h : si_A k P n v b y M U num) {i j : Nat} (hi : i ≤ j) (hj : j < n) : ¬ v j 3 < v i 3 := by
  intro h2
  rcases Nat.lt_or_ge i j with h3 | h3
  · rcases h.2.2.1 i j h3 hj with h4 | ⟨h4, -⟩
    · exact i32_asym h2 h4
    · rw [h4] at h2; exact Int32.lt_irrefl h2
  · have e : i = j := by omega
    subst e
    exact Int32.lt_irrefl h2
theorem si_A.add {w : Nat → Int32} {bb : Nat} (h : si_A k P n v b y M U num) (hq : q ≤ n) (hold : ∀ j, j < n → si_ev k P' (v j) (b j) y' (M + 1) U' (num j)) (hnew : si_ev k P' w bb y' (M + 1) U' M) (h6 : ∀ e, e < M → ¬ ma_A y' 6 e = 0 → ¬ ma_A y 6 e = 0)
    (hb4 : ∀ j, q ≤ j → j < n → w 3 < v j 3) (haf : ∀ j, q = j + 1 → ¬ w 3 < v j 3) (hun : ∀ j, j < n → v j 0 = w 0 → ¬ w 0 = 0 → ¬ v j 1 = w 1) : si_A k P' (n + 1) (is q v w) (is q b bb) y' (M + 1) U' (is q num M) := by
  have hle : ∀ {i j : Nat}, i ≤ j → j < n → ¬ v j 3 < v i 3 := fun hi hj => h.le hi hj
  obtain ⟨h1, h2, h3, h4⟩ := h
  have hlo : ∀ i, i < q → v i 3 < w 3 ∨ (v i 3 = w 3 ∧ num i < M) := by
    intro i hi
    have hM : num i < M := (h1 i (by omega)).1.1
    have h5 : ¬ w 3 < v (q - 1) 3 := haf (q - 1) (by omega)
    have h6 : ¬ v (q - 1) 3 < v i 3 := hle (by omega) (by omega)
    rcases i32_tri (v i 3) (w 3) with h7 | h7 | h7
    · exact Or.inl h7
    · exact Or.inr ⟨h7, hM⟩
    · exact absurd (Int32.lt_of_lt_of_le h7 (Int32.not_lt.mp h6)) h5
  refine ⟨fun t ht => ?_, fun e he he6 => ?_, fun s t hs ht => ?_, fun s t hs ht => ?_⟩
  · rcases Nat.lt_trichotomy t q with h5 | h5 | h5
    · rw [is_lo h5, is_lo h5, is_lo h5]; exact hold t (by omega)
    · subst h5; rw [is_at, is_at, is_at]; exact hnew
    · rw [is_hi h5, is_hi h5, is_hi h5]; exact hold (t - 1) (by omega)
  · by_cases e9 : e = M
    · exact ⟨q, by omega, by rw [is_at, e9]⟩
    · obtain ⟨j, hj, ej⟩ := h2 e (by omega) (h6 e (by omega) he6)
      rcases Nat.lt_or_ge j q with h5 | h5
      · exact ⟨j, by omega, by rw [is_lo h5, ej]⟩
      · exact ⟨j + 1, by omega, by rw [is_hi (by omega), Nat.add_sub_cancel, ej]⟩
  · rcases Nat.lt_trichotomy t q with h5 | h5 | h5
    · rw [is_lo h5, is_lo h5, is_lo (show s < q by omega), is_lo (show s < q by omega)]; exact h3 s t hs (by omega)
    · subst h5
      rw [is_at, is_at, is_lo hs, is_lo hs]; exact hlo s hs
    · rw [is_hi h5, is_hi h5]
      rcases Nat.lt_trichotomy s q with h6 | h6 | h6
      · rw [is_lo h6, is_lo h6]; exact h3 s (t - 1) (by omega) (by omega)
      · subst h6; rw [is_at, is_at]; exact Or.inl (hb4 (t - 1) (by omega) (by omega))
      · rw [is_hi h6, is_hi h6]; exact h3 (s - 1) (t - 1) (by omega) (by omega)
  · rcases Nat.lt_trichotomy t q with h5 | h5 | h5
    · rw [is_lo h5, is_lo (show s < q by omega)]; exact h4 s t hs (by omega)
    · subst h5
      rw [is_at, is_lo hs]; exact fun e1 e2 => hun s (by omega) e1 (by rw [← e1]; exact e2)
    · rw [is_hi h5]
      rcases Nat.lt_trichotomy s q with h6 | h6 | h6
      · rw [is_lo h6]; exact h4 s (t - 1) (by omega) (by omega)
      · subst h6; rw [is_at]; exact fun e1 e2 e3 => hun (t - 1) (by omega) e1.symm e2 e3.symm
      · rw [is_hi h6]; exact h4 (s - 1) (t - 1) (by omega) (by omega)
/-- the first of all -/
theorem si_A.least (h : si_A k P n v b y M U num) {e : Nat} (he : e < M) (hl : ma_lea y M e) : 0 < n ∧ num 0 = e := by
  obtain ⟨j, hj, ej⟩ := h.2.1 e he hl.1
  refine ⟨by omega, ?_⟩
  rcases Nat.eq_zero_or_pos j with h0 | h0
  · rw [← ej, h0]
  · exfalso
    have h1 := h.1 0 (by omega)
    have h2 := h.1 j hj
    rw [ej] at h2
    have h5 := hl.2.1 (num 0) h1.1.1 h1.1.2.1
    rw [← h1.1.2.2.2.1, ← h2.1.2.2.2.1] at h5
    rcases h.2.2.1 0 j h0 hj with h4 | ⟨h4, h6⟩
    · exact h5 h4
    · rw [ej] at h6
      have h7 := hl.2.2 (num 0) h6 h1.1.2.1
      rw [← h1.1.2.2.2.1, ← h2.1.2.2.2.1, h4] at h7
      exact Int32.lt_irrefl h7
theorem si_A.none (h : si_A k P n v b y M U num) (hl : ∀ f, f < M → ma_A y 6 f = 0) : n = 0 := by
  rcases Nat.eq_zero_or_pos n with h0 | h0
  · exact h0
  · exact absurd (hl _ (h.1 0 h0).1.1) (h.1 0 h0).1.2.1
/-! messages, counted -/
theorem ma_bef_cn (y : MS) (e : Nat) : ∀ M, ma_bef y e M = cn (ma_cb y e) M := by
  intro M
  induction M with
  | zero => rfl
  | succ M ih =>
    by_cases h : ma_cb y e M
    · rw [ma_bef_1 h, cn_1 h, ih]
    · rw [ma_bef_0 h, cn_0 h, ih]
theorem cn_cut {p : Nat → Prop} {j : Nat} : ∀ n, j ≤ n → cn (fun i => i < j ∧ p i) n = cn p j := by
  intro n
  induction n with
  | zero => intro h; have e : j = 0 := by omega
            subst e; rfl
  | succ n ih =>
    intro h
    rcases Nat.lt_or_ge n j with h2 | h2
    · have e : j = n + 1 := by omega
      subst e
      exact cn_congr (n + 1) (fun i hi => ⟨fun h => h.2, fun h => ⟨hi, h⟩⟩)
    · rw [cn_0 (p := fun i => i < j ∧ p i) (i := n) (fun h => by omega)]
      exact ih h2
theorem si_ev.m0 {v : Nat → Int32} {b e : Nat} (h : si_ev k P v b y M U e) : (v 0 = 0 ↔ ma_A y 1 e = 0) := by
  rcases h.2.1 with ⟨h1, h2⟩ | ⟨h1, h2⟩ | ⟨h1, h2⟩
  · exact ⟨fun _ => h1, fun _ => h2⟩
  · rw [h1, h2]; exact ⟨fun h => absurd h (by decide), fun h => absurd h (by decide)⟩
  · rw [h1, h2]; exact ⟨fun h => absurd h (by decide), fun h => absurd h (by decide)⟩
theorem si_A.bef (h : si_A k P n v b y M U num) {j : Nat} (hj : j < n) : ma_bef y (num j) M = cn (fun t => v t 0 = 0) j := by
  have h1 := h.1
  have e1 : cn (ma_cb y (num j)) M = cn (fun e => ma_cb y (num j) e ∧ ∃ i, i < n ∧ num i = e) M := cn_congr M (fun e he => ⟨fun hc => ⟨hc, h.2.1 e he hc.1.1⟩, fun hc => hc.1⟩)
  rw [ma_bef_cn, e1, cn_reix n (fun i hi => (h1 i hi).1.1) h.inj]
  rw [← cn_cut (p := fun t => v t 0 = 0) (j := j) n (by omega)]
  refine cn_congr n (fun i hi => ?_)
  have hi1 := h1 i hi
  have hj1 := h1 j hj
  unfold ma_cb
  rw [← hi1.1.2.2.2.1, ← hj1.1.2.2.2.1]
  constructor
  · rintro ⟨⟨-, h3⟩, h4⟩
    refine ⟨?_, hi1.m0.mpr h3⟩
    rcases Nat.lt_trichotomy i j with h5 | h5 | h5
    · exact h5
    · subst h5
      rcases h4 with h4 | ⟨-, h4⟩
      · exact absurd h4 Int32.lt_irrefl
      · omega
    · exfalso
      rcases h.2.2.1 j i h5 hi with h6 | ⟨h6, h7⟩
      · rcases h4 with h4 | ⟨h4, -⟩
        · exact i32_asym h4 h6
        · rw [h4] at h6; exact Int32.lt_irrefl h6
      · rcases h4 with h4 | ⟨-, h4⟩
        · rw [h6] at h4; exact Int32.lt_irrefl h4
        · omega
  · rintro ⟨h5, h3⟩
    exact ⟨⟨hi1.1.2.1, hi1.m0.mp h3⟩, h.2.2.1 i j h5 hj⟩
end SA
theorem xa_cnt_cn (x : XS) : ∀ j, xa_cnt x j = cn (fun t => xa_at x t 0 = 0) j := by
  intro j
  induction j with
  | zero => rfl
  | succ j ih =>
    by_cases h : xa_at x j 0 = 0
    · rw [xa_cnt_1 h, cn_1 (p := fun t => xa_at x t 0 = 0) h, ih]
    · rw [xa_cnt_0 h, cn_0 (p := fun t => xa_at x t 0 = 0) h, ih]
