/-! pure words for what the reference lets happen, sends and answers -/
def ma_kd (s : Int32) : Int32 := if s = 1 then 32 else if s = 2 then 48 else 0
def ma_gone (y : MS) (e : Nat) : Prop := ¬ xa_bit (y.1 5) (ma_A y 3 e) = xa_bit (y.1 5) (ma_A y 2 e) ∨ xa_bit (y.1 6) (ma_A y 2 e) = 1
def ma_off (y : MS) (e : Nat) : MS := ma_sI (ma_sA y 6 (upd (ma_A y 6) e 0)) 1 (ma_A y 0 e)
def ma_rec (y : MS) (e D : Nat) (c : Int32) : MS := ma_sI (ma_sA (ma_sA y 10 (upd (ma_A y 10) (D % 32) c)) 11 (upd (ma_A y 11) (D % 32) (nI e))) 13 (nI (D + 1))
def ma_hap (y : MS) (e D : Nat) (r : Int32) (u : MS) : Prop :=
  (¬ ma_A y 1 e = 0 ∧ r = ma_A y 2 e + ma_kd (ma_A y 1 e) ∧ u = ma_rec (ma_off y e) e D r) ∨
  (ma_A y 1 e = 0 ∧ ma_gone y e ∧ r = ma_A y 2 e + 0 + 16 ∧ u = ma_rec (ma_sI (ma_sI (ma_sI (ma_off y e) 10 (y.1 10 - 1)) 12 (y.1 12 + 1)) 14 (y.1 14)) e D r) ∨
  (ma_A y 1 e = 0 ∧ ¬ ma_gone y e ∧ r = ma_A y 2 e + 0 + 0 ∧ u = ma_rec (ma_sI (ma_sI (ma_sI (ma_off y e) 10 (y.1 10 - 1)) 12 (y.1 12 + 0)) 14 (nI e)) e D r)
theorem ma_rem32 {w : Nat} (h : w < 2 ^ 31) : nI w - nI w / 32 * 32 = nI (w % 32) := pk_rem (a := w) (d := 32) h (by decide) (by decide)
def ma_lea (y : MS) (M b : Nat) : Prop := ¬ ma_A y 6 b = 0 ∧ (∀ f, f < M → ¬ ma_A y 6 f = 0 → ¬ ma_A y 0 f < ma_A y 0 b) ∧ (∀ f, f < b → ¬ ma_A y 6 f = 0 → ma_A y 0 b < ma_A y 0 f)
/-- how many of the first i events are there -/
def ma_cT (y : MS) : Nat → Nat
  | 0 => 0
  | i + 1 => ma_cT y i + (if ma_A y 6 i = 0 then 0 else 1)
theorem ma_cT_s (y : MS) (i : Nat) : ma_cT y (i + 1) = ma_cT y i + (if ma_A y 6 i = 0 then 0 else 1) := rfl
theorem ma_cT_le (y : MS) (i : Nat) : ma_cT y i ≤ i := by
  induction i with
  | zero => exact Nat.le_refl 0
  | succ i ih =>
    rw [ma_cT_s]
    split <;> omega
theorem ma_cT_pos {y : MS} {b : Nat} (h : ¬ ma_A y 6 b = 0) : ∀ M, b < M → 0 < ma_cT y M := by
  intro M
  induction M with
  | zero => intro h2; omega
  | succ M ih =>
    intro h2
    rw [ma_cT_s]
    rcases Nat.lt_or_ge b M with h3 | h3
    · have := ih h3
      split <;> omega
    · have e : b = M := by omega
      subst e
      rw [if_neg h]
      omega
theorem ma_cT_off {y u : MS} {b : Nat} (h : ¬ ma_A y 6 b = 0) (hu : ma_A u 6 = upd (ma_A y 6) b 0) : ∀ M, ma_cT u M + (if b < M then 1 else 0) = ma_cT y M := by
  intro M
  induction M with
  | zero => rw [if_neg (by omega)]; rfl
  | succ M ih =>
    rw [ma_cT_s, ma_cT_s, hu]
    by_cases e : M = b
    · subst e
      rw [if_neg (Nat.lt_irrefl M)] at ih
      rw [pk_us, if_neg h, if_pos rfl, if_pos (Nat.lt_succ_self M)]
      omega
    · rw [pk_un e]
      by_cases h2 : b < M
      · rw [if_pos h2] at ih
        rw [if_pos (show b < M + 1 by omega)]
        omega
      · rw [if_neg h2] at ih
        rw [if_neg (show ¬ b < M + 1 by omega)]
        omega
theorem ma_hap_6 {y u : MS} {e D : Nat} {r : Int32} (h : ma_hap y e D r u) : ma_A u 6 = upd (ma_A y 6) e 0 ∧ u.1 13 = nI (D + 1) ∧ u.1 2 = y.1 2 := by
  rcases h with ⟨-, -, rfl⟩ | ⟨-, -, -, rfl⟩ | ⟨-, -, -, rfl⟩ <;> exact ⟨rfl, rfl, rfl⟩
/-- c events, one after another, each due by en -/
def ma_runs (M : Nat) (en : Int32) (y : MS) : Nat → MS → Prop
  | 0, u => u = y
  | c + 1, u => ∃ y1 b D r, ma_runs M en y c y1 ∧ (y1.1 13 = nI D ∧ D < 2 ^ 31) ∧ b < M ∧ ma_lea y1 M b ∧ ma_A y1 0 b ≤ en ∧ ma_hap y1 b D r u
/-- the first i bytes of the tape, put behind what was said -/
def ma_cp (S : Nat → Int32) (U : Nat) (F : Nat → Int32) (i : Nat) : Nat → Int32 := fun j => if U ≤ j ∧ j < U + i then F (j - U) else S j
theorem ma_cp_0 (S : Nat → Int32) (U : Nat) (F : Nat → Int32) : ma_cp S U F 0 = S := by
  funext j; unfold ma_cp; rw [if_neg (by omega)]
theorem ma_cp_s (S : Nat → Int32) (U : Nat) (F : Nat → Int32) (i : Nat) : upd (ma_cp S U F i) (U + i) (F i) = ma_cp S U F (i + 1) := by
  funext j
  unfold upd ma_cp
  by_cases h1 : j = U + i
  · subst h1
    rw [if_pos rfl, if_pos (by omega), Nat.add_sub_cancel_left]
  · rw [if_neg h1]
    by_cases h2 : U ≤ j ∧ j < U + i
    · rw [if_pos h2, if_pos (by omega)]
    · rw [if_neg h2, if_neg (by omega)]
theorem ma_go_M {y u : MS} {M i9 j9 : Nat} {fr to lt bg sz r : Int32} (h : ma_go y M i9 j9 fr to lt bg sz r u) (hM : y.1 2 = nI M) : (r = 0 ∧ u.1 2 = nI M ∧ u.1 9 = y.1 9) ∨ (r = 1 ∧ u.1 2 = nI (M + 1) ∧ u.1 9 = y.1 9) := by
  rcases h with ⟨-, h, rfl⟩ | ⟨-, h, rfl⟩
  · exact Or.inl ⟨h, hM, rfl⟩
  · exact Or.inr ⟨h, rfl, rfl⟩
abbrev ma_noi (y : MS) (M i9 j9 sp : Nat) (fr to bg sz r : Int32) (u : MS) : Prop :=
  (xa_draw (xa_lcg (ma_D y)) 1000 < y.1 7 ∧ r = 0 ∧ u = ma_sI (ma_sD y (xa_lcg (ma_D y))) 12 (y.1 12 + 1)) ∨
  (¬ xa_draw (xa_lcg (ma_D y)) 1000 < y.1 7 ∧ ∃ r1 u1, ma_go (ma_sD y (xa_lcg (xa_lcg (xa_lcg (ma_D y))))) M i9 j9 fr to (xa_draw (xa_lcg (xa_lcg (xa_lcg (ma_D y)))) (nI (sp + 1))) bg sz r1 u1 ∧
    ((¬ xa_draw (xa_lcg (xa_lcg (ma_D y))) 1000 < y.1 8 ∧ r = 0 + r1 ∧ u = u1) ∨ (xa_draw (xa_lcg (xa_lcg (ma_D y))) 1000 < y.1 8 ∧ ∃ M2 r2, ((r1 = 0 ∧ M2 = M) ∨ (r1 = 1 ∧ M2 = M + 1)) ∧ ma_go (ma_sD u1 (xa_lcg (ma_D u1))) M2 i9 j9 fr to (xa_draw (xa_lcg (ma_D u1)) (nI (sp + 1))) bg sz r2 u ∧ r = 0 + r1 + r2)))
/-- the state in which send() comes to the draws -/
def ma_snd (y : MS) (U t : Nat) : MS := ma_sI (ma_sA (ma_sI (ma_sI y 0 0) 4 0) 7 (ma_cp (ma_A y 7) U (ma_A y 8) t)) 3 (nI (U + t))
def ma_nom (y : MS) (M : Nat) (k9 : Int32) : Prop := ∀ e, e < M → ma_msg y e → ¬ nI (ma_bef y e M) = k9
def ma_isM (y : MS) (M : Nat) (k9 : Int32) (e : Nat) : Prop := e < M ∧ ma_msg y e ∧ nI (ma_bef y e M) = k9
def ma_okm (wh ti : Int32) : Prop := (¬ wh < 0 ∧ ¬ 2 < wh) ∧ ((wh = 2 ∧ ¬ ti < 0 ∧ ¬ 1000 < ti) ∨ (¬ wh = 2 ∧ ¬ ti < 0 ∧ ¬ 0 < ti))
def ma_mes (y : MS) (e : Nat) (wh : Int32) : Int32 := if wh < 0 ∨ 4 < wh then -1 else if 3 ≤ wh then (if wh = 3 then nI e else ma_A y 5 e) else if wh = 0 then ma_A y 3 e else if wh = 1 then ma_A y 2 e else ma_A y 0 e
def ma_hpd (y : MS) (wh : Int32) (a e : Nat) : Int32 := if 2 ≤ wh then (if wh = 2 then nI e else ma_A y 3 e) else if wh = 0 then ma_A y 10 a else ma_A y 0 e
def ma_cou (y : MS) (wh : Int32) : Int32 := if wh < 0 ∨ ¬ wh ≤ 7 then -1 else if 4 ≤ wh then (if wh = 4 then y.1 13 else if wh = 5 then y.1 2 else if wh = 6 then y.1 4 else if 0 ≤ y.1 14 then ma_A y 5 (y.1 14).toNatClampNeg else 0) else if wh = 0 then y.1 1 else if wh = 1 then y.1 10 else if wh = 2 then y.1 11 else y.1 12
theorem ma_ixs {s : Nat} {i9 : Int32} (hs : s ≤ 4200) (h1 : ¬ i9 < 0) (h2 : ¬ nI s - 1 < i9) : ∃ j, j < s ∧ i9 = nI j := by
  obtain ⟨j, hj, e⟩ := nI_of h1
  subst e
  rcases Nat.eq_zero_or_pos s with h0 | h0
  · subst h0
    exfalso
    apply h2
    have e1 : (nI 0 - 1 : Int32) = -1 := by decide
    rw [e1, Int32.lt_iff_toInt_lt, nI_toInt hj]
    have e2 : (-1 : Int32).toInt = -1 := rfl
    omega
  · rw [xa_pred h0] at h2
    refine ⟨j, ?_, rfl⟩
    have h3 : j ≤ s - 1 := Nat.le_of_not_lt (fun h => h2 ((nI_ltI (by omega) hj).mpr h))
    omega
theorem ma_ixn {s : Nat} {i9 : Int32} (hs : s ≤ 4200) (h : i9 < 0 ∨ nI s - 1 < i9) : i9 < 0 ∨ nI s ≤ i9 := by
  rcases h with h | h
  · exact Or.inl h
  · by_cases h0 : i9 < 0
    · exact Or.inl h0
    · refine Or.inr ?_
      obtain ⟨j, hj, e⟩ := nI_of h0
      subst e
      rcases Nat.eq_zero_or_pos s with h3 | h3
      · subst h3
        exact nI_le (Nat.zero_le j) hj
      · rw [xa_pred h3] at h
        have := (nI_ltI (by omega) hj).mp h
        exact nI_le (by omega) hj
theorem ma_inA {y : MS} (ha : y.1 14 = -1 ∨ ∃ e, e < 1700 ∧ y.1 14 = nI e) (h : 0 ≤ y.1 14) : vp_in (y.1 14) 1700 := by
  rcases ha with ha | ⟨e, he, ha⟩
  · rw [ha] at h; exact absurd h (by decide)
  · rw [ha]; exact vp_in_nI he (by decide)
theorem ma_k31 {k : Int32} (h1 : ¬ k < 0) (h2 : ¬ 31 < k) : ∃ i, i < 32 ∧ k = nI i := by
  obtain ⟨j, hj, e⟩ := nI_of h1
  subst e
  exact ⟨j, Nat.lt_of_le_of_lt (Nat.le_of_not_lt (fun h => h2 ((nI_ltI (by decide) hj).mpr h))) (by decide), rfl⟩
theorem ma_bef_I {y u : MS} (h : u.2.2 = y.2.2) (e j : Nat) : ma_bef u e j = ma_bef y e j := by
  have hc : ∀ j, ma_cb u e j = ma_cb y e j := fun j => by unfold ma_cb ma_A; rw [h]
  induction j with
  | zero => rfl
  | succ j ih =>
    by_cases h2 : ma_cb y e j
    · rw [ma_bef_1 h2, ma_bef_1 (by rw [hc]; exact h2), ih]
    · rw [ma_bef_0 h2, ma_bef_0 (by rw [hc]; exact h2), ih]
theorem ma_nth_I {y u : MS} (h : u.2.2 = y.2.2) {M : Nat} {k r : Int32} (hp : ma_nth u M k r) : ma_nth y M k r := by
  have hm : ∀ e, ma_msg u e = ma_msg y e := fun e => by unfold ma_msg ma_A; rw [h]
  unfold ma_nth at hp
  simp only [ma_bef_I h, hm] at hp
  exact hp
