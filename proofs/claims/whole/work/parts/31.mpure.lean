/-! pure words for the reference -/
theorem ma_15 {v : Int32} (h : ¬ 16 ≤ v) : ¬ 15 < v := by
  intro h2
  rw [Int32.le_iff_toInt_le] at h
  rw [Int32.lt_iff_toInt_lt] at h2
  have e1 : (16 : Int32).toInt = 16 := rfl
  have e2 : (15 : Int32).toInt = 15 := rfl
  omega
theorem ma_16 {v : Int32} (h : 16 ≤ v) : 15 < v := by
  rw [Int32.le_iff_toInt_le] at h
  rw [Int32.lt_iff_toInt_lt]
  have e1 : (16 : Int32).toInt = 16 := rfl
  have e2 : (15 : Int32).toInt = 15 := rfl
  omega
def ma_ev (y : MS) (M : Nat) (t s e f : Int32) : MS := ma_sI (ma_sA (ma_sA (ma_sA (ma_sA (ma_sA y 0 (upd (ma_A y 0) M t)) 1 (upd (ma_A y 1) M s)) 2 (upd (ma_A y 2) M e)) 3 (upd (ma_A y 3) M f)) 6 (upd (ma_A y 6) M 1)) 2 (nI (M + 1))
/-- the event f is there, of this sort, of this endpoint -/
def ma_mt (y : MS) (f : Nat) (s e : Int32) : Prop := ¬ ma_A y 6 f = 0 ∧ ma_A y 1 f = s ∧ ma_A y 2 f = e
theorem ma_next {y : MS} {i : Nat} {s e bs : Int32} (h : (bs = -1 ∧ ∀ f, f < i → ¬ ma_mt y f s e) ∨ (∃ b, b < i ∧ bs = nI b ∧ ma_mt y b s e ∧ ∀ f, b < f → f < i → ¬ ma_mt y f s e)) (hn : ¬ ma_mt y i s e) :
    (bs = -1 ∧ ∀ f, f < i + 1 → ¬ ma_mt y f s e) ∨ (∃ b, b < i + 1 ∧ bs = nI b ∧ ma_mt y b s e ∧ ∀ f, b < f → f < i + 1 → ¬ ma_mt y f s e) := by
  have hx : ∀ f, f < i + 1 → f = i ∨ f < i := fun f h => by omega
  rcases h with ⟨h1, h2⟩ | ⟨b, h1, h2, h3, h4⟩
  · refine Or.inl ⟨h1, fun f hf => ?_⟩
    rcases hx f hf with rfl | h
    · exact hn
    · exact h2 f h
  · refine Or.inr ⟨b, by omega, h2, h3, fun f hb hf => ?_⟩
    rcases hx f hf with rfl | h
    · exact hn
    · exact h4 f hb h
/-- the least of the first i events, by time, then by number -/
def ma_lst (y : MS) (i : Nat) (bs : Int32) : Prop := (bs = -1 ∧ ∀ f, f < i → ma_A y 6 f = 0) ∨ (∃ b, b < i ∧ bs = nI b ∧ ¬ ma_A y 6 b = 0 ∧ (∀ f, f < i → ¬ ma_A y 6 f = 0 → ¬ ma_A y 0 f < ma_A y 0 b) ∧ (∀ f, f < b → ¬ ma_A y 6 f = 0 → ma_A y 0 b < ma_A y 0 f))
theorem ma_lst_no {y : MS} {i : Nat} {bs : Int32} (h : ma_lst y i bs) (h0 : ma_A y 6 i = 0) : ma_lst y (i + 1) bs := by
  have hx : ∀ f, f < i + 1 → f = i ∨ f < i := fun f h => by omega
  rcases h with ⟨h1, h2⟩ | ⟨b, h1, h2, h3, h4, h5⟩
  · refine Or.inl ⟨h1, fun f hf => ?_⟩
    rcases hx f hf with rfl | h
    · exact h0
    · exact h2 f h
  · refine Or.inr ⟨b, by omega, h2, h3, fun f hf hn => ?_, h5⟩
    rcases hx f hf with rfl | h
    · exact absurd h0 hn
    · exact h4 f h hn
theorem ma_neg {b : Nat} (h : b < 2 ^ 31) : ¬ nI b < 0 := nI_pos h
theorem ma_lst_first {y : MS} {i : Nat} {bs : Int32} (h : ma_lst y i bs) (h0 : ¬ ma_A y 6 i = 0) (hb : bs < 0) (hi : i < 2 ^ 31) : ma_lst y (i + 1) (nI i) := by
  rcases h with ⟨h1, h2⟩ | ⟨b, h1, h2, h3, h4, h5⟩
  · refine Or.inr ⟨i, Nat.lt_succ_self i, rfl, h0, fun f hf hn => ?_, fun f hf hn => absurd (h2 f hf) hn⟩
    rcases Nat.lt_or_ge f i with h | h
    · exact absurd (h2 f h) hn
    · have e : f = i := by omega
      subst e
      exact fun h9 => Int32.lt_irrefl h9
  · rw [h2] at hb
    exact absurd hb (nI_pos (by omega))
theorem ma_lst_ge {y : MS} {i : Nat} {bs : Int32} (h : ma_lst y i bs) (hb : ¬ bs < 0) : ∃ b, b < i ∧ bs = nI b := by
  rcases h with ⟨h1, h2⟩ | ⟨b, h1, h2, -⟩
  · rw [h1] at hb; exact absurd (by decide) hb
  · exact ⟨b, h1, h2⟩
theorem ma_lst_keep {y : MS} {i b : Nat} {bs : Int32} (h : ma_lst y i bs) (eb : bs = nI b) (h0 : ¬ ma_A y 6 i = 0) (hc : ma_A y 0 b ≤ ma_A y 0 i) (hi : i < 2 ^ 31 ∧ b < i) : ma_lst y (i + 1) bs := by
  rcases h with ⟨h1, h2⟩ | ⟨b2, h1, h2, h3, h4, h5⟩
  · rw [h1] at eb
    have h3 := congrArg Int32.toInt eb
    rw [nI_toInt (by omega)] at h3
    have h4 : (-1 : Int32).toInt = -1 := rfl
    omega
  · have e : b = b2 := (nI_eq (by omega) (by omega)).mp (eb.symm.trans h2)
    subst e
    refine Or.inr ⟨b, by omega, h2, h3, fun f hf hn => ?_, h5⟩
    rcases Nat.lt_or_ge f i with h | h
    · exact h4 f h hn
    · have e : f = i := by omega
      subst e
      exact Int32.not_lt.mpr hc
theorem ma_lst_new {y : MS} {i b : Nat} {bs : Int32} (h : ma_lst y i bs) (eb : bs = nI b) (h0 : ¬ ma_A y 6 i = 0) (hc : ¬ ma_A y 0 b ≤ ma_A y 0 i) (hi : i < 2 ^ 31 ∧ b < i) : ma_lst y (i + 1) (nI i) := by
  have hc2 := Int32.not_le.mp hc
  rcases h with ⟨h1, h2⟩ | ⟨b2, h1, h2, h3, h4, h5⟩
  · rw [h1] at eb
    have h3 := congrArg Int32.toInt eb
    rw [nI_toInt (by omega)] at h3
    have h4 : (-1 : Int32).toInt = -1 := rfl
    omega
  · have e : b = b2 := (nI_eq (by omega) (by omega)).mp (eb.symm.trans h2)
    subst e
    refine Or.inr ⟨i, Nat.lt_succ_self i, rfl, h0, fun f hf hn h6 => ?_, fun f hf hn => ?_⟩
    · rcases Nat.lt_or_ge f i with h | h
      · exact h4 f h hn (Int32.lt_trans h6 hc2)
      · have e : f = i := by omega
        subst e
        exact Int32.lt_irrefl h6
    · have h7 := Int32.not_lt.mp (h4 f hf hn)
      exact Int32.lt_of_lt_of_le hc2 h7
