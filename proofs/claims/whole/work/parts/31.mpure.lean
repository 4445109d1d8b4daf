/-! pure words for the reference -/
theorem ma_15 {v : Int32} (h : ¬ 16 ≤ v) : ¬ 15 < v := by
  intro h2
  rw [Int32.le_iff_toInt_le] at h
  rw [Int32.lt_iff_toInt_lt] at h2
  have e1 : (16 : Int32).toInt = 16 := rfl
  have e2 : (15 : Int32).toInt = 15 := rfl
  omega
theorem ma_16 {v : Int32} (h : 16 ≤ v) : 15 < v := by
  rw [Int32.le_iff_toInt_le] at h
  rw [Int32.lt_iff_toInt_lt]
  have e1 : (16 : Int32).toInt = 16 := rfl
  have e2 : (15 : Int32).toInt = 15 := rfl
  omega
def ma_ev (y : MS) (M : Nat) (t s e f : Int32) : MS := ma_sI (ma_sA (ma_sA (ma_sA (ma_sA (ma_sA y 0 (upd (ma_A y 0) M t)) 1 (upd (ma_A y 1) M s)) 2 (upd (ma_A y 2) M e)) 3 (upd (ma_A y 3) M f)) 6 (upd (ma_A y 6) M 1)) 2 (nI (M + 1))
/-- the event f is there, of this sort, of this endpoint -/
def ma_mt (y : MS) (f : Nat) (s e : Int32) : Prop := ¬ ma_A y 6 f = 0 ∧ ma_A y 1 f = s ∧ ma_A y 2 f = e
theorem ma_next {y : MS} {i : Nat} {s e bs : Int32} (h : (bs = -1 ∧ ∀ f, f < i → ¬ ma_mt y f s e) ∨ (∃ b, b < i ∧ bs = nI b ∧ ma_mt y b s e ∧ ∀ f, b < f → f < i → ¬ ma_mt y f s e)) (hn : ¬ ma_mt y i s e) :
    (bs = -1 ∧ ∀ f, f < i + 1 → ¬ ma_mt y f s e) ∨ (∃ b, b < i + 1 ∧ bs = nI b ∧ ma_mt y b s e ∧ ∀ f, b < f → f < i + 1 → ¬ ma_mt y f s e) := by
  have hx : ∀ f, f < i + 1 → f = i ∨ f < i := fun f h => by omega
  rcases h with ⟨h1, h2⟩ | ⟨b, h1, h2, h3, h4⟩
  · refine Or.inl ⟨h1, fun f hf => ?_⟩
    rcases hx f hf with rfl | h
    · exact hn
    · exact h2 f h
  · refine Or.inr ⟨b, by omega, h2, h3, fun f hb hf => ?_⟩
    rcases hx f hf with rfl | h
    · exact hn
    · exact h4 f hb h
/-- the least of the first i events, by time, then by number -/
def ma_lst (y : MS) (i : Nat) (bs : Int32) : Prop := (bs = -1 ∧ ∀ f, f < i → ma_A y 6 f = 0) ∨ (∃ b, b < i ∧ bs = nI b ∧ ¬ ma_A y 6 b = 0 ∧ (∀ f, f < i → ¬ ma_A y 6 f = 0 → ¬ ma_A y 0 f < ma_A y 0 b) ∧ (∀ f, f < b → ¬ ma_A y 6 f = 0 → ma_A y 0 b < ma_A y 0 f))
theorem ma_lst_no {y : MS} {i : Nat} {bs : Int32} (h : ma_lst y i bs) (h0 : ma_A y 6 i = 0) : ma_lst y (i + 1) bs := by
  have hx : ∀ f, f < i + 1 → f = i ∨ f < i := fun f h => by omega
  rcases h with ⟨h1, h2⟩ | ⟨b, h1, h2, h3, h4, h5⟩
  · refine Or.inl ⟨h1, fun f hf => ?_⟩
    rcases hx f hf with rfl | h
    · exact h0
    · exact h2 f h
  · refine Or.inr ⟨b, by omega, h2, h3, fun f hf hn => ?_, h5⟩
    rcases hx f hf with rfl | h
    · exact absurd h0 hn
    · exact h4 f h hn
theorem ma_neg {b : Nat} (h : b < 2 ^ 31) : ¬ nI b < 0 := nI_pos h
theorem ma_lst_first {y : MS} {i : Nat} {bs : Int32} (h : ma_lst y i bs) (h0 : ¬ ma_A y 6 i = 0) (hb : bs < 0) (hi : i < 2 ^ 31) : ma_lst y (i + 1) (nI i) := by
  rcases h with ⟨h1, h2⟩ | ⟨b, h1, h2, h3, h4, h5⟩
  · refine Or.inr ⟨i, Nat.lt_succ_self i, rfl, h0, fun f hf hn => ?_, fun f hf hn => absurd (h2 f hf) hn⟩
    rcases Nat.lt_or_ge f i with h | h
    · exact absurd (h2 f h) hn
    · have e : f = i := by omega
      subst e
      exact fun h9 => Int32.lt_irrefl h9
  · rw [h2] at hb
    exact absurd hb (nI_pos (by omega))
theorem ma_lst_ge {y : MS} {i : Nat} {bs : Int32} (h : ma_lst y i bs) (hb : ¬ bs < 0) : ∃ b, b < i ∧ bs = nI b := by
  rcases h with ⟨h1, h2⟩ | ⟨b, h1, h2, -⟩
  · rw [h1] at hb; exact absurd (by decide) hb
  · exact ⟨b, h1, h2⟩
theorem ma_lst_keep {y : MS} {i b : Nat} {bs : Int32} (h : ma_lst y i bs) (eb : bs = nI b) (h0 : ¬ ma_A y 6 i = 0) (hc : ma_A y 0 b ≤ ma_A y 0 i) (hi : i < 2 ^ 31 ∧ b < i) : ma_lst y (i + 1) bs := by
  rcases h with ⟨h1, h2⟩ | ⟨b2, h1, h2, h3, h4, h5⟩
  · rw [h1] at eb
    have h3 := congrArg Int32.toInt eb
    rw [nI_toInt (by omega)] at h3
    have h4 : (-1 : Int32).toInt = -1 := rfl
    omega
  · have e : b = b2 := (nI_eq (by omega) (by omega)).mp (eb.symm.trans h2)
    subst e
    refine Or.inr ⟨b, by omega, h2, h3, fun f hf hn => ?_, h5⟩
    rcases Nat.lt_or_ge f i with h | h
    · exact h4 f h hn
    · have e : f = i := by omega
      subst e
      exact Int32.not_lt.mpr hc
theorem ma_lst_new {y : MS} {i b : Nat} {bs : Int32} (h : ma_lst y i bs) (eb : bs = nI b) (h0 : ¬ ma_A y 6 i = 0) (hc : ¬ ma_A y 0 b ≤ ma_A y 0 i) (hi : i < 2 ^ 31 ∧ b < i) : ma_lst y (i + 1) (nI i) := by
  have hc2 := Int32.not_le.mp hc
  rcases h with ⟨h1, h2⟩ | ⟨b2, h1, h2, h3, h4, h5⟩
  · rw [h1] at eb
    have h3 := congrArg Int32.toInt eb
    rw [nI_toInt (by omega)] at h3
    have h4 : (-1 : Int32).toInt = -1 := rfl
    omega
  · have e : b = b2 := (nI_eq (by omega) (by omega)).mp (eb.symm.trans h2)
    subst e
    refine Or.inr ⟨i, Nat.lt_succ_self i, rfl, h0, fun f hf hn h6 => ?_, fun f hf hn => ?_⟩
    · rcases Nat.lt_or_ge f i with h | h
      · exact h4 f h hn (Int32.lt_trans h6 hc2)
      · have e : f = i := by omega
        subst e
        exact Int32.lt_irrefl h6
    · have h7 := Int32.not_lt.mp (h4 f hf hn)
      exact Int32.lt_of_lt_of_le hc2 h7
/-- the event j comes ahead of the event i, both messages -/
def ma_cb (y : MS) (i j : Nat) : Prop := (¬ ma_A y 6 j = 0 ∧ ma_A y 1 j = 0) ∧ (ma_A y 0 j < ma_A y 0 i ∨ (ma_A y 0 j = ma_A y 0 i ∧ j < i))
noncomputable def ma_bef (y : MS) (i : Nat) : Nat → Nat
  | 0 => 0
  | j + 1 => ma_bef y i j + @ite _ (ma_cb y i j) (Classical.propDecidable _) 1 0
theorem ma_bef_1 {y : MS} {i j : Nat} (h : ma_cb y i j) : ma_bef y i (j + 1) = ma_bef y i j + 1 := by
  have e : ma_bef y i (j + 1) = ma_bef y i j + @ite _ (ma_cb y i j) (Classical.propDecidable _) 1 0 := rfl
  rw [e, if_pos h]
theorem ma_bef_0 {y : MS} {i j : Nat} (h : ¬ ma_cb y i j) : ma_bef y i (j + 1) = ma_bef y i j := by
  have e : ma_bef y i (j + 1) = ma_bef y i j + @ite _ (ma_cb y i j) (Classical.propDecidable _) 1 0 := rfl
  rw [e, if_neg h]
  rfl
def ma_msg (y : MS) (e : Nat) : Prop := ¬ ma_A y 6 e = 0 ∧ ma_A y 1 e = 0
def ma_nth (y : MS) (M : Nat) (k9 r : Int32) : Prop := (r = -1 ∧ ∀ e, e < M → ma_msg y e → ¬ nI (ma_bef y e M) = k9) ∨ (∃ e, e < M ∧ r = nI e ∧ ma_msg y e ∧ nI (ma_bef y e M) = k9 ∧ ∀ f, f < e → ma_msg y f → ¬ nI (ma_bef y f M) = k9)
def ma_drp (y : MS) (M : Nat) (s e r : Int32) (u : MS) : Prop := (r = 0 ∧ y = u ∧ ∀ f, f < M → ¬ ma_mt y f s e) ∨ (∃ b, b < M ∧ r = 1 ∧ ma_mt y b s e ∧ (∀ f, b < f → f < M → ¬ ma_mt y f s e) ∧ u = ma_sA y 6 (upd (ma_A y 6) b 0))
theorem ma_drp_b {y u : MS} {M : Nat} {s e r : Int32} (h : ma_drp y M s e r u) : (r = 0 ∨ r = 1) ∧ u.1 = y.1 := by
  rcases h with ⟨h1, h2, -⟩ | ⟨b, -, h1, -, -, h2⟩
  · exact ⟨Or.inl h1, by rw [h2]⟩
  · exact ⟨Or.inr h1, by rw [h2]; rfl⟩
/-- set() and unset(), behind thrown = 0 -/
def ma_set (y : MS) (M : Nat) (s e ti r : Int32) (u : MS) : Prop :=
  ((e < 0 ∨ 15 < e) ∧ r = 0 ∧ u = ma_sI y 0 1) ∨ ((¬ e < 0 ∧ ¬ 15 < e) ∧ (ti < 0 ∨ 100000 < ti) ∧ r = 0 ∧ u = ma_sI y 0 2) ∨ ((¬ e < 0 ∧ ¬ 15 < e) ∧ (¬ ti < 0 ∧ ¬ 100000 < ti) ∧ ∃ y1, ma_drp (ma_sI y 0 0) M s e r y1 ∧ u = ma_ev y1 M (y1.1 1 + ti) s e (-1))
def ma_uns (y : MS) (M : Nat) (s e r : Int32) (u : MS) : Prop := ((e < 0 ∨ 15 < e) ∧ r = 0 ∧ u = ma_sI y 0 1) ∨ ((¬ e < 0 ∧ ¬ 15 < e) ∧ ma_drp (ma_sI y 0 0) M s e r u)
theorem ma_set_b {y u : MS} {M : Nat} {s e ti r : Int32} (h : ma_set y M s e ti r u) : r = 0 ∨ r = 1 := by
  rcases h with ⟨-, h, -⟩ | ⟨-, -, h, -⟩ | ⟨-, -, y1, h, -⟩
  · exact Or.inl h
  · exact Or.inl h
  · exact (ma_drp_b h).1
theorem ma_uns_b {y u : MS} {M : Nat} {s e r : Int32} (h : ma_uns y M s e r u) : r = 0 ∨ r = 1 := by
  rcases h with ⟨-, h, -⟩ | ⟨-, h⟩
  · exact Or.inl h
  · exact (ma_drp_b h).1
theorem ma_2s {y : MS} {c : Int32} : ma_sI (ma_sI y 0 0) 0 c = ma_sI y 0 c := by
  have e : upd (upd y.1 0 0) 0 c = upd y.1 0 c := by
    funext j
    unfold upd
    by_cases h : j = 0
    · rw [if_pos h, if_pos h]
    · rw [if_neg h, if_neg h, if_neg h]
  show (upd (upd y.1 0 0) 0 c, y.2) = (upd y.1 0 c, y.2)
  rw [e]
/-- what go() does -/
def ma_go (y : MS) (M i9 j9 : Nat) (fr to lt bg sz r : Int32) (u : MS) : Prop :=
  (y.1 10 = 200 ∧ r = 0 ∧ u = ma_sI y 12 (y.1 12 + 1)) ∨ (¬ y.1 10 = 200 ∧ r = 1 ∧ u = ma_sI (ma_sA (ma_sA (ma_ev (ma_sI y 11 (y.1 11 + 1)) M (y.1 1 + ma_A y 9 (16 * i9 + j9) + lt) 0 to fr) 4 (upd (ma_A y 4) M bg)) 5 (upd (ma_A y 5) M sz)) 10 (y.1 10 + 1))
theorem ma_go_b {y u : MS} {M i9 j9 : Nat} {fr to lt bg sz r : Int32} (h : ma_go y M i9 j9 fr to lt bg sz r u) : r = 0 ∨ r = 1 := by
  rcases h with ⟨-, h, -⟩ | ⟨-, h, -⟩
  · exact Or.inl h
  · exact Or.inr h
/-- the bytes of a long, as the reference takes them -/
def ma_by (e : Int64) (i : Nat) : Int32 := ((e >>> (((8 : Int32) * nI i).toInt64 &&& 63)) &&& 255).toInt32
def ma_fd (T : Nat → Int32) (t : Nat) (e : Int64) (i : Nat) : Nat → Int32 := fun j => if t ≤ j ∧ j < t + i then ma_by e (j - t) else T j
theorem ma_fd_0 (T : Nat → Int32) (t : Nat) (e : Int64) : ma_fd T t e 0 = T := by
  funext j; unfold ma_fd; rw [if_neg (by omega)]
theorem ma_fd_s (T : Nat → Int32) (t : Nat) (e : Int64) (i : Nat) : upd (ma_fd T t e i) (t + i) (ma_by e i) = ma_fd T t e (i + 1) := by
  funext j
  unfold upd ma_fd
  by_cases h1 : j = t + i
  · subst h1
    rw [if_pos rfl, if_pos (by omega), Nat.add_sub_cancel_left]
  · rw [if_neg h1]
    by_cases h2 : t ≤ j ∧ j < t + i
    · rw [if_pos h2, if_pos (by omega)]
    · rw [if_neg h2, if_neg (by omega)]
theorem ma_sA_id {y : MS} {i : Nat} {f : Nat → Int32} (h : ma_A y i = f) : ma_sA y i f = y := by
  have e : (fun j => if j = i then f else y.2.2 j) = y.2.2 := by
    funext j
    by_cases hj : j = i
    · rw [if_pos hj, hj]; exact h.symm
    · rw [if_neg hj]
  show (y.1, y.2.1, fun j => if j = i then f else y.2.2 j) = y
  rw [e]
theorem ma_sI_id {y : MS} {i : Nat} {v : Int32} (h : y.1 i = v) : ma_sI y i v = y := by
  have e : upd y.1 i v = y.1 := by
    funext j
    unfold upd
    by_cases hj : j = i
    · rw [if_pos hj, hj, h]
    · rw [if_neg hj]
  show (upd y.1 i v, y.2) = y
  rw [e]
