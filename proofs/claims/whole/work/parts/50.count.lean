/-! counting -/
noncomputable def cn (p : Nat → Prop) : Nat → Nat
  | 0 => 0
  | i + 1 => cn p i + @ite _ (p i) (Classical.propDecidable _) 1 0
theorem cn_1 {p : Nat → Prop} {i : Nat} (h : p i) : cn p (i + 1) = cn p i + 1 := by
  have e : cn p (i + 1) = cn p i + @ite _ (p i) (Classical.propDecidable _) 1 0 := rfl
  rw [e, if_pos h]
theorem cn_0 {p : Nat → Prop} {i : Nat} (h : ¬ p i) : cn p (i + 1) = cn p i := by
  have e : cn p (i + 1) = cn p i + @ite _ (p i) (Classical.propDecidable _) 1 0 := rfl
  rw [e, if_neg h]
  rfl
theorem cn_congr {p q : Nat → Prop} : ∀ n, (∀ i, i < n → (p i ↔ q i)) → cn p n = cn q n := by
  intro n
  induction n with
  | zero => intro _; rfl
  | succ n ih =>
    intro h
    have e := ih (fun i hi => h i (by omega))
    by_cases hp : p n
    · rw [cn_1 hp, cn_1 ((h n (by omega)).mp hp), e]
    · rw [cn_0 hp, cn_0 (fun h2 => hp ((h n (by omega)).mpr h2)), e]
theorem cn_le (p : Nat → Prop) : ∀ n, cn p n ≤ n := by
  intro n
  induction n with
  | zero => exact Nat.le_refl 0
  | succ n ih =>
    by_cases hp : p n
    · rw [cn_1 hp]; omega
    · rw [cn_0 hp]; omega
theorem cn_mono (p : Nat → Prop) {a b : Nat} (h : a ≤ b) : cn p a ≤ cn p b := by
  induction b with
  | zero => have e : a = 0 := by omega
            rw [e]; exact Nat.le_refl _
  | succ b ih =>
    rcases Nat.lt_or_ge b a with h2 | h2
    · have e : a = b + 1 := by omega
      rw [e]; exact Nat.le_refl _
    · have := ih h2
      by_cases hp : p b
      · rw [cn_1 hp]; omega
      · rw [cn_0 hp]; omega
theorem cn_lt {p : Nat → Prop} {a n : Nat} (ha : a < n) (hp : p a) : cn p a < cn p n := by
  have h1 := cn_1 hp
  have h2 := cn_mono p (show a + 1 ≤ n from ha)
  omega
theorem cn_miss {p : Nat → Prop} {a : Nat} : ∀ n, a < n → ¬ p a → cn p n < n := by
  intro n
  induction n with
  | zero => intro h; omega
  | succ n ih =>
    intro h hp
    rcases Nat.lt_or_ge a n with h2 | h2
    · have := ih h2 hp
      by_cases hn : p n
      · rw [cn_1 hn]; omega
      · rw [cn_0 hn]; omega
    · have e : a = n := by omega
      subst e
      rw [cn_0 hp]
      have := cn_le p a
      omega
theorem cn_none {p : Nat → Prop} : ∀ n, (∀ i, i < n → ¬ p i) → cn p n = 0 := by
  intro n
  induction n with
  | zero => intro _; rfl
  | succ n ih =>
    intro h
    rw [cn_0 (h n (by omega))]
    exact ih (fun i hi => h i (by omega))
/-- one more holds -/
theorem cn_one {p q : Nat → Prop} {a : Nat} : ∀ n, a < n → (∀ i, i < n → i ≠ a → (p i ↔ q i)) → p a → ¬ q a → cn p n = cn q n + 1 := by
  intro n
  induction n with
  | zero => intro h; omega
  | succ n ih =>
    intro h hpq hp hq
    rcases Nat.lt_or_ge a n with h2 | h2
    · have e := ih h2 (fun i hi => hpq i (by omega)) hp hq
      have hne : n ≠ a := by omega
      by_cases hn : p n
      · rw [cn_1 hn, cn_1 ((hpq n (by omega) hne).mp hn), e]
      · rw [cn_0 hn, cn_0 (fun h3 => hn ((hpq n (by omega) hne).mpr h3)), e]
    · have e : a = n := by omega
      subst e
      rw [cn_1 hp, cn_0 hq, cn_congr a (fun i hi => hpq i (by omega) (by omega))]
/-- counted along a way that meets each once -/
theorem cn_reix {p : Nat → Prop} {f : Nat → Nat} {M : Nat} : ∀ n, (∀ i, i < n → f i < M) → (∀ i j, i < j → j < n → f i ≠ f j) → cn (fun e => p e ∧ ∃ i, i < n ∧ f i = e) M = cn (fun i => p (f i)) n := by
  intro n
  induction n with
  | zero => intro _ _; exact cn_none M (fun i _ h => by obtain ⟨-, j, hj, -⟩ := h; omega)
  | succ n ih =>
    intro hM hinj
    have e := ih (fun i hi => hM i (by omega)) (fun i j h1 h2 => hinj i j h1 (by omega))
    by_cases hp : p (f n)
    · rw [cn_1 (p := fun i => p (f i)) hp, ← e]
      refine cn_one (a := f n) M (hM n (by omega)) (fun i hi hne => ?_) ⟨hp, n, by omega, rfl⟩ ?_
      · constructor
        · rintro ⟨h1, j, hj, rfl⟩
          exact ⟨h1, j, Nat.lt_of_le_of_ne (by omega) (fun h => hne (by rw [h])), rfl⟩
        · rintro ⟨h1, j, hj, rfl⟩
          exact ⟨h1, j, by omega, rfl⟩
      · rintro ⟨-, j, hj, h2⟩
        exact hinj j n hj (by omega) h2
    · rw [cn_0 (p := fun i => p (f i)) hp, ← e]
      refine cn_congr M (fun i hi => ?_)
      constructor
      · rintro ⟨h1, j, hj, rfl⟩
        refine ⟨h1, j, Nat.lt_of_le_of_ne (by omega) (fun h => ?_), rfl⟩
        subst h
        exact hp h1
      · rintro ⟨h1, j, hj, rfl⟩
        exact ⟨h1, j, by omega, rfl⟩
/-- one put in, one taken out -/
def is {α : Type} (q : Nat) (f : Nat → α) (a : α) : Nat → α := fun t => if t < q then f t else if t = q then a else f (t - 1)
def sk {α : Type} (j : Nat) (f : Nat → α) : Nat → α := fun t => if t < j then f t else f (t + 1)
theorem is_lo {α : Type} {q t : Nat} {f : Nat → α} {a : α} (h : t < q) : is q f a t = f t := by unfold is; rw [if_pos h]
theorem is_at {α : Type} {q : Nat} {f : Nat → α} {a : α} : is q f a q = a := by unfold is; rw [if_neg (Nat.lt_irrefl q), if_pos rfl]
theorem is_hi {α : Type} {q t : Nat} {f : Nat → α} {a : α} (h : q < t) : is q f a t = f (t - 1) := by unfold is; rw [if_neg (by omega), if_neg (by omega)]
theorem sk_lo {α : Type} {j t : Nat} {f : Nat → α} (h : t < j) : sk j f t = f t := by unfold sk; rw [if_pos h]
theorem sk_hi {α : Type} {j t : Nat} {f : Nat → α} (h : j ≤ t) : sk j f t = f (t + 1) := by unfold sk; rw [if_neg (by omega)]
theorem cn_sk (p : Nat → Prop) {j : Nat} : ∀ n, j ≤ n → cn (sk j p) n + @ite _ (p j) (Classical.propDecidable _) 1 0 = cn p (n + 1) := by
  intro n
  induction n with
  | zero =>
    intro h
    have e : j = 0 := by omega
    subst e
    rfl
  | succ n ih =>
    intro h
    rcases Nat.lt_or_ge n j with h2 | h2
    · have e : j = n + 1 := by omega
      subst e
      have e2 : cn (sk (n + 1) p) (n + 1) = cn p (n + 1) := cn_congr (n + 1) (fun i hi => by rw [sk_lo hi])
      rw [e2]
      rfl
    · have e := ih h2
      have e2 : sk j p n = p (n + 1) := sk_hi h2
      by_cases hp : p (n + 1)
      · rw [cn_1 (p := sk j p) (i := n) (by rw [e2]; exact hp), cn_1 (i := n + 1) hp, ← e]
        omega
      · rw [cn_0 (p := sk j p) (i := n) (by rw [e2]; exact hp), cn_0 (i := n + 1) hp, ← e]
theorem sk_is {α : Type} {q : Nat} {f : Nat → α} {a : α} : sk q (is q f a) = f := by
  funext t
  rcases Nat.lt_or_ge t q with h | h
  · rw [sk_lo h, is_lo h]
  · rw [sk_hi h, is_hi (by omega), Nat.add_sub_cancel]
theorem cn_is (p : Nat → Prop) {q : Nat} (b : Prop) {n : Nat} (h : q ≤ n) : cn (is q p b) (n + 1) = cn p n + @ite _ b (Classical.propDecidable _) 1 0 := by
  have e := cn_sk (is q p b) n h
  rw [sk_is, is_at] at e
  exact e.symm
