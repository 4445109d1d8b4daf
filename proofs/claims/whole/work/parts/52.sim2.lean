/-! how many events there can be -/
section SR
variable {k : xa_k} {P P' : List Nat × (Nat → va_E)} {n M U U' q : Nat} {v v' : Nat → Nat → Int32} {b b' : Nat → Nat} {y y' : MS} {num : Nat → Nat}
/-- a timer of code c stands ahead of place i: 0 .. 15 the alarms, 16 .. 31 the syncs -/
def si_hit (v : Nat → Nat → Int32) (i c : Nat) : Prop := ∃ j, j < i ∧ v j 0 = (if c < 16 then 32 else 48) ∧ v j 1 = nI (c % 16)
theorem si_A.cnt (h : si_A k P n v b y M U num) : ∀ i, i ≤ n → i = cn (fun j => v j 0 = 0) i + cn (si_hit v i) 32 := by
  intro i
  induction i with
  | zero =>
    intro _
    rw [cn_none (p := si_hit v 0) 32 (fun c _ hc => by obtain ⟨j, hj, -⟩ := hc; omega)]
    rfl
  | succ i ih =>
    intro hi
    have e := ih (by omega)
    have hev := h.1 i (by omega)
    obtain ⟨ep, hep, eep⟩ := hev.2.2.2.1
    have hkd : v i 0 = 0 ∨ ∃ s, s < 2 ∧ v i 0 = (if s = 0 then 32 else 48) := by
      rcases hev.2.1 with ⟨-, h2⟩ | ⟨-, h2⟩ | ⟨-, h2⟩
      · exact Or.inl h2
      · exact Or.inr ⟨0, by decide, h2⟩
      · exact Or.inr ⟨1, by decide, h2⟩
    rcases hkd with h0 | ⟨s, hs, hkd⟩
    · rw [cn_1 (p := fun j => v j 0 = 0) h0]
      have e2 : cn (si_hit v (i + 1)) 32 = cn (si_hit v i) 32 := cn_congr 32 (fun c hc => by
        constructor
        · rintro ⟨j, hj, h1, h2⟩
          refine ⟨j, Nat.lt_of_le_of_ne (by omega) (fun e3 => ?_), h1, h2⟩
          subst e3
          rw [h0] at h1
          split at h1 <;> exact absurd h1 (by decide)
        · rintro ⟨j, hj, h1, h2⟩
          exact ⟨j, by omega, h1, h2⟩)
      rw [e2]
      omega
    · have hne : ¬ v i 0 = 0 := by rw [hkd]; split <;> decide
      rw [cn_0 (p := fun j => v j 0 = 0) hne]
      have hc0 : (if 16 * s + ep < 16 then (32 : Int32) else 48) = (if s = 0 then 32 else 48) := by
        rcases (show s = 0 ∨ s = 1 by omega) with rfl | rfl
        · rw [if_pos (by omega), if_pos rfl]
        · rw [if_neg (by omega), if_neg (by decide)]
      have hm0 : (16 * s + ep) % 16 = ep := by omega
      have e2 : cn (si_hit v (i + 1)) 32 = cn (si_hit v i) 32 + 1 := by
        refine cn_one (a := 16 * s + ep) 32 (by omega) (fun c hc hcne => ?_) ⟨i, Nat.lt_succ_self i, by rw [hc0, hkd], by rw [hm0, eep]⟩ ?_
        · constructor
          · rintro ⟨j, hj, h1, h2⟩
            refine ⟨j, Nat.lt_of_le_of_ne (by omega) (fun e3 => ?_), h1, h2⟩
            subst e3
            rw [eep] at h2
            have h3 : ep = c % 16 := (nI_eq (by omega) (by omega)).mp h2
            rw [hkd] at h1
            rcases (show s = 0 ∨ s = 1 by omega) with rfl | rfl
            · rw [if_pos rfl] at h1
              by_cases h4 : c < 16
              · omega
              · rw [if_neg h4] at h1; exact absurd h1 (by decide)
            · rw [if_neg (by decide)] at h1
              by_cases h4 : c < 16
              · rw [if_pos h4] at h1; exact absurd h1 (by decide)
              · omega
          · rintro ⟨j, hj, h1, h2⟩
            exact ⟨j, by omega, h1, h2⟩
        · rintro ⟨j, hj, h1, h2⟩
          rw [hc0] at h1
          rw [hm0] at h2
          exact h.2.2.2 j i hj (by omega) (h1.trans hkd.symm) (by rw [h1, ← hkd]; exact hne) (h2.trans eep.symm)
      rw [e2]
      omega
theorem si_A.room (h : si_A k P n v b y M U num) : n ≤ cn (fun j => v j 0 = 0) n + 32 := by
  have h1 := h.cnt n (Nat.le_refl n)
  have h2 := cn_le (si_hit v n) 32
  omega
theorem si_A.room1 (h : si_A k P n v b y M U num) {s i : Nat} {kd ep : Int32} (hs : s < 2) (hkd : kd = (if s = 0 then 32 else 48)) (hi : i < 16) (hep : ep = nI i) (hno : ∀ j, j < n → ¬ (v j 0 = kd ∧ v j 1 = ep)) : n ≤ cn (fun j => v j 0 = 0) n + 31 := by
  have h1 := h.cnt n (Nat.le_refl n)
  have h2 : cn (si_hit v n) 32 < 32 := by
    refine cn_miss (a := 16 * s + i) 32 (by omega) ?_
    rintro ⟨j, hj, h3, h4⟩
    refine hno j hj ⟨?_, ?_⟩
    · rw [h3, hkd]
      rcases (show s = 0 ∨ s = 1 by omega) with rfl | rfl
      · rw [if_pos (by omega), if_pos rfl]
      · rw [if_neg (by omega), if_neg (by decide)]
    · rw [h4, hep, show (16 * s + i) % 16 = i by omega]
  omega
end SR
/-! what stands where, behind a take and behind an add -/
abbrev xa_bb (x : XS) (j : Nat) : Nat := xa_b (xa_P x) (xa_ad x j)
theorem xa_take_E (x : XS) (n j : Nat) : xa_E (xa_take x n j) = xa_del (xa_E x) n j := (xa_msg_E (xa_sE (xa_sI x 7 (nI (n - 1))) (xa_del (xa_E x) n j)) (xa_at x j 0) (-1)).1
theorem xa_take_ad (x : XS) {n j t : Nat} (ht : t < n - 1) : xa_ad (xa_take x n j) t = sk j (xa_ad x) t := by
  show (xa_E (xa_take x n j) t).getD 0 = _
  rw [xa_take_E, xa_del_lo ht]
  by_cases h : j ≤ t
  · rw [if_pos h, sk_hi h]; rfl
  · rw [if_neg h, sk_lo (by omega)]; rfl
theorem xa_take_at (x : XS) {n j t : Nat} (ht : t < n - 1) : xa_at (xa_take x n j) t = sk j (xa_at x) t ∧ xa_bb (xa_take x n j) t = sk j (xa_bb x) t := by
  have e := xa_take_ad x (j := j) ht
  rw [sk_sx] at e
  rw [sk_sx, sk_sx]
  constructor
  · funext i
    show xa_v (xa_P (xa_take x n j)) (xa_ad (xa_take x n j) t) i = _
    rw [xa_take_P, e]; rfl
  · show xa_b (xa_P (xa_take x n j)) (xa_ad (xa_take x n j) t) = _
    rw [xa_take_P, e]
theorem xa_add_P (x : XS) (n a q : Nat) (w : Nat → Int32) (b : Nat) : xa_P (xa_add x n a q w b) = ((xa_P x).1 ++ [a], va_up (xa_P x).2 a (xa_ev w b)) ∧ xa_E (xa_add x n a q w b) = xa_ins (xa_E x) n q a := by
  obtain ⟨e1, e2, -⟩ := xa_msg_E (xa_sI (xa_sE (xa_sP (xa_sI x 1 (x.1 1 + 1)) ((xa_P x).1 ++ [a], va_up (xa_P x).2 a (xa_ev w b))) (xa_ins (xa_E x) n q a)) 7 (nI (n + 1))) (w 0) 1
  exact ⟨e2, e1⟩
theorem xa_add_ext {x : XS} {n a q : Nat} {w : Nat → Int32} {b : Nat} (hf : a ∉ (xa_P x).1) : xa_ext (xa_P x) (xa_P (xa_add x n a q w b)) := by
  rw [(xa_add_P x n a q w b).1]
  exact xa_ext_up hf
theorem xa_add_at {x : XS} {n a q t : Nat} {w : Nat → Int32} {b : Nat} (h0 : xa_R0 x n) (hf : a ∉ (xa_P x).1) (hq : q ≤ n) (ht : t < n + 1) : (∀ i, i < 5 → xa_at (xa_add x n a q w b) t i = is q (xa_at x) w t i) ∧ xa_bb (xa_add x n a q w b) t = is q (xa_bb x) b t := by
  obtain ⟨eP, eE⟩ := xa_add_P x n a q w b
  have hE : xa_ad (xa_add x n a q w b) t = (xa_ins (xa_E x) n q a t).getD 0 := by
    show (xa_E (xa_add x n a q w b) t).getD 0 = _
    rw [eE]
  have hold : ∀ j, j < n → xa_v (xa_P (xa_add x n a q w b)) (xa_ad x j) = xa_at x j ∧ xa_b (xa_P (xa_add x n a q w b)) (xa_ad x j) = xa_bb x j := by
    intro j hj
    have h1 := xa_okE_up (e := xa_ev w b) (h0.get hj).2 hf
    rw [eP]
    exact ⟨h1.2.1, h1.2.2⟩
  show (∀ i, i < 5 → xa_v (xa_P (xa_add x n a q w b)) (xa_ad (xa_add x n a q w b) t) i = _) ∧ xa_b (xa_P (xa_add x n a q w b)) (xa_ad (xa_add x n a q w b) t) = _
  rw [hE]
  unfold xa_ins
  rcases Nat.lt_trichotomy t q with h | h | h
  · rw [if_pos h, is_lo h, is_lo h]
    have e : (xa_E x t).getD 0 = xa_ad x t := rfl
    rw [e, (hold t (by omega)).1, (hold t (by omega)).2]
    exact ⟨fun _ _ => rfl, rfl⟩
  · subst h
    rw [if_neg (Nat.lt_irrefl t), if_pos rfl, is_at, is_at]
    have e : (some a : Option Nat).getD 0 = a := rfl
    have h1 := xa_okE_of (P := xa_P (xa_add x n a t w b)) (a := a) (v := w) (b := b) (by rw [eP]; exact ⟨List.mem_append_right _ List.mem_cons_self, va_up_self _ _ _⟩)
    rw [e]
    exact h1.2
  · rw [if_neg (by omega), if_neg (by omega), if_pos (by omega), is_hi h, is_hi h]
    have e : (xa_E x (t - 1)).getD 0 = xa_ad x (t - 1) := rfl
    rw [e, (hold (t - 1) (by omega)).1, (hold (t - 1) (by omega)).2]
    exact ⟨fun _ _ => rfl, rfl⟩
/-! the parts of what holds between the class and the reference -/
def si_C (x : XS) (y : MS) (n : Nat) : Prop := x.1 8 = nI (cn (fun j => xa_at x j 0 = 0) n) ∧ cn (fun j => xa_at x j 0 = 0) n ≤ 200 ∧ y.1 10 = x.1 8
def si_S (x : XS) (y : MS) : Prop := (x.1 0 = y.1 1 ∧ x.1 2 = y.1 5 ∧ x.1 3 = y.1 6 ∧ x.1 4 = y.1 11 ∧ x.1 5 = y.1 12) ∧ (x.1 12 = y.1 7 ∧ x.1 13 = y.1 8 ∧ x.1 14 = y.1 9 ∧ xa_D x = ma_D y) ∧ (∃ a b c, a ≤ 1000 ∧ b ≤ 1000 ∧ c ≤ 1000 ∧ x.1 12 = nI a ∧ x.1 13 = nI b ∧ x.1 14 = nI c) ∧ (∀ j, j < 256 → xa_L x j = ma_A y 9 j)
def si_T (x : XS) (y : MS) (t : Nat) : Prop := x.1 6 = nI t ∧ y.1 4 = nI t ∧ t ≤ 2048 ∧ (∀ j, j < 2048 → fits .byte (.int (xa_T x j)) = true) ∧ ∀ j, j < t → xa_T x j &&& 255 = ma_A y 8 j
def si_B (k : xa_k) (P : List Nat × (Nat → va_E)) (B : Nat) (y : MS) (M U : Nat) : Prop := ∃ al af, xa_isB k P B al af ∧ al ≤ 2048 ∧ ((y.1 14 = -1 ∧ al = 0) ∨ ∃ e bg, e < M ∧ y.1 14 = nI e ∧ ma_A y 5 e = nI al ∧ ma_A y 4 e = nI bg ∧ bg + al ≤ U ∧ ∀ i, i < al → af i &&& 255 = ma_A y 7 (bg + i))
def si_H (x : XS) (y : MS) (M D : Nat) : Prop := (x.1 9 = nI (D % 32) ∧ x.1 10 = nI (min D 32) ∧ x.1 11 = nI D ∧ y.1 13 = nI D) ∧ (∀ m, m < 32 → ∃ e, e < 1700 ∧ ma_A y 11 m = nI e) ∧
  (∀ m, m < 32 → m < D → ∃ e, e < M ∧ ma_A y 11 m = nI e ∧ xa_F x ((m + 1) % 32 * 4) = ma_A y 10 m ∧ xa_F x ((m + 1) % 32 * 4 + 1) = ma_A y 0 e ∧ xa_F x ((m + 1) % 32 * 4 + 2) = nI e ∧ xa_F x ((m + 1) % 32 * 4 + 3) = ma_A y 3 e)
def si0 (k : xa_k) (x : XS) (y : MS) (n M U t D : Nat) (num : Nat → Nat) : Prop :=
  xa_R0 x n ∧ (x.1 1 = nI M ∧ y.1 2 = nI M ∧ y.1 3 = nI U) ∧ si_A k (xa_P x) n (xa_at x) (xa_bb x) y M U num ∧ si_C x y n ∧ si_S x y ∧ si_T x y t ∧ si_B k (xa_P x) (xa_B x) y M U ∧ si_H x y M D
theorem si0.thr {k : xa_k} {x : XS} {y : MS} {n M U t D : Nat} {num : Nat → Nat} (h : si0 k x y n M U t D num) (v : Int32) : si0 k x (ma_sI y 0 v) n M U t D num := h
/-- what holds behind c calls -/
def si (k : xa_k) (x : XS) (y : MS) (c : Nat) : Prop := ∃ n M U t D num, si0 k x y n M U t D num ∧ M ≤ 2 * c ∧ U + t ≤ 8 * c ∧ D ≤ 232 * c
/-! messages and timers found -/
section SF
variable {k : xa_k} {x : XS} {y : MS} {n M U t D : Nat} {num : Nat → Nat}
theorem si0.cnt (h : si0 k x y n M U t D num) {j : Nat} (hj : j < n) : ma_bef y (num j) M = xa_cnt x j := by
  rw [h.2.2.1.bef hj, xa_cnt_cn]
theorem si0.isM (h : si0 k x y n M U t D num) {k9 : Int32} {j : Nat} (hj : xa_isM x n k9 j) : ma_isM y M k9 (num j) := by
  have h1 := h.2.2.1.1 j hj.1
  exact ⟨h1.1.1, ⟨h1.1.2.1, h1.m0.mp hj.2.1⟩, by rw [h.cnt hj.1]; exact hj.2.2.symm⟩
theorem si0.isX (h : si0 k x y n M U t D num) {k9 : Int32} {e : Nat} (he : ma_isM y M k9 e) : ∃ j, xa_isM x n k9 j ∧ num j = e := by
  obtain ⟨j, hj, ej⟩ := h.2.2.1.2.1 e he.1 he.2.1.1
  subst ej
  exact ⟨j, ⟨hj, (h.2.2.1.1 j hj).m0.mpr he.2.1.2, by rw [← h.cnt hj]; exact he.2.2.symm⟩, rfl⟩
theorem si0.one (h : si0 k x y n M U t D num) {k9 : Int32} {i j : Nat} (hi : xa_isM x n k9 i) (hj : xa_isM x n k9 j) : i = j := by
  have hn := h.1.2.1
  have e := hi.2.2.symm.trans hj.2.2
  rw [xa_cnt_cn, xa_cnt_cn] at e
  have c1 := cn_le (fun t => xa_at x t 0 = 0) i
  have c2 := cn_le (fun t => xa_at x t 0 = 0) j
  have b1 := hi.1
  have b2 := hj.1
  have e2 := (nI_eq (by omega) (by omega)).mp e
  rcases Nat.lt_trichotomy i j with h2 | h2 | h2
  · have := cn_lt (p := fun t => xa_at x t 0 = 0) h2 hi.2.1; omega
  · exact h2
  · have := cn_lt (p := fun t => xa_at x t 0 = 0) h2 hj.2.1; omega
theorem si0.nox (h : si0 k x y n M U t D num) {k9 : Int32} {j : Nat} (hn : xa_nom x n k9) (hj : xa_isM x n k9 j) : False := by
  have h32 := h.1.2.1
  have b1 := hj.1
  have c1 := cn_le (fun t => xa_at x t 0 = 0) j
  have c3 := cn_le (fun t => xa_at x t 0 = 0) n
  rcases hn with h1 | h1 | h1
  · rw [hj.2.2, xa_cnt_cn] at h1
    exact nI_pos (by omega) h1
  · rw [h.2.2.2.1.1, hj.2.2, xa_cnt_cn] at h1
    have c2 := cn_lt (p := fun t => xa_at x t 0 = 0) hj.1 hj.2.1
    have := (nI_leI (by omega) (by omega)).mp h1
    omega
  · exact h1 j hj.1 hj.2.1 hj.2.2
theorem si0.nom (h : si0 k x y n M U t D num) {k9 : Int32} {e : Nat} (hn : xa_nom x n k9) (he : ma_isM y M k9 e) : False := by
  obtain ⟨j, hj, -⟩ := h.isX he
  exact h.nox hn hj
theorem si0.noy (h : si0 k x y n M U t D num) {k9 : Int32} {j : Nat} (hn : ma_nom y M k9) (hj : xa_isM x n k9 j) : False := by
  have h1 := h.isM hj
  exact hn _ h1.1 h1.2.1 h1.2.2
theorem si0.same (h : si0 k x y n M U t D num) {k9 : Int32} {j e : Nat} (hj : xa_isM x n k9 j) (he : ma_isM y M k9 e) : e = num j := by
  obtain ⟨i, hi, ei⟩ := h.isX he
  rw [← ei, h.one hi hj]
theorem si0.mt (h : si0 k x y n M U t D num) {j : Nat} (hj : j < n) {s kd ep : Int32} (hs : (s = 1 ∧ kd = 32) ∨ (s = 2 ∧ kd = 48)) : xa_mt x j kd ep ↔ ma_mt y (num j) s ep := by
  have h1 := h.2.2.1.1 j hj
  unfold xa_mt ma_mt
  rw [h1.1.2.2.2.2.1]
  have hk : xa_at x j 0 = kd ↔ ma_A y 1 (num j) = s := by
    rcases hs with ⟨rfl, rfl⟩ | ⟨rfl, rfl⟩ <;> rcases h1.2.1 with ⟨h2, h3⟩ | ⟨h2, h3⟩ | ⟨h2, h3⟩ <;> rw [h2, h3] <;> decide
  rw [hk]
  exact ⟨fun h => ⟨h1.1.2.1, h.1, h.2⟩, fun h => ⟨h.2.1, h.2.2⟩⟩
end SF
