/-! the steps that calls are made of -/
theorem xa_take_o (x : XS) (n j : Nat) : xa_T (xa_take x n j) = xa_T x ∧ xa_F (xa_take x n j) = xa_F x ∧ xa_L (xa_take x n j) = xa_L x ∧ xa_B (xa_take x n j) = xa_B x ∧ xa_D (xa_take x n j) = xa_D x := by
  unfold xa_take xa_msg
  split <;> exact ⟨rfl, rfl, rfl, rfl, rfl⟩
theorem xa_take_8 (x : XS) (n j : Nat) : (xa_take x n j).1 8 = if xa_at x j 0 = 0 then x.1 8 + (-1) else x.1 8 := by
  unfold xa_take xa_msg
  split <;> rfl
theorem xa_add_o (x : XS) (n a q : Nat) (w : Nat → Int32) (b : Nat) : xa_T (xa_add x n a q w b) = xa_T x ∧ xa_F (xa_add x n a q w b) = xa_F x ∧ xa_L (xa_add x n a q w b) = xa_L x ∧ xa_B (xa_add x n a q w b) = xa_B x ∧ xa_D (xa_add x n a q w b) = xa_D x ∧ (xa_add x n a q w b).1 1 = x.1 1 + 1 := by
  unfold xa_add xa_msg
  split <;> exact ⟨rfl, rfl, rfl, rfl, rfl, rfl⟩
theorem xa_add_8' (x : XS) (n a q : Nat) (w : Nat → Int32) (b : Nat) : (xa_add x n a q w b).1 8 = if w 0 = 0 then x.1 8 + 1 else x.1 8 := by
  unfold xa_add xa_msg
  split <;> rfl
theorem i32_m1 (v : Int32) : v + (-1) = v - 1 := by rw [Int32.sub_eq_add_neg]
section SP
variable {k : xa_k} {x : XS} {y y' : MS} {n M U t D : Nat} {num : Nat → Nat}
theorem si0.sent (h : si0 k x y n M U t D num) (v : Int32) : si0 k (xa_sI x 4 v) (ma_sI y 11 v) n M U t D num := by
  obtain ⟨h1, h2, h3, h4, ⟨⟨a1, a2, a3, a4, a5⟩, h6, h7, h8⟩, h9, h10, h11⟩ := h
  exact ⟨h1, h2, h3, h4, ⟨⟨a1, a2, a3, rfl, a5⟩, h6, h7, h8⟩, h9, h10, h11⟩
theorem si0.lost (h : si0 k x y n M U t D num) (v : Int32) : si0 k (xa_sI x 5 v) (ma_sI y 12 v) n M U t D num := by
  obtain ⟨h1, h2, h3, h4, ⟨⟨a1, a2, a3, a4, a5⟩, h6, h7, h8⟩, h9, h10, h11⟩ := h
  exact ⟨h1, h2, h3, h4, ⟨⟨a1, a2, a3, a4, rfl⟩, h6, h7, h8⟩, h9, h10, h11⟩
theorem si0.now (h : si0 k x y n M U t D num) (v : Int32) : si0 k (xa_sI x 0 v) (ma_sI y 1 v) n M U t D num := by
  obtain ⟨h1, h2, h3, h4, ⟨⟨a1, a2, a3, a4, a5⟩, h6, h7, h8⟩, h9, h10, h11⟩ := h
  exact ⟨h1, h2, h3, h4, ⟨⟨rfl, a2, a3, a4, a5⟩, h6, h7, h8⟩, h9, h10, h11⟩
theorem si0.part (h : si0 k x y n M U t D num) (v : Int32) : si0 k (xa_sI x 2 v) (ma_sI y 5 v) n M U t D num := by
  obtain ⟨h1, h2, h3, h4, ⟨⟨a1, a2, a3, a4, a5⟩, h6, h7, h8⟩, h9, h10, h11⟩ := h
  exact ⟨h1, h2, h3, h4, ⟨⟨a1, rfl, a3, a4, a5⟩, h6, h7, h8⟩, h9, h10, h11⟩
theorem si0.down (h : si0 k x y n M U t D num) (v : Int32) : si0 k (xa_sI x 3 v) (ma_sI y 6 v) n M U t D num := by
  obtain ⟨h1, h2, h3, h4, ⟨⟨a1, a2, a3, a4, a5⟩, h6, h7, h8⟩, h9, h10, h11⟩ := h
  exact ⟨h1, h2, h3, h4, ⟨⟨a1, a2, rfl, a4, a5⟩, h6, h7, h8⟩, h9, h10, h11⟩
theorem si0.draw (h : si0 k x y n M U t D num) (v : Int64) : si0 k (xa_sD x v) (ma_sD y v) n M U t D num := by
  obtain ⟨h1, h2, h3, h4, ⟨h5, ⟨a1, a2, a3, a4⟩, h7, h8⟩, h9, h10, h11⟩ := h
  exact ⟨h1, h2, h3, h4, ⟨h5, ⟨a1, a2, a3, rfl⟩, h7, h8⟩, h9, h10, h11⟩
theorem si0.noise (h : si0 k x y n M U t D num) {a b c : Nat} (ha : a ≤ 1000) (hb : b ≤ 1000) (hc : c ≤ 1000) (v : Int64) : si0 k (xa_sD (xa_sI (xa_sI (xa_sI x 12 (nI a)) 13 (nI b)) 14 (nI c)) v) (ma_sD (ma_sI (ma_sI (ma_sI y 7 (nI a)) 8 (nI b)) 9 (nI c)) v) n M U t D num := by
  obtain ⟨h1, h2, h3, h4, ⟨h5, -, -, h8⟩, h9, h10, h11⟩ := h
  exact ⟨h1, h2, h3, h4, ⟨h5, ⟨rfl, rfl, rfl, rfl⟩, ⟨a, b, c, ha, hb, hc, rfl, rfl, rfl⟩, h8⟩, h9, h10, h11⟩
theorem si0.delay (h : si0 k x y n M U t D num) {j : Nat} (v : Int32) : si0 k (xa_sL x (upd (xa_L x) j v)) (ma_sA y 9 (upd (ma_A y 9) j v)) n M U t D num := by
  obtain ⟨h1, h2, h3, h4, ⟨h5, h6, h7, h8⟩, h9, h10, h11⟩ := h
  refine ⟨h1, h2, h3, h4, ⟨h5, h6, h7, fun i hi => ?_⟩, h9, h10, h11⟩
  show upd (xa_L x) j v i = upd (ma_A y 9) j v i
  by_cases e : i = j
  · subst e; rw [pk_us, pk_us]
  · rw [pk_un e, pk_un e]; exact h8 i hi
/-- an event less -/
theorem si0.take {j : Nat} (h : si0 k x y n M U t D num) (hj : j < n) : si0 k (xa_take x n j) (ma_sI (ma_sA y 6 (upd (ma_A y 6) (num j) 0)) 10 (if xa_at x j 0 = 0 then y.1 10 - 1 else y.1 10)) (n - 1) M U t D (sk j num) := by
  obtain ⟨h1, h2, h3, h4, h5, h6, h7, h8⟩ := h
  obtain ⟨o1, o2, o3, o4, o5⟩ := xa_take_o x n j
  have oI := xa_take_I x n j
  have hn := h1.2.1
  have hA : si_A k (xa_P (xa_take x n j)) (n - 1) (xa_at (xa_take x n j)) (xa_bb (xa_take x n j)) (ma_sI (ma_sA y 6 (upd (ma_A y 6) (num j) 0)) 10 (if xa_at x j 0 = 0 then y.1 10 - 1 else y.1 10)) M U (sk j num) := by
    rw [xa_take_P]
    refine (h3.take hj (y' := ma_sI (ma_sA y 6 (upd (ma_A y 6) (num j) 0)) 10 (if xa_at x j 0 = 0 then y.1 10 - 1 else y.1 10)) rfl (fun i _ hi => if_neg hi)).cg (fun t ht i _ => ?_) (fun t ht => ?_)
    · rw [(xa_take_at x ht).1]
    · exact (xa_take_at x ht).2
  refine ⟨h1.take hj, ⟨by rw [oI 1 (by decide) (by decide)]; exact h2.1, h2.2⟩, hA, ?_, ?_, ?_, ?_, ?_⟩
  · have e : cn (fun i => xa_at (xa_take x n j) i 0 = 0) (n - 1) = cn (sk j (fun i => xa_at x i 0 = 0)) (n - 1) := cn_congr (n - 1) (fun i hi => by rw [(xa_take_at x hi).1, sk_sx, sk_sx])
    have e2 := cn_sk (fun i => xa_at x i 0 = 0) (j := j) (n - 1) (by omega)
    have e3 : n - 1 + 1 = n := by omega
    rw [e3] at e2
    obtain ⟨c1, c2, c3⟩ := h4
    unfold si_C
    rw [xa_take_8, e]
    by_cases hz : xa_at x j 0 = 0
    · rw [if_pos hz] at e2
      rw [if_pos hz, if_pos hz]
      refine ⟨?_, by omega, ?_⟩
      · rw [c1, ← e2]; exact pk_m1 _
      · show y.1 10 - 1 = _
        rw [c3, i32_m1]
    · rw [if_neg hz] at e2
      rw [if_neg hz, if_neg hz]
      refine ⟨?_, by omega, c3⟩
      rw [c1, ← e2]; rfl
  · obtain ⟨⟨a1, a2, a3, a4, a5⟩, ⟨b1, b2, b3, b4⟩, b5, b6⟩ := h5
    unfold si_S
    rw [oI 0 (by decide) (by decide), oI 2 (by decide) (by decide), oI 3 (by decide) (by decide), oI 4 (by decide) (by decide), oI 5 (by decide) (by decide), oI 12 (by decide) (by decide), oI 13 (by decide) (by decide), oI 14 (by decide) (by decide), o5, o3]
    exact ⟨⟨a1, a2, a3, a4, a5⟩, ⟨b1, b2, b3, b4⟩, b5, b6⟩
  · unfold si_T
    rw [oI 6 (by decide) (by decide), o1]
    exact h6
  · rw [xa_take_P, o4]
    exact h7
  · unfold si_H
    rw [oI 9 (by decide) (by decide), oI 10 (by decide) (by decide), oI 11 (by decide) (by decide), o2]
    exact h8
/-- an event more -/
theorem si0.add {a q b : Nat} {w : Nat → Int32} (h : si0 k x y n M U t D num) (hn : n < 232) (hf : a ∉ (xa_P x).1) (hq : q ≤ n) (hb4 : ∀ j, q ≤ j → j < n → w 3 < xa_at x j 3) (haf : ∀ j, q = j + 1 → ¬ w 3 < xa_at x j 3)
    (hun : ∀ j, j < n → xa_at x j 0 = w 0 → ¬ w 0 = 0 → ¬ xa_at x j 1 = w 1) (hnew : si_ev k (xa_P x) w b y' (M + 1) U M)
    (ho : ∀ i, i < 7 → ∀ e, e < M → ma_A y' i e = ma_A y i e) (ho2 : ∀ i, 7 ≤ i → ma_A y' i = ma_A y i) (hi : ∀ i, i ≠ 2 → i ≠ 10 → y'.1 i = y.1 i) (h2 : y'.1 2 = nI (M + 1)) (hD : ma_D y' = ma_D y) (h10 : y'.1 10 = if w 0 = 0 then y.1 10 + 1 else y.1 10) (hc : w 0 = 0 → x.1 8 < 200) :
    si0 k (xa_add x n a q w b) y' (n + 1) (M + 1) U t D (is q num M) := by
  obtain ⟨h1, hI, h3, h4, h5, h6, h7, h8⟩ := h
  obtain ⟨o1, o2, o3, o4, o5, o6⟩ := xa_add_o x n a q w b
  have oI := xa_add_I x n a q w b
  have hext : xa_ext (xa_P x) (xa_P (xa_add x n a q w b)) := xa_add_ext hf
  have hA : si_A k (xa_P (xa_add x n a q w b)) (n + 1) (xa_at (xa_add x n a q w b)) (xa_bb (xa_add x n a q w b)) y' (M + 1) U (is q num M) := by
    refine (h3.add (P' := xa_P (xa_add x n a q w b)) (y' := y') (U' := U) (w := w) (bb := b) hq (fun j hj => ?_) (hnew.to hext (Nat.le_refl _) (Nat.le_refl _) (fun _ _ => rfl) (fun _ _ => rfl)) (fun e he h9 => by rw [← ho 6 (by decide) e he]; exact h9) hb4 haf hun).cg (fun i hi => (xa_add_at h1 hf hq hi).1) (fun i hi => (xa_add_at h1 hf hq hi).2)
    exact (h3.1 j hj).to hext (Nat.le_succ M) (Nat.le_refl U) (fun i hi9 => ho i hi9 _ (h3.1 j hj).1.1) (fun i _ => by rw [ho2 7 (by decide)])
  refine ⟨xa_add_R0 h1 hn hf hq, ⟨?_, h2, ?_⟩, hA, ?_, ?_, ?_, ?_, ?_⟩
  · rw [o6, hI.1]; exact nI_1 M
  · rw [hi 3 (by decide) (by decide)]; exact hI.2.2
  · have e : cn (fun i => xa_at (xa_add x n a q w b) i 0 = 0) (n + 1) = cn (is q (fun i => xa_at x i 0 = 0) (w 0 = 0)) (n + 1) := cn_congr (n + 1) (fun i hi => by
      rw [(xa_add_at h1 hf hq hi).1 0 (by decide)]
      rcases Nat.lt_trichotomy i q with h9 | h9 | h9
      · rw [is_lo h9, is_lo h9]
      · subst h9; rw [is_at, is_at]
      · rw [is_hi h9, is_hi h9])
    have e2 := cn_is (fun i => xa_at x i 0 = 0) (w 0 = 0) hq
    obtain ⟨c1, c2, c3⟩ := h4
    unfold si_C
    rw [xa_add_8', e, e2, h10]
    by_cases hz : w 0 = 0
    · rw [if_pos hz, if_pos hz, if_pos hz]
      have h9 := hc hz
      rw [c1] at h9
      have h99 := (nI_ltI (b := 200) (by omega) (by decide)).mp h9
      refine ⟨?_, by omega, by rw [c3]⟩
      rw [c1]; exact nI_1 _
    · rw [if_neg hz, if_neg hz, if_neg hz]
      exact ⟨c1, by omega, c3⟩
  · obtain ⟨⟨a1, a2, a3, a4, a5⟩, ⟨b1, b2, b3, b4⟩, b5, b6⟩ := h5
    unfold si_S
    rw [oI 0 (by decide) (by decide) (by decide), oI 2 (by decide) (by decide) (by decide), oI 3 (by decide) (by decide) (by decide), oI 4 (by decide) (by decide) (by decide), oI 5 (by decide) (by decide) (by decide), oI 12 (by decide) (by decide) (by decide), oI 13 (by decide) (by decide) (by decide), oI 14 (by decide) (by decide) (by decide), o5, o3, hD, hi 1 (by decide) (by decide), hi 5 (by decide) (by decide), hi 6 (by decide) (by decide), hi 11 (by decide) (by decide), hi 12 (by decide) (by decide), hi 7 (by decide) (by decide), hi 8 (by decide) (by decide), hi 9 (by decide) (by decide), ho2 9 (by decide)]
    exact ⟨⟨a1, a2, a3, a4, a5⟩, ⟨b1, b2, b3, b4⟩, b5, b6⟩
  · unfold si_T
    rw [oI 6 (by decide) (by decide) (by decide), o1, hi 4 (by decide) (by decide), ho2 8 (by decide)]
    exact h6
  · rw [o4]
    obtain ⟨al, af, b1, b2, b3⟩ := h7
    refine ⟨al, af, xa_isB_ext hext b1, b2, ?_⟩
    rw [hi 14 (by decide) (by decide), ho2 7 (by decide)]
    rcases b3 with b3 | ⟨e, bg, e1, e2, e3, e4, e5, e6⟩
    · exact Or.inl b3
    · exact Or.inr ⟨e, bg, by omega, e2, by rw [ho 5 (by decide) e e1]; exact e3, by rw [ho 4 (by decide) e e1]; exact e4, e5, e6⟩
  · obtain ⟨d1, d2, d3⟩ := h8
    unfold si_H
    rw [oI 9 (by decide) (by decide) (by decide), oI 10 (by decide) (by decide) (by decide), oI 11 (by decide) (by decide) (by decide), o2, hi 13 (by decide) (by decide), ho2 11 (by decide), ho2 10 (by decide)]
    refine ⟨d1, d2, fun m hm hm2 => ?_⟩
    obtain ⟨e, e1, e2, e3, e4, e5, e6⟩ := d3 m hm hm2
    exact ⟨e, by omega, e2, e3, by rw [ho 0 (by decide) e e1]; exact e4, e5, by rw [ho 3 (by decide) e e1]; exact e6⟩
/-- room -/
theorem si0.rm1 (h : si0 k x y n M U t D num) (h8 : x.1 8 < 200) : n < 232 := by
  have h1 := h.2.2.1.room
  obtain ⟨c1, c2, c3⟩ := h.2.2.2.1
  rw [c1] at h8
  have := (nI_ltI (b := 200) (by omega) (by decide)).mp h8
  omega
theorem si0.rm2 (h : si0 k x y n M U t D num) (h8 : x.1 8 + 1 < 200) : n + 1 < 232 := by
  have h1 := h.2.2.1.room
  obtain ⟨c1, c2, c3⟩ := h.2.2.2.1
  rw [c1, nI_1] at h8
  have := (nI_ltI (b := 200) (by omega) (by decide)).mp h8
  omega
theorem si0.rm3 (h : si0 k x y n M U t D num) {s : Nat} {kd ep : Int32} (hs : s < 2) (hkd : kd = (if s = 0 then 32 else 48)) (hep : ¬ ep < 0 ∧ ¬ 15 < ep) (hno : ∀ j, j < n → ¬ xa_mt x j kd ep) : n < 232 := by
  obtain ⟨i, hi, e⟩ := xa_16 hep.1 hep.2
  have h1 := h.2.2.1.room1 hs hkd hi e hno
  have c2 := h.2.2.2.1.2.1
  omega
end SP
