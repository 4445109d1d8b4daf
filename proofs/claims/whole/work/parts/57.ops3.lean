/-! timers, links, sets, noise -/
section SO
variable {k : xa_k} {x : XS} {y y' : MS} {n M U t D c : Nat} {num : Nat → Nat}
theorem si0.uni (h : si0 k x y n M U t D num) {i j : Nat} (hi : i < n) (hj : j < n) {kd ep : Int32} (h0 : ¬ kd = 0) (h1 : xa_mt x i kd ep) (h2 : xa_mt x j kd ep) : i = j := by
  have h4 := h.2.2.1.2.2.2
  rcases Nat.lt_trichotomy i j with h3 | h3 | h3
  · exact absurd (h1.2.trans h2.2.symm) (h4 i j h3 hj (h1.1.trans h2.1.symm) (by rw [h1.1]; exact h0))
  · exact h3
  · exact absurd (h2.2.trans h1.2.symm) (h4 j i h3 hi (h2.1.trans h1.1.symm) (by rw [h2.1]; exact h0))
theorem si0.drp {s kd ep r r2 : Int32} {u : XS} (h : si0 k x y n M U t D num) (hs : (s = 1 ∧ kd = 32) ∨ (s = 2 ∧ kd = 48)) (hx : xa_drp x n kd ep r u) (hy : ma_drp y M s ep r2 y') :
    r2 = r ∧ y'.1 = y.1 ∧ ∃ n' num', ((r = 0 ∧ n' = n ∧ u = x) ∨ (r = 1 ∧ 0 < n ∧ n' = n - 1 ∧ ∃ j, j < n ∧ xa_mt x j kd ep ∧ u = xa_take x n j)) ∧ si0 k u y' n' M U t D num' ∧ ∀ j, j < n' → ¬ xa_mt u j kd ep := by
  have hk0 : ¬ kd = 0 := by rcases hs with ⟨-, rfl⟩ | ⟨-, rfl⟩ <;> decide
  rcases hx with ⟨rfl, rfl, hx⟩ | ⟨j, hj, rfl, hm, hf, rfl⟩
  · rcases hy with ⟨rfl, rfl, hy⟩ | ⟨b, hb, -, hmb, -, -⟩
    · exact ⟨rfl, rfl, n, num, Or.inl ⟨rfl, rfl, rfl⟩, h, hx⟩
    · obtain ⟨i, hi, rfl⟩ := h.2.2.1.2.1 b hb hmb.1
      exact absurd ((h.mt hi hs).mpr hmb) (hx i hi)
  · rcases hy with ⟨-, -, hy⟩ | ⟨b, hb, rfl, hmb, -, rfl⟩
    · exact absurd ((h.mt hj hs).mp hm) (hy _ (h.2.2.1.1 j hj).1.1)
    · obtain ⟨i, hi, rfl⟩ := h.2.2.1.2.1 b hb hmb.1
      obtain rfl := h.uni hi hj hk0 ((h.mt hi hs).mpr hmb) hm
      have ht := h.take hj
      rw [if_neg (by rw [hm.1]; exact hk0), ma_sI_id (y := ma_sA y 6 (upd (ma_A y 6) (num i) 0)) (i := 10) (v := y.1 10) rfl] at ht
      refine ⟨rfl, rfl, n - 1, sk i num, Or.inr ⟨rfl, by omega, rfl, i, hj, hm, rfl⟩, ht, fun q hq hmq => ?_⟩
      have e : xa_at (xa_take x n i) q = xa_at x (sx i q) := by rw [(xa_take_at x hq).1, sk_sx]
      have hmq' : xa_mt x (sx i q) kd ep := ⟨by rw [← e]; exact hmq.1, by rw [← e]; exact hmq.2⟩
      exact sx_ne i q (h.uni (sx_lt hq) hj hk0 hmq' hm)
theorem si0.put {s kd ep ti : Int32} {u : XS} {i : Nat} (h : si0 k x y n M U t D num) (hs : (s = 1 ∧ kd = 32) ∨ (s = 2 ∧ kd = 48)) (hn : n < 232) (hi : i < 16) (hep : ep = nI i) (hno : ∀ j, j < n → ¬ xa_mt x j kd ep) (hx : xa_put k x n kd ep ti u) :
    ∃ num', si0 k u (ma_ev y M (y.1 1 + ti) s ep (-1)) (n + 1) (M + 1) U t D num' := by
  obtain ⟨a, q, hf, hq, hb4, haf, rfl⟩ := hx
  have hk0 : ¬ kd = 0 := by rcases hs with ⟨-, rfl⟩ | ⟨-, rfl⟩ <;> decide
  have e0 : x.1 0 = y.1 1 := h.2.2.2.2.1.1.1
  rw [← e0]
  refine ⟨is q num M, h.add (y' := ma_ev y M (x.1 0 + ti) s ep (-1)) (a := a) (q := q) (b := xa_a k 9) (w := xa_five kd ep (-1) (x.1 0 + ti) (x.1 1)) hn hf hq hb4 haf (fun j hj e1 _ e2 => hno j hj ⟨e1, e2⟩) ?_ ?_ ?_ ?_ rfl rfl ?_ (fun e => absurd e hk0)⟩
  · refine ⟨⟨Nat.lt_succ_self M, by show ¬ upd (ma_A y 6) M 1 M = 0; rw [pk_us]; decide, h.2.1.1, by show _ = upd (ma_A y 0) M (x.1 0 + ti) M; rw [pk_us]; rfl, by show _ = upd (ma_A y 2) M ep M; rw [pk_us]; rfl, by show _ = upd (ma_A y 3) M (-1) M; rw [pk_us]; rfl⟩, ?_, ⟨0, fun _ => 0, Or.inr ⟨rfl, rfl⟩, Nat.zero_le _, fun e => absurd e hk0⟩, ⟨i, hi, hep⟩, fun e => absurd e hk0⟩
    have e1 : ma_A (ma_ev y M (x.1 0 + ti) s ep (-1)) 1 M = s := by show upd (ma_A y 1) M s M = s; rw [pk_us]
    rw [e1]
    rcases hs with ⟨rfl, rfl⟩ | ⟨rfl, rfl⟩
    · exact Or.inr (Or.inl ⟨rfl, rfl⟩)
    · exact Or.inr (Or.inr ⟨rfl, rfl⟩)
  · intro i hi e he
    have hne : e ≠ M := by omega
    rcases (show i = 0 ∨ i = 1 ∨ i = 2 ∨ i = 3 ∨ i = 4 ∨ i = 5 ∨ i = 6 by omega) with rfl | rfl | rfl | rfl | rfl | rfl | rfl
    · exact pk_un hne
    · exact pk_un hne
    · exact pk_un hne
    · exact pk_un hne
    · rfl
    · rfl
    · exact pk_un hne
  · intro i hi
    show (if i = 6 then _ else if i = 3 then _ else if i = 2 then _ else if i = 1 then _ else if i = 0 then _ else ma_A y i) = ma_A y i
    rw [if_neg (by omega), if_neg (by omega), if_neg (by omega), if_neg (by omega), if_neg (by omega)]
  · intro i h2 _
    exact pk_un h2
  · rw [if_neg (show ¬ xa_five kd ep (-1) (x.1 0 + ti) (x.1 1) 0 = 0 from hk0)]
    rfl
/-- alarm() and sync(), behind the wrapper -/
theorem so_set {s kd ep ti r r2 v7 : Int32} {u : XS} (h : si0 k x y n M U t D num) (hc : M ≤ 2 * c ∧ U + t ≤ 8 * c ∧ D ≤ 232 * c) (hs : (s = 1 ∧ kd = 32) ∨ (s = 2 ∧ kd = 48)) (ok : ¬ ep < 0 ∧ ¬ 15 < ep) (okt : ¬ ti < 0 ∧ ¬ 100000 < ti) (hx : xa_tim k x n kd ep ti v7 u) (hy : ma_set y M s ep ti r2 y') :
    so k c 0 u y' ∧ r2 = v7 := by
  obtain ⟨i, hi, hep⟩ := xa_16 ok.1 ok.2
  rcases hy with ⟨hy, -⟩ | ⟨-, hy, -⟩ | ⟨-, -, y1, hd, rfl⟩
  · exact absurd hy (fun h => h.elim ok.1 ok.2)
  · exact absurd hy (fun h => h.elim okt.1 okt.2)
  · have hxx : ∃ x1 n1, xa_drp x n kd ep v7 x1 ∧ ((v7 = 0 ∧ n1 = n ∧ x1 = x) ∨ (v7 = 1 ∧ n1 = n - 1)) ∧ xa_put k x1 n1 kd ep ti u := by
      rcases hx with ⟨rfl, a1, a2⟩ | ⟨i9, b1, rfl, b2, b3, b4⟩
      · exact ⟨x, n, Or.inl ⟨rfl, rfl, a1⟩, Or.inl ⟨rfl, rfl, rfl⟩, a2⟩
      · exact ⟨xa_take x n i9, n - 1, Or.inr ⟨i9, b1, rfl, b2, b3, rfl⟩, Or.inr ⟨rfl, rfl⟩, b4⟩
    obtain ⟨x1, n1, hd1, hn1, hp⟩ := hxx
    obtain ⟨rfl, eI, n', num', hn', hs', hno⟩ := (h.thr 0).drp hs hd1 hd
    have en : n1 = n' := by
      rcases hn1 with ⟨e1, e2, -⟩ | ⟨e1, e2⟩
      · rcases hn' with ⟨-, e3, -⟩ | ⟨e3, -⟩
        · rw [e2, e3]
        · rw [e1] at e3; exact absurd e3 (by decide)
      · rcases hn' with ⟨e3, -⟩ | ⟨-, -, e3, -⟩
        · rw [e1] at e3; exact absurd e3 (by decide)
        · rw [e2, e3]
    subst en
    have hlt : n1 < 232 := by
      rcases hn1 with ⟨-, e2, e3⟩ | ⟨e1, e2⟩
      · subst e2; subst e3
        rcases hs with ⟨-, rfl⟩ | ⟨-, rfl⟩
        · exact h.rm3 (s := 0) (by decide) rfl ok hno
        · exact h.rm3 (s := 1) (by decide) rfl ok hno
      · have := h.1.2.1
        have h0 : 0 < n := by
          rcases hn' with ⟨e3, -⟩ | ⟨-, e3, -⟩
          · rw [e1] at e3; exact absurd e3 (by decide)
          · exact e3
        omega
    obtain ⟨num2, h2⟩ := hs'.put hs hlt hi hep hno hp
    refine ⟨⟨?_, n1 + 1, M + 1, U, t, D, num2, h2, by omega, by omega, by omega⟩, rfl⟩
    show y1.1 0 = 0
    rw [eI]
    rfl
theorem so_uns {s kd ep r2 v7 : Int32} {u : XS} (h : si0 k x y n M U t D num) (hc : M ≤ 2 * c ∧ U + t ≤ 8 * c ∧ D ≤ 232 * c) (hs : (s = 1 ∧ kd = 32) ∨ (s = 2 ∧ kd = 48)) (ok : ¬ ep < 0 ∧ ¬ 15 < ep) (hx : xa_drp x n kd ep v7 u) (hy : ma_uns y M s ep r2 y') :
    so k c 0 u y' ∧ r2 = v7 := by
  rcases hy with ⟨hy, -⟩ | ⟨-, hd⟩
  · exact absurd hy (fun h => h.elim ok.1 ok.2)
  · obtain ⟨rfl, eI, n', num', hn', hs', hno⟩ := (h.thr 0).drp hs hx hd
    refine ⟨⟨?_, n', M, U, t, D, num', hs', by omega, by omega, by omega⟩, rfl⟩
    rw [eI]
    rfl
theorem so_alarm {ep ti r r2 : Int32} {u : (Nat → Int64) × XS} (h : si0 k x y n M U t D num) (hc : M ≤ 2 * c ∧ U + t ≤ 8 * c ∧ D ≤ 232 * c) (hx : lo_alarm k x ep ti n r u) (hy : ma_set y M 1 ep ti r2 y') : so k c r u.2 y' ∧ (r = 0 → u.1 0 = if r2 = 0 then 0 else 1) := by
  rcases hx with ⟨rfl, v7, hv, ok, okt, hx⟩ | ⟨rfl, hx⟩ | ⟨rfl, hx⟩
  · obtain ⟨h1, rfl⟩ := so_set (r := 0) h hc (Or.inl ⟨rfl, rfl⟩) ok okt hx hy
    exact ⟨h1, fun _ => hv⟩
  · rcases hx with ⟨-, hu, hx⟩ | ⟨hx, -⟩
    · rcases hy with ⟨-, -, rfl⟩ | ⟨ok, -⟩ | ⟨ok, -⟩
      · rw [← hu]; exact ⟨so_same h hc 1, fun h => absurd h (by decide)⟩
      · exact absurd hx (fun h => h.elim ok.1 ok.2)
      · exact absurd hx (fun h => h.elim ok.1 ok.2)
    · exact absurd hx.symm ne_IAE_IOB
  · rcases hx with ⟨hx, -⟩ | ⟨-, hu, ok, hx⟩
    · exact absurd hx ne_IAE_IOB
    · rcases hy with ⟨hy, -⟩ | ⟨-, -, -, rfl⟩ | ⟨-, hy, -⟩
      · exact absurd hy (fun h => h.elim ok.1 ok.2)
      · rw [← hu]; exact ⟨so_same h hc 2, fun h => absurd h (by decide)⟩
      · exact absurd hx (fun h => h.elim hy.1 hy.2)
theorem so_sync {ep ti r r2 : Int32} {u : (Nat → Int64) × XS} (h : si0 k x y n M U t D num) (hc : M ≤ 2 * c ∧ U + t ≤ 8 * c ∧ D ≤ 232 * c) (hx : lo_sync k x ep ti n r u) (hy : ma_set y M 2 ep ti r2 y') : so k c r u.2 y' ∧ (r = 0 → u.1 0 = if r2 = 0 then 0 else 1) := by
  rcases hx with ⟨rfl, v7, hv, ok, okt, hx⟩ | ⟨rfl, hx⟩ | ⟨rfl, hx⟩
  · obtain ⟨h1, rfl⟩ := so_set (r := 0) h hc (Or.inr ⟨rfl, rfl⟩) ok okt hx hy
    exact ⟨h1, fun _ => hv⟩
  · rcases hx with ⟨-, hu, hx⟩ | ⟨hx, -⟩
    · rcases hy with ⟨-, -, rfl⟩ | ⟨ok, -⟩ | ⟨ok, -⟩
      · rw [← hu]; exact ⟨so_same h hc 1, fun h => absurd h (by decide)⟩
      · exact absurd hx (fun h => h.elim ok.1 ok.2)
      · exact absurd hx (fun h => h.elim ok.1 ok.2)
    · exact absurd hx.symm ne_IAE_IOB
  · rcases hx with ⟨hx, -⟩ | ⟨-, hu, ok, hx⟩
    · exact absurd hx ne_IAE_IOB
    · rcases hy with ⟨hy, -⟩ | ⟨-, -, -, rfl⟩ | ⟨-, hy, -⟩
      · exact absurd hy (fun h => h.elim ok.1 ok.2)
      · rw [← hu]; exact ⟨so_same h hc 2, fun h => absurd h (by decide)⟩
      · exact absurd hx (fun h => h.elim hy.1 hy.2)
theorem so_noAlarm {ep r r2 : Int32} {u : (Nat → Int64) × XS} (h : si0 k x y n M U t D num) (hc : M ≤ 2 * c ∧ U + t ≤ 8 * c ∧ D ≤ 232 * c) (hx : lo_noAlarm x ep n r u) (hy : ma_uns y M 1 ep r2 y') : so k c r u.2 y' ∧ (r = 0 → u.1 0 = if r2 = 0 then 0 else 1) := by
  rcases hx with ⟨rfl, v7, hv, ok, hx⟩ | ⟨rfl, -, hu, hx⟩
  · obtain ⟨h1, rfl⟩ := so_uns h hc (Or.inl ⟨rfl, rfl⟩) ok hx hy
    exact ⟨h1, fun _ => hv⟩
  · rcases hy with ⟨-, -, rfl⟩ | ⟨ok, -⟩
    · rw [← hu]; exact ⟨so_same h hc 1, fun h => absurd h (by decide)⟩
    · exact absurd hx (fun h => h.elim ok.1 ok.2)
theorem so_noSync {ep r r2 : Int32} {u : (Nat → Int64) × XS} (h : si0 k x y n M U t D num) (hc : M ≤ 2 * c ∧ U + t ≤ 8 * c ∧ D ≤ 232 * c) (hx : lo_noSync x ep n r u) (hy : ma_uns y M 2 ep r2 y') : so k c r u.2 y' ∧ (r = 0 → u.1 0 = if r2 = 0 then 0 else 1) := by
  rcases hx with ⟨rfl, v7, hv, ok, hx⟩ | ⟨rfl, -, hu, hx⟩
  · obtain ⟨h1, rfl⟩ := so_uns h hc (Or.inr ⟨rfl, rfl⟩) ok hx hy
    exact ⟨h1, fun _ => hv⟩
  · rcases hy with ⟨-, -, rfl⟩ | ⟨ok, -⟩
    · rw [← hu]; exact ⟨so_same h hc 1, fun h => absurd h (by decide)⟩
    · exact absurd hx (fun h => h.elim ok.1 ok.2)
theorem so_part {v9 r r2 : Int32} {u : (Nat → Int64) × XS} (h : si0 k x y n M U t D num) (hc : M ≤ 2 * c ∧ U + t ≤ 8 * c ∧ D ≤ 232 * c) (hx : lo_part x v9 r u) (hy : ((v9 < 0 ∨ 65535 < v9) ∧ r2 = 0 ∧ y' = ma_sI y 0 1) ∨ ((¬ v9 < 0 ∧ ¬ 65535 < v9) ∧ r2 = y.1 5 ∧ y' = ma_sI (ma_sI y 0 0) 5 v9)) : so k c r u.2 y' ∧ (r = 0 → u.1 0 = r2.toInt64) := by
  rcases hx with ⟨rfl, v7, hv, ok, rfl, hu⟩ | ⟨rfl, -, hu, hx⟩
  · rcases hy with ⟨hy, -⟩ | ⟨-, rfl, rfl⟩
    · exact absurd hy (fun h => h.elim ok.1 ok.2)
    · rw [hu, ← h.2.2.2.2.1.1.2.1]
      exact ⟨⟨rfl, n, M, U, t, D, num, (h.thr 0).part v9, by omega, by omega, by omega⟩, fun _ => hv⟩
  · rcases hy with ⟨-, -, rfl⟩ | ⟨ok, -⟩
    · rw [← hu]; exact ⟨so_same h hc 1, fun h => absurd h (by decide)⟩
    · exact absurd hx (fun h => h.elim ok.1 ok.2)
theorem so_down {v9 r r2 : Int32} {u : (Nat → Int64) × XS} (h : si0 k x y n M U t D num) (hc : M ≤ 2 * c ∧ U + t ≤ 8 * c ∧ D ≤ 232 * c) (hx : lo_down x v9 r u) (hy : ((v9 < 0 ∨ 65535 < v9) ∧ r2 = 0 ∧ y' = ma_sI y 0 1) ∨ ((¬ v9 < 0 ∧ ¬ 65535 < v9) ∧ r2 = y.1 6 ∧ y' = ma_sI (ma_sI y 0 0) 6 v9)) : so k c r u.2 y' ∧ (r = 0 → u.1 0 = r2.toInt64) := by
  rcases hx with ⟨rfl, v7, hv, ok, rfl, hu⟩ | ⟨rfl, -, hu, hx⟩
  · rcases hy with ⟨hy, -⟩ | ⟨-, rfl, rfl⟩
    · exact absurd hy (fun h => h.elim ok.1 ok.2)
    · rw [hu, ← h.2.2.2.2.1.1.2.2.1]
      exact ⟨⟨rfl, n, M, U, t, D, num, (h.thr 0).down v9, by omega, by omega, by omega⟩, fun _ => hv⟩
  · rcases hy with ⟨-, -, rfl⟩ | ⟨ok, -⟩
    · rw [← hu]; exact ⟨so_same h hc 1, fun h => absurd h (by decide)⟩
    · exact absurd hx (fun h => h.elim ok.1 ok.2)
theorem to1000 {v : Int32} (h1 : ¬ v < 0) (h2 : ¬ 1000 < v) : ∃ a, a ≤ 1000 ∧ v = nI a := by
  obtain ⟨j, hj, e⟩ := nI_of h1
  subst e
  exact ⟨j, Nat.le_of_not_lt (fun h => h2 ((nI_ltI (a := 1000) (by decide) hj).mpr h)), rfl⟩
theorem so_noise {a9 b9 c9 r : Int32} {d9 : Int64} {u : (Nat → Int64) × XS} (h : si0 k x y n M U t D num) (hc : M ≤ 2 * c ∧ U + t ≤ 8 * c ∧ D ≤ 232 * c) (hx : lo_noise x a9 b9 c9 d9 r u) (hy : (((a9 < 0 ∨ 1000 < a9) ∨ (b9 < 0 ∨ 1000 < b9) ∨ (c9 < 0 ∨ 1000 < c9)) ∧ y' = ma_sI y 0 1) ∨ (((¬ a9 < 0 ∧ ¬ 1000 < a9) ∧ (¬ b9 < 0 ∧ ¬ 1000 < b9) ∧ (¬ c9 < 0 ∧ ¬ 1000 < c9)) ∧ y' = ma_sD (ma_sI (ma_sI (ma_sI (ma_sI y 0 0) 7 a9) 8 b9) 9 c9) d9)) : so k c r u.2 y' := by
  rcases hx with ⟨rfl, ⟨o1, o2, o3, o4, o5, o6⟩, hu⟩ | ⟨rfl, -, hu, hx⟩
  · rcases hy with ⟨hy, -⟩ | ⟨-, rfl⟩
    · exfalso
      rcases hy with hy | hy | hy
      · exact hy.elim o1 o2
      · exact hy.elim o3 o4
      · exact hy.elim o5 o6
    · rw [hu]
      obtain ⟨a, ha, rfl⟩ := to1000 o1 o2
      obtain ⟨b, hb, rfl⟩ := to1000 o3 o4
      obtain ⟨c', hc', rfl⟩ := to1000 o5 o6
      exact ⟨rfl, n, M, U, t, D, num, (h.thr 0).noise ha hb hc' d9, by omega, by omega, by omega⟩
  · rcases hy with ⟨-, rfl⟩ | ⟨⟨q1, q2, q3⟩, -⟩
    · rw [← hu]; exact so_same h hc 1
    · exact absurd ⟨q1.1, q1.2, q2.1, q2.2, q3.1, q3.2⟩ hx
theorem so_delay {fr to ti r r2 : Int32} {u : (Nat → Int64) × XS} (h : si0 k x y n M U t D num) (hc : M ≤ 2 * c ∧ U + t ≤ 8 * c ∧ D ≤ 232 * c) (hx : lo_delay x fr to ti r u)
    (hy : (((fr < 0 ∨ 15 < fr) ∨ (to < 0 ∨ 15 < to)) ∧ r2 = 0 ∧ y' = ma_sI y 0 1) ∨ (((¬ fr < 0 ∧ ¬ 15 < fr) ∧ (¬ to < 0 ∧ ¬ 15 < to)) ∧ (ti < 0 ∨ 1000 < ti) ∧ r2 = 0 ∧ y' = ma_sI y 0 2) ∨ (∃ i9 j9, i9 < 16 ∧ fr = nI i9 ∧ j9 < 16 ∧ to = nI j9 ∧ (¬ ti < 0 ∧ ¬ 1000 < ti) ∧ r2 = ma_A y 9 (16 * i9 + j9) ∧ y' = ma_sA (ma_sI y 0 0) 9 (upd (ma_A y 9) (16 * i9 + j9) ti))) :
    so k c r u.2 y' ∧ (r = 0 → u.1 0 = r2.toInt64) := by
  rcases hx with ⟨rfl, v7, hv, okt, i, j, hi, ei, hj, ej, rfl, hu⟩ | ⟨rfl, hx⟩ | ⟨rfl, hx⟩
  · rcases hy with ⟨hy, -⟩ | ⟨-, hy, -⟩ | ⟨i', j', hi', ei', hj', ej', -, rfl, rfl⟩
    · exfalso
      rcases hy with hy | hy
      · exact ends_no hi ei hy
      · exact ends_no hj ej hy
    · exact absurd hy (fun h => h.elim okt.1 okt.2)
    · obtain rfl := (nI_eq (by omega) (by omega)).mp (ei.symm.trans ei')
      obtain rfl := (nI_eq (by omega) (by omega)).mp (ej.symm.trans ej')
      rw [hu, Nat.mul_comm 16 i, ← h.2.2.2.2.1.2.2.2 (i * 16 + j) (by omega)]
      exact ⟨⟨rfl, n, M, U, t, D, num, (h.thr 0).delay ti, by omega, by omega, by omega⟩, fun _ => hv⟩
  · rcases hx with ⟨-, hu, hx⟩ | ⟨hx, -⟩
    · have hx' : (fr < 0 ∨ 15 < fr) ∨ (to < 0 ∨ 15 < to) := by
        rcases hx with hx | hx | hx | hx
        · exact Or.inl (Or.inl hx)
        · exact Or.inl (Or.inr hx)
        · exact Or.inr (Or.inl hx)
        · exact Or.inr (Or.inr hx)
      rcases hy with ⟨-, -, rfl⟩ | ⟨⟨o1, o2⟩, -⟩ | ⟨i', j', hi', ei', hj', ej', -⟩
      · rw [← hu]; exact ⟨so_same h hc 1, fun h => absurd h (by decide)⟩
      · exact absurd hx' (fun h => h.elim (fun h => h.elim o1.1 o1.2) (fun h => h.elim o2.1 o2.2))
      · exact absurd hx' (fun h => h.elim (fun h => ends_no hi' ei' h) (fun h => ends_no hj' ej' h))
    · exact absurd hx.symm ne_IAE_IOB
  · rcases hx with ⟨hx, -⟩ | ⟨-, hu, ok, hx⟩
    · exact absurd hx ne_IAE_IOB
    · rcases hy with ⟨hy, -⟩ | ⟨-, -, -, rfl⟩ | ⟨i', j', hi', ei', hj', ej', okt, -⟩
      · exact absurd hy (fun h => h.elim (fun h => h.elim ok.1 ok.2.1) (fun h => h.elim ok.2.2.1 ok.2.2.2))
      · rw [← hu]; exact ⟨so_same h hc 2, fun h => absurd h (by decide)⟩
      · exact absurd hx (fun h => h.elim okt.1 okt.2)
end SO
