/-! pure words for the agenda: what an event of the pool holds, the array of events and its changes -/
def xa_bit (set ep : Int32) : Int32 := (set >>> (ep &&& 31)) &&& 1
/-- the ints of an entry, and where its bytes lie -/
def xa_v (P : List Nat × (Nat → va_E)) (a : Nat) : Nat → Int32 := fun k => match P.2 a with
  | .inr o => (match o.2.getD k .null with
    | .int z => z
    | _ => 0)
  | _ => 0
def xa_b (P : List Nat × (Nat → va_E)) (a : Nat) : Nat := match P.2 a with
  | .inr o => (match o.2.getD 5 .null with
    | .ref b => b
    | _ => 0)
  | _ => 0
def xa_okE (P : List Nat × (Nat → va_E)) (a : Nat) : Prop := xa_isE P a (xa_v P a) (xa_b P a)
theorem xa_okE_of {P : List Nat × (Nat → va_E)} {a b : Nat} {v : Nat → Int32} (h : xa_isE P a v b) : xa_okE P a ∧ (∀ k, k < 5 → xa_v P a k = v k) ∧ xa_b P a = b := by
  have hv : ∀ k, k < 5 → xa_v P a k = v k := by
    intro k hk
    unfold xa_v
    rw [h.2]
    unfold xa_ev
    match k, hk with
    | 0, _ => rfl
    | 1, _ => rfl
    | 2, _ => rfl
    | 3, _ => rfl
    | 4, _ => rfl
  have hb : xa_b P a = b := by
    unfold xa_b
    rw [h.2]
    rfl
  refine ⟨⟨h.1, ?_⟩, hv, hb⟩
  rw [h.2]
  unfold xa_ev
  rw [hv 0 (by decide), hv 1 (by decide), hv 2 (by decide), hv 3 (by decide), hv 4 (by decide), hb]
/-- the array holds n events -/
def xa_R0 (x : XS) (n : Nat) : Prop := x.1 7 = nI n ∧ n ≤ 232 ∧ ∀ j, j < n → ∃ a, xa_E x j = some a ∧ xa_okE (xa_P x) a
/-- the address at place j -/
def xa_ad (x : XS) (j : Nat) : Nat := (xa_E x j).getD 0
/-- the int i of the event at place j -/
def xa_at (x : XS) (j i : Nat) : Int32 := xa_v (xa_P x) (xa_ad x j) i
theorem xa_R0.get {x : XS} {n j : Nat} (h : xa_R0 x n) (hj : j < n) : xa_E x j = some (xa_ad x j) ∧ xa_okE (xa_P x) (xa_ad x j) := by
  obtain ⟨a, h1, h2⟩ := h.2.2 j hj
  have e : xa_ad x j = a := by unfold xa_ad; rw [h1]; rfl
  rw [e]
  exact ⟨h1, h2⟩
def xa_shift (E : Nat → Option Nat) (n q : Nat) : Nat → Option Nat := fun j => if q < j ∧ j ≤ n then E (j - 1) else E j
theorem xa_shift_n (E : Nat → Option Nat) (n : Nat) : xa_shift E n n = E := by
  funext j; unfold xa_shift; rw [if_neg (by omega)]
theorem xa_shift_lo {E : Nat → Option Nat} {n q j : Nat} (h : j ≤ q) : xa_shift E n q j = E j := by
  unfold xa_shift; rw [if_neg (by omega)]
theorem xa_shift_s {E : Nat → Option Nat} {n q : Nat} {r : Option Nat} (h : q + 1 ≤ n) (hr : E q = r) : va_up (xa_shift E n (q + 1)) (q + 1) r = xa_shift E n q := by
  funext j
  unfold va_up xa_shift
  by_cases h1 : j = q + 1
  · subst h1
    rw [if_pos rfl, if_pos (by omega), ← hr]
    rfl
  · rw [if_neg h1]
    by_cases h2 : q + 1 < j ∧ j ≤ n
    · rw [if_pos h2, if_pos (by omega)]
    · rw [if_neg h2, if_neg (by omega)]
/-- a put in at place q -/
def xa_ins (E : Nat → Option Nat) (n q a : Nat) : Nat → Option Nat := fun j => if j < q then E j else if j = q then some a else if j ≤ n then E (j - 1) else E j
theorem xa_ins_s {E : Nat → Option Nat} {n q a : Nat} (h : q ≤ n) : va_up (xa_shift E n q) q (some a) = xa_ins E n q a := by
  funext j
  unfold va_up xa_shift xa_ins
  by_cases h1 : j = q
  · subst h1; rw [if_pos rfl, if_neg (by omega), if_pos rfl]
  · rw [if_neg h1]
    by_cases h2 : j < q
    · rw [if_pos h2, if_neg (by omega)]
    · rw [if_neg h2, if_neg h1]
      by_cases h3 : j ≤ n
      · rw [if_pos h3, if_pos (by omega)]
      · rw [if_neg h3, if_neg (by omega)]
def xa_pull (E : Nat → Option Nat) (j i : Nat) : Nat → Option Nat := fun t => if j ≤ t ∧ t + 1 < i then E (t + 1) else E t
theorem xa_pull_0 (E : Nat → Option Nat) (j : Nat) : xa_pull E j (j + 1) = E := by
  funext t; unfold xa_pull; rw [if_neg (by omega)]
theorem xa_pull_hi {E : Nat → Option Nat} {j i t : Nat} (h : i ≤ t + 1) : xa_pull E j i t = E t := by
  unfold xa_pull; rw [if_neg (by omega)]
theorem xa_pull_s {E : Nat → Option Nat} {j i : Nat} {r : Option Nat} (h : j < i) (hr : E i = r) : va_up (xa_pull E j i) (i - 1) r = xa_pull E j (i + 1) := by
  funext t
  unfold va_up xa_pull
  by_cases h1 : t = i - 1
  · subst h1
    rw [if_pos rfl, if_pos (by omega), ← hr]
    congr 1
    omega
  · rw [if_neg h1]
    by_cases h2 : j ≤ t ∧ t + 1 < i
    · rw [if_pos h2, if_pos (by omega)]
    · rw [if_neg h2, if_neg (by omega)]
/-- place j taken out -/
def xa_del (E : Nat → Option Nat) (n j : Nat) : Nat → Option Nat := va_up (xa_pull E j n) (n - 1) none
/-- how many messages stand ahead of place j -/
def xa_cnt (x : XS) : Nat → Nat
  | 0 => 0
  | j + 1 => xa_cnt x j + (if xa_at x j 0 = 0 then 1 else 0)
/-- a row more, or one less, of messages -/
def xa_msg (x : XS) (kd d : Int32) : XS := if kd = 0 then xa_sI x 8 (x.1 8 + d) else x
theorem xa_ix {x : XS} {n : Nat} {p0 : Int32} (h0 : xa_R0 x n) (h1 : ¬ p0 < 0) (h2 : p0 < x.1 7) : ∃ j, j < n ∧ p0 = nI j := by
  have hn := h0.2.1
  rw [h0.1] at h2
  obtain ⟨j, hj, e⟩ := nI_of h1
  rw [e] at h2
  exact ⟨j, (nI_ltI hj (by omega)).mp h2, e⟩
theorem xa_nix {n j : Nat} {p0 : Int32} (hn : n ≤ 232) (h : p0 < 0 ∨ nI n ≤ p0) (e : p0 = nI j) (hj : j < n) : False := by
  subst e
  rcases h with h | h
  · exact absurd h (nI_pos (by omega))
  · exact absurd ((nI_leI (by omega) (by omega)).mp h) (by omega)
theorem xa_inj {i j n : Nat} (hn : n ≤ 232) (hi : i < n) (hj : j < n) (h : nI i = nI j) : i = j := (nI_eq (by omega) (by omega)).mp h
theorem xa_R0.shift {x : XS} {n q : Nat} (h : xa_R0 x n) (_ : q ≤ n) : xa_R0 (xa_sE x (xa_shift (xa_E x) n q)) n := by
  refine ⟨h.1, h.2.1, fun j hj => ?_⟩
  show ∃ a, xa_shift (xa_E x) n q j = some a ∧ xa_okE (xa_P x) a
  unfold xa_shift
  by_cases h1 : q < j ∧ j ≤ n
  · rw [if_pos h1]; exact h.2.2 (j - 1) (by omega)
  · rw [if_neg h1]; exact h.2.2 j hj
theorem xa_2048 {t : Nat} (h : t ≤ 2048) : (2048 : Int32) - nI t = nI (2048 - t) := pk_sub (a := 2048) h
theorem xa_room {x : XS} {t n : Nat} (ht : x.1 6 = nI t) (h2 : t ≤ 2048) (hn : n < 4096) : (2048 - x.1 6 < nI n ↔ 2048 < t + n) := by
  rw [ht, xa_2048 h2, nI_ltI (by omega) (by omega)]
  omega
/-- the generator of the draws -/
def xa_lcg (d : Int64) : Int64 := d * 6364136223846793005 + 1442695040888963407
def xa_draw (d : Int64) (m : Int32) : Int32 := ((d.toUInt64 >>> ((33 : Int32).toInt64.toUInt64 &&& Int64.toUInt64 63)).toInt64 - (d.toUInt64 >>> ((33 : Int32).toInt64.toUInt64 &&& Int64.toUInt64 63)).toInt64 / m.toInt64 * m.toInt64).toInt32
theorem xa_nz {m : Int32} (h : 0 < m) : ¬ m.toInt64 = 0 := by
  intro h2
  have h3 := congrArg Int64.toInt h2
  rw [Int32.toInt_toInt64] at h3
  have h4 : (0 : Int) < m.toInt := by have := Int32.lt_iff_toInt_lt.mp h; simpa using this
  have h5 : (0 : Int64).toInt = 0 := rfl
  omega
/-- the row of four facts -/
def xa_mem (F : Nat → Int32) (w : Nat) (a b c d : Int32) : Nat → Int32 := upd (upd (upd (upd F (w * 4) a) (w * 4 + 1) b) (w * 4 + 2) c) (w * 4 + 3) d
theorem xa_rem32 {w : Nat} (h : w < 64) : nI w - nI w / 32 * 32 = nI (w % 32) := pk_rem (a := w) (d := 32) (by omega) (by decide) (by decide)
theorem xa_back {w i : Nat} (hi : i ≤ 32) : nI w - nI i + 32 = nI (w + 32 - i) := by
  have e : nI w - nI i + 32 = nI (w + 32) - nI i := by
    rw [← nI_add w 32]
    show nI w - nI i + nI 32 = nI w + nI 32 - nI i
    simp only [Int32.sub_eq_add_neg, Int32.add_assoc]
    rw [Int32.add_comm (-nI i) (nI 32)]
  rw [e, pk_sub (by omega)]
def xa_par (x : XS) (i j : Int32) : Prop := ¬ (xa_bit (x.1 2) i = 1 ↔ xa_bit (x.1 2) j = 1)
def xa_lose (x : XS) (v : Nat → Int32) : Prop := xa_par x (v 2) (v 1) ∨ xa_bit (x.1 3) (v 1) = 1
/-- what remember() leaves -/
def xa_rmb (x : XS) (ans : Int32) (v : Nat → Int32) (w kp : Nat) : XS := xa_sI (xa_sI (xa_sF (xa_sI x 9 (nI ((w + 1) % 32))) (xa_mem (xa_F x) ((w + 1) % 32) ans (v 3) (v 4) (v 2))) 10 (if kp < 32 then nI (kp + 1) else nI kp)) 11 (x.1 11 + 1)
/-- what letHappen() leaves, before it is remembered, and what it answers -/
def xa_hap (x : XS) (v : Nat → Int32) (b : Nat) (y : XS) (r : Int32) : Prop :=
  (¬ v 0 = 0 ∧ r = v 1 + v 0 ∧ y = xa_sI x 0 (v 3)) ∨ (v 0 = 0 ∧ xa_lose x v ∧ r = v 1 + 16 ∧ y = xa_sI (xa_sI x 0 (v 3)) 5 (x.1 5 + 1)) ∨ (v 0 = 0 ∧ ¬ xa_lose x v ∧ r = v 1 + 0 ∧ y = xa_sB (xa_sI x 0 (v 3)) b)
/-- a new event with its number, put in at place q -/
def xa_add (x : XS) (n a q : Nat) (v : Nat → Int32) (b : Nat) : XS := xa_msg (xa_sI (xa_sE (xa_sP (xa_sI x 1 (x.1 1 + 1)) ((xa_P x).1 ++ [a], va_up (xa_P x).2 a (xa_ev v b))) (xa_ins (xa_E x) n q a)) 7 (nI (n + 1))) (v 0) 1
def xa_five (a b c d e : Int32) : Nat → Int32 := fun k => match k with
  | 0 => a
  | 1 => b
  | 2 => c
  | 3 => d
  | _ => e
/-- a cell that was made behind the world joins its pool -/
theorem xa_absorb {k : xa_k} {x : XS} {A : Nat → Prop} {s : State} {H : Heap} {locs : List Loc} {a : Nat} {e : va_E} (hw : ga_w (xa_K k) (xa_W k x ++ [(a, e)]) A s H locs) : a ∉ (xa_P x).1 ∧ ga_w (xa_K k) (xa_W k (xa_sP x ((xa_P x).1 ++ [a], va_up (xa_P x).2 a e))) A s H locs := by
  have hf : a ∉ (xa_P x).1 := va_pl_fresh2 (X := xa_C k x) hw.2.1
  refine ⟨hf, ?_⟩
  have e1 : xa_W k x ++ [(a, e)] = xa_W k (xa_sP x ((xa_P x).1 ++ [a], va_up (xa_P x).2 a e)) := by
    show (xa_C k x ++ va_pl (xa_P x).1 (xa_P x).2) ++ [(a, e)] = xa_C k x ++ va_pl ((xa_P x).1 ++ [a]) (va_up (xa_P x).2 a e)
    rw [List.append_assoc, va_pl_push hf]
  rw [← e1]
  exact hw
/-- an event of the pool stays one when a cell joins it -/
theorem xa_okE_up {P : List Nat × (Nat → va_E)} {a c : Nat} {e : va_E} (h : xa_okE P c) (hf : a ∉ P.1) : xa_okE (P.1 ++ [a], va_up P.2 a e) c ∧ xa_v (P.1 ++ [a], va_up P.2 a e) c = xa_v P c ∧ xa_b (P.1 ++ [a], va_up P.2 a e) c = xa_b P c := by
  have hne : c ≠ a := fun h2 => hf (h2 ▸ h.1)
  have e1 : (P.1 ++ [a], va_up P.2 a e).2 c = P.2 c := va_up_ne _ _ hne
  have e2 : xa_v (P.1 ++ [a], va_up P.2 a e) c = xa_v P c := by unfold xa_v; rw [e1]
  have e3 : xa_b (P.1 ++ [a], va_up P.2 a e) c = xa_b P c := by unfold xa_b; rw [e1]
  refine ⟨⟨List.mem_append_left _ h.1, ?_⟩, e2, e3⟩
  rw [e2, e3]
  exact e1.trans h.2
theorem xa_R0.up {x : XS} {n a : Nat} {e : va_E} (h : xa_R0 x n) (hf : a ∉ (xa_P x).1) : xa_R0 (xa_sP x ((xa_P x).1 ++ [a], va_up (xa_P x).2 a e)) n ∧ ∀ j, j < n → xa_at (xa_sP x ((xa_P x).1 ++ [a], va_up (xa_P x).2 a e)) j = xa_at x j := by
  refine ⟨⟨h.1, h.2.1, fun j hj => ?_⟩, fun j hj => ?_⟩
  · obtain ⟨c, h1, h2⟩ := h.2.2 j hj
    exact ⟨c, h1, (xa_okE_up h2 hf).1⟩
  · funext i
    exact congrFun (xa_okE_up (h.get hj).2 hf).2.1 i
/-- what takeAt() leaves -/
def xa_take (x : XS) (n j : Nat) : XS := xa_msg (xa_sE (xa_sI x 7 (nI (n - 1))) (xa_del (xa_E x) n j)) (xa_at x j 0) (-1)
theorem xa_m1 {j : Nat} (h : j < 232) : ¬ (-1 : Int32) = nI j := by
  intro h2
  have h3 := congrArg Int32.toInt h2
  rw [nI_toInt (by omega)] at h3
  have h4 : (-1 : Int32).toInt = -1 := rfl
  omega
theorem xa_same10 {x y : XS} {kp : Nat} (h : x = y) (_ : y.1 10 = nI kp) : x = y := h
theorem xa_sI_id {y : XS} {i : Nat} {v : Int32} (h : y.1 i = v) : xa_sI y i v = y := by
  have e : upd y.1 i v = y.1 := by
    funext j
    unfold upd
    by_cases hj : j = i
    · rw [if_pos hj, hj, h]
    · rw [if_neg hj]
  unfold xa_sI
  rw [e]
theorem xa_pred {i : Nat} (h : 0 < i) : nI i - 1 = nI (i - 1) := by
  obtain ⟨t, rfl⟩ : ∃ t, i = t + 1 := ⟨i - 1, by omega⟩
  exact nI_pred t
theorem xa_cnt_0 {x : XS} {i : Nat} (h : ¬ xa_at x i 0 = 0) : xa_cnt x (i + 1) = xa_cnt x i := by
  have e : xa_cnt x (i + 1) = xa_cnt x i + (if xa_at x i 0 = 0 then 1 else 0) := rfl
  rw [e, if_neg h]
  rfl
theorem xa_cnt_1 {x : XS} {i : Nat} (h : xa_at x i 0 = 0) : xa_cnt x (i + 1) = xa_cnt x i + 1 := by
  have e : xa_cnt x (i + 1) = xa_cnt x i + (if xa_at x i 0 = 0 then 1 else 0) := rfl
  rw [e, if_pos h]
theorem xa_del_lo {E : Nat → Option Nat} {n j t : Nat} (h : t < n - 1) : xa_del E n j t = if j ≤ t then E (t + 1) else E t := by
  unfold xa_del va_up xa_pull
  rw [if_neg (by omega)]
  by_cases h1 : j ≤ t
  · rw [if_pos h1, if_pos (by omega)]
  · rw [if_neg h1, if_neg (by omega)]
theorem xa_msg_E (x : XS) (a b : Int32) : xa_E (xa_msg x a b) = xa_E x ∧ xa_P (xa_msg x a b) = xa_P x ∧ (xa_msg x a b).1 7 = x.1 7 := by
  unfold xa_msg
  split
  · exact ⟨rfl, rfl, rfl⟩
  · exact ⟨rfl, rfl, rfl⟩
/-- an event less -/
theorem xa_R0.take {x : XS} {n j : Nat} (h : xa_R0 x n) (hj : j < n) : xa_R0 (xa_take x n j) (n - 1) := by
  have h2 := h.2.1
  obtain ⟨e1, e2, e3⟩ := xa_msg_E (xa_sE (xa_sI x 7 (nI (n - 1))) (xa_del (xa_E x) n j)) (xa_at x j 0) (-1)
  refine ⟨e3, by omega, fun t ht => ?_⟩
  show ∃ a, xa_E (xa_msg _ _ _) t = some a ∧ xa_okE (xa_P (xa_msg _ _ _)) a
  rw [e1, e2]
  show ∃ a, xa_del (xa_E x) n j t = some a ∧ xa_okE (xa_P x) a
  rw [xa_del_lo ht]
  by_cases h1 : j ≤ t
  · rw [if_pos h1]; exact h.2.2 (t + 1) (by omega)
  · rw [if_neg h1]; exact h.2.2 t (by omega)
/-! pure words for what is sent -/
/-- the pool P2 holds what P holds, as it was -/
def xa_ext (P P2 : List Nat × (Nat → va_E)) : Prop := ∀ a, a ∈ P.1 → a ∈ P2.1 ∧ P2.2 a = P.2 a
theorem xa_ext_rf (P : List Nat × (Nat → va_E)) : xa_ext P P := fun _ h => ⟨h, rfl⟩
theorem xa_ext_tr {P P2 P3 : List Nat × (Nat → va_E)} (h : xa_ext P P2) (h2 : xa_ext P2 P3) : xa_ext P P3 := fun a ha => ⟨(h2 a (h a ha).1).1, ((h2 a (h a ha).1).2).trans (h a ha).2⟩
theorem xa_ext_up {P : List Nat × (Nat → va_E)} {a : Nat} {e : va_E} (hf : a ∉ P.1) : xa_ext P (P.1 ++ [a], va_up P.2 a e) := fun _ hc => ⟨List.mem_append_left _ hc, va_up_ne _ _ (fun h => hf (h ▸ hc))⟩
theorem xa_okE_ext {P P2 : List Nat × (Nat → va_E)} {a : Nat} (h : xa_ext P P2) (hE : xa_okE P a) : xa_okE P2 a ∧ xa_v P2 a = xa_v P a ∧ xa_b P2 a = xa_b P a := by
  have e := h a hE.1
  have e2 : xa_v P2 a = xa_v P a := by unfold xa_v; rw [e.2]
  have e3 : xa_b P2 a = xa_b P a := by unfold xa_b; rw [e.2]
  refine ⟨⟨e.1, ?_⟩, e2, e3⟩
  rw [e2, e3]
  exact e.2.trans hE.2
theorem xa_isB_ext {k : xa_k} {P P2 : List Nat × (Nat → va_E)} {b n : Nat} {f : Nat → Int32} (h : xa_ext P P2) (hB : xa_isB k P b n f) : xa_isB k P2 b n f := by
  rcases hB with ⟨h1, h2⟩ | h1
  · exact Or.inl ⟨(h b h1).1, (h b h1).2.trans h2⟩
  · exact Or.inr h1
theorem xa_R0.ext {x : XS} {n : Nat} {P2 : List Nat × (Nat → va_E)} (h : xa_R0 x n) (he : xa_ext (xa_P x) P2) : xa_R0 (xa_sP x P2) n ∧ ∀ j, j < n → xa_at (xa_sP x P2) j = xa_at x j := by
  refine ⟨⟨h.1, h.2.1, fun j hj => ?_⟩, fun j hj => ?_⟩
  · obtain ⟨c, h1, h2⟩ := h.2.2 j hj
    exact ⟨c, h1, (xa_okE_ext he h2).1⟩
  · funext i
    exact congrFun (xa_okE_ext he (h.get hj).2).2.1 i
theorem xa_zero {t : Nat} (h : t ≤ 2048) (h2 : ¬ 0 < nI t) : t = 0 := by
  rcases Nat.eq_zero_or_pos t with h3 | h3
  · exact h3
  · exact absurd (nI_lt h3 (by omega)) h2
/-- the bytes of a long, as the tape takes them -/
def xa_by (e : Int64) (i : Nat) : Int32 := vp_nar .byte ((e.toUInt64 >>> (((8 : Int32) * nI i).toInt64.toUInt64 &&& Int64.toUInt64 63)).toInt64).toInt32.toInt8.toInt32
def xa_fd (T : Nat → Int32) (t : Nat) (e : Int64) (i : Nat) : Nat → Int32 := fun j => if t ≤ j ∧ j < t + i then xa_by e (j - t) else T j
theorem xa_fd_0 (T : Nat → Int32) (t : Nat) (e : Int64) : xa_fd T t e 0 = T := by
  funext j; unfold xa_fd; rw [if_neg (by omega)]
theorem xa_fd_s (T : Nat → Int32) (t : Nat) (e : Int64) (i : Nat) : upd (xa_fd T t e i) (t + i) (xa_by e i) = xa_fd T t e (i + 1) := by
  funext j
  unfold upd xa_fd
  by_cases h1 : j = t + i
  · subst h1
    rw [if_pos rfl, if_pos (by omega), Nat.add_sub_cancel_left]
  · rw [if_neg h1]
    by_cases h2 : t ≤ j ∧ j < t + i
    · rw [if_pos h2, if_pos (by omega)]
    · rw [if_neg h2, if_neg (by omega)]
/-- what launch() does -/
def xa_lau (x : XS) (n i9 j9 : Nat) (fr to late : Int32) (b : Nat) (r : Int32) (u : XS) : Prop :=
  (r = 0 ∧ ¬ x.1 8 < 200 ∧ u = xa_sI x 5 (x.1 5 + 1)) ∨ (r = 1 ∧ x.1 8 < 200 ∧ ∃ a q, a ∉ (xa_P x).1 ∧ q ≤ n ∧ (∀ j, q ≤ j → j < n → x.1 0 + xa_L x (i9 * 16 + j9) + late < xa_at x j 3) ∧ (∀ j, q = j + 1 → ¬ x.1 0 + xa_L x (i9 * 16 + j9) + late < xa_at x j 3) ∧ u = xa_sI (xa_add x n a q (xa_five 0 to fr (x.1 0 + xa_L x (i9 * 16 + j9) + late) (x.1 1)) b) 4 ((xa_add x n a q (xa_five 0 to fr (x.1 0 + xa_L x (i9 * 16 + j9) + late) (x.1 1)) b).1 4 + 1))
theorem xa_pos {t : Nat} (h : 0 < nI t) : 0 < t := by
  rcases Nat.eq_zero_or_pos t with h3 | h3
  · subst h3; exact absurd h (by decide)
  · exact h3
theorem xa_ix2 {n : Nat} {p0 : Int32} (hn : n < 2 ^ 31) (h1 : ¬ p0 < 0) (h2 : p0 < nI n) : ∃ j, j < n ∧ p0 = nI j := by
  obtain ⟨j, hj, e⟩ := nI_of h1
  rw [e] at h2
  exact ⟨j, (nI_ltI hj hn).mp h2, e⟩
theorem xa_1to8 {p0 : Int32} (h1 : ¬ p0 < 1) (h2 : p0 ≤ 8) : ∃ n, n ≤ 8 ∧ 1 ≤ n ∧ p0 = nI n := by
  have h3 : ¬ p0 < 0 := fun h => h1 (Int32.lt_trans h (by decide))
  obtain ⟨j, hj, e⟩ := nI_of h3
  subst e
  exact ⟨j, (nI_leI hj (by decide)).mp h2, Nat.le_of_not_lt (fun h => h1 ((nI_ltI hj (by decide)).mpr h)), rfl⟩
/-- what setTimer() and dropTimer() do -/
def xa_mt (x : XS) (t : Nat) (kd ep : Int32) : Prop := xa_at x t 0 = kd ∧ xa_at x t 1 = ep
def xa_put (k : xa_k) (x : XS) (n : Nat) (kd ep ti : Int32) (u : XS) : Prop := ∃ a q, a ∉ (xa_P x).1 ∧ q ≤ n ∧ (∀ j, q ≤ j → j < n → x.1 0 + ti < xa_at x j 3) ∧ (∀ j, q = j + 1 → ¬ x.1 0 + ti < xa_at x j 3) ∧ u = xa_add x n a q (xa_five kd ep (-1) (x.1 0 + ti) (x.1 1)) (xa_a k 9)
def xa_tim (k : xa_k) (x : XS) (n : Nat) (kd ep ti : Int32) (r : Int32) (u : XS) : Prop :=
  (r = 0 ∧ (∀ t, t < n → ¬ xa_mt x t kd ep) ∧ xa_put k x n kd ep ti u) ∨ (∃ i9, i9 < n ∧ r = 1 ∧ xa_mt x i9 kd ep ∧ (∀ t, t < i9 → ¬ xa_mt x t kd ep) ∧ xa_put k (xa_take x n i9) (n - 1) kd ep ti u)
def xa_drp (x : XS) (n : Nat) (kd ep : Int32) (r : Int32) (u : XS) : Prop :=
  (r = 0 ∧ x = u ∧ ∀ t, t < n → ¬ xa_mt x t kd ep) ∨ (∃ j, j < n ∧ r = 1 ∧ xa_mt x j kd ep ∧ (∀ t, t < j → ¬ xa_mt x t kd ep) ∧ u = xa_take x n j)
theorem xa_tim_b {k : xa_k} {x u : XS} {n : Nat} {kd ep ti r : Int32} (h : xa_tim k x n kd ep ti r u) : r = 0 ∨ r = 1 := by
  rcases h with ⟨h, -⟩ | ⟨_, -, h, -⟩
  · exact Or.inl h
  · exact Or.inr h
theorem xa_drp_b {x u : XS} {n : Nat} {kd ep r : Int32} (h : xa_drp x n kd ep r u) : r = 0 ∨ r = 1 := by
  rcases h with ⟨h, -⟩ | ⟨_, -, h, -⟩
  · exact Or.inl h
  · exact Or.inr h
theorem xa_take_P (x : XS) (n j : Nat) : xa_P (xa_take x n j) = xa_P x := (xa_msg_E (xa_sE (xa_sI x 7 (nI (n - 1))) (xa_del (xa_E x) n j)) (xa_at x j 0) (-1)).2.1
theorem xa_msg_I (x : XS) (a b : Int32) (i : Nat) (h : i ≠ 8) : (xa_msg x a b).1 i = x.1 i := by
  unfold xa_msg
  split
  · show upd x.1 8 _ i = _
    unfold upd
    rw [if_neg h]
  · rfl
theorem xa_take_I (x : XS) (n j : Nat) (i : Nat) (h : i ≠ 8) (h7 : i ≠ 7) : (xa_take x n j).1 i = x.1 i := by
  unfold xa_take
  rw [xa_msg_I _ _ _ _ h]
  show upd x.1 7 _ i = _
  unfold upd
  rw [if_neg h7]
/-- no such message -/
def xa_nom (x : XS) (n : Nat) (k9 : Int32) : Prop := k9 < 0 ∨ x.1 8 ≤ k9 ∨ ∀ t, t < n → xa_at x t 0 = 0 → ¬ k9 = nI (xa_cnt x t)
def xa_isM (x : XS) (n : Nat) (k9 : Int32) (j : Nat) : Prop := j < n ∧ xa_at x j 0 = 0 ∧ k9 = nI (xa_cnt x j)
theorem xa_sw (hi : Nat) (hh : hi < 1000) (x : Int32) : (∃ j, j ≤ hi ∧ x = nI j) ∨ (x.toInt < 0 ∨ (hi : Int) < x.toInt) := by
  rcases Int.lt_or_le x.toInt 0 with h | h
  · exact Or.inr (Or.inl h)
  · rcases Int.lt_or_le (hi : Int) x.toInt with h2 | h2
    · exact Or.inr (Or.inr h2)
    · have h3 : ¬ x < 0 := fun h4 => by have := Int32.lt_iff_toInt_lt.mp h4; rw [Int32.toInt_zero] at this; omega
      obtain ⟨j, hj, e⟩ := nI_of h3
      refine Or.inl ⟨j, ?_, e⟩
      rw [e, nI_toInt hj] at h2
      omega
theorem xa_16 {p0 : Int32} (h1 : ¬ p0 < 0) (h2 : ¬ 15 < p0) : ∃ i, i < 16 ∧ p0 = nI i := by
  obtain ⟨j, hj, e⟩ := nI_of h1
  subst e
  exact ⟨j, Nat.lt_of_le_of_lt (Nat.le_of_not_lt (fun h => h2 ((nI_ltI (by decide) hj).mpr h))) (by decide), rfl⟩
theorem xa_n0 {n : Nat} (hn : n ≤ 232) (h : (0 : Int32) < 0 ∨ nI n ≤ 0) : n = 0 := by
  rcases h with h | h
  · exact absurd h (by decide)
  · rcases Nat.eq_zero_or_pos n with h3 | h3
    · exact h3
    · exact absurd h (nI_nle h3 (by omega))
abbrev xa_addP (x : XS) (n : Nat) (fr to tm : Int32) (b : Nat) (u : XS) : Prop := ∃ a q, a ∉ (xa_P x).1 ∧ q ≤ n ∧ (∀ j, q ≤ j → j < n → tm < xa_at x j 3) ∧ (∀ j, q = j + 1 → ¬ tm < xa_at x j 3) ∧ u = xa_add x n a q (xa_five 0 to fr tm (x.1 1)) b
theorem xa_add_R0 {x : XS} {n a q : Nat} {v : Nat → Int32} {b : Nat} (h : xa_R0 x n) (hn : n < 232) (hf : a ∉ (xa_P x).1) (hq : q ≤ n) : xa_R0 (xa_add x n a q v b) (n + 1) := by
  obtain ⟨e1, e2, e3⟩ := xa_msg_E (xa_sI (xa_sE (xa_sP (xa_sI x 1 (x.1 1 + 1)) ((xa_P x).1 ++ [a], va_up (xa_P x).2 a (xa_ev v b))) (xa_ins (xa_E x) n q a)) 7 (nI (n + 1))) (v 0) 1
  refine ⟨e3, by omega, fun t ht => ?_⟩
  show ∃ c, xa_E (xa_msg _ _ _) t = some c ∧ xa_okE (xa_P (xa_msg _ _ _)) c
  rw [e1, e2]
  show ∃ c, xa_ins (xa_E x) n q a t = some c ∧ xa_okE ((xa_P x).1 ++ [a], va_up (xa_P x).2 a (xa_ev v b)) c
  unfold xa_ins
  by_cases h1 : t < q
  · rw [if_pos h1]
    obtain ⟨c, h3, h4⟩ := h.2.2 t (by omega)
    exact ⟨c, h3, (xa_okE_up h4 hf).1⟩
  · rw [if_neg h1]
    by_cases h2 : t = q
    · rw [if_pos h2]
      exact ⟨a, rfl, (xa_okE_of (v := v) (b := b) ⟨List.mem_append_right _ List.mem_cons_self, va_up_self _ _ _⟩).1⟩
    · rw [if_neg h2, if_pos (by omega)]
      obtain ⟨c, h3, h4⟩ := h.2.2 (t - 1) (by omega)
      exact ⟨c, h3, (xa_okE_up h4 hf).1⟩
theorem xa_add_I (x : XS) (n a q : Nat) (v : Nat → Int32) (b i : Nat) (h1 : i ≠ 1) (h7 : i ≠ 7) (h8 : i ≠ 8) : (xa_add x n a q v b).1 i = x.1 i := by
  unfold xa_add
  rw [xa_msg_I _ _ _ _ h8]
  show upd (upd x.1 1 _) 7 _ i = _
  unfold upd
  rw [if_neg h7, if_neg h1]
theorem xa_add_8 (x : XS) (n a q : Nat) (v : Nat → Int32) (b : Nat) (h : v 0 = 0) : (xa_add x n a q v b).1 8 = x.1 8 + 1 := by
  unfold xa_add xa_msg
  rw [if_pos h]
  rfl
/-- launch() keeps the array in order of its words -/
theorem xa_lau_R0 {x u : XS} {n i9 j9 b : Nat} {fr to late r : Int32} (h : xa_lau x n i9 j9 fr to late b r u) (h0 : xa_R0 x n) (hn : x.1 8 < 200 → n < 232) :
    ∃ n2, ((r = 0 ∧ n2 = n) ∨ (r = 1 ∧ n2 = n + 1)) ∧ xa_R0 u n2 ∧ (∀ i, i ≠ 1 → i ≠ 4 → i ≠ 5 → i ≠ 7 → i ≠ 8 → u.1 i = x.1 i) ∧ u.1 8 = x.1 8 + r ∧ (r = 0 ∨ x.1 8 < 200) := by
  rcases h with ⟨rfl, h1, rfl⟩ | ⟨rfl, h1, a, q, hf, hq, -, -, rfl⟩
  · refine ⟨n, Or.inl ⟨rfl, rfl⟩, h0, fun i _ _ h5 _ _ => ?_, ?_, Or.inl rfl⟩
    · show upd x.1 5 _ i = _
      unfold upd
      rw [if_neg h5]
    · show x.1 8 = x.1 8 + 0
      rw [Int32.add_zero]
  · refine ⟨n + 1, Or.inr ⟨rfl, rfl⟩, (show xa_R0 (xa_add x n a q (xa_five 0 to fr (x.1 0 + xa_L x (i9 * 16 + j9) + late) (x.1 1)) b) (n + 1) from xa_add_R0 h0 (hn h1) hf hq), fun i h1 h4 _ h7 h8 => ?_, ?_, Or.inr h1⟩
    · rw [← xa_add_I x n a q (xa_five 0 to fr (x.1 0 + xa_L x (i9 * 16 + j9) + late) (x.1 1)) b i h1 h7 h8]
      show upd _ 4 _ i = _
      unfold upd
      rw [if_neg h4]
    · exact xa_add_8 x n a q (xa_five 0 to fr (x.1 0 + xa_L x (i9 * 16 + j9) + late) (x.1 1)) b rfl
theorem xa_drw {r d m : Int32} (h : 0 < m) (hp : (r = 0 ∧ ¬ 0 < m) ∨ (r = d ∧ 0 < m)) : r = d := by
  rcases hp with ⟨-, h2⟩ | ⟨h2, -⟩
  · exact absurd h h2
  · exact h2
/-- what launchThroughNoise() does -/
abbrev xa_noi (x : XS) (n i9 j9 sp : Nat) (fr to : Int32) (b : Nat) (r : Int32) (u : XS) : Prop :=
  (xa_draw (xa_lcg (xa_D x)) 1000 < x.1 12 ∧ r = 0 ∧ u = xa_sI (xa_sD x (xa_lcg (xa_D x))) 5 (x.1 5 + 1)) ∨
  (¬ xa_draw (xa_lcg (xa_D x)) 1000 < x.1 12 ∧ ∃ r1 u1, xa_lau (xa_sD x (xa_lcg (xa_lcg (xa_lcg (xa_D x))))) n i9 j9 fr to (xa_draw (xa_lcg (xa_lcg (xa_lcg (xa_D x)))) (nI (sp + 1))) b r1 u1 ∧
    ((¬ xa_draw (xa_lcg (xa_lcg (xa_D x))) 1000 < x.1 13 ∧ r = 0 + r1 ∧ u = u1) ∨ (xa_draw (xa_lcg (xa_lcg (xa_D x))) 1000 < x.1 13 ∧ ∃ n2 r2, ((r1 = 0 ∧ n2 = n) ∨ (r1 = 1 ∧ n2 = n + 1)) ∧ xa_lau (xa_sD u1 (xa_lcg (xa_D u1))) n2 i9 j9 fr to (xa_draw (xa_lcg (xa_D u1)) (nI (sp + 1))) b r2 u ∧ r = 0 + r1 + r2)))
theorem xa_posn (sp : Nat) (h : sp ≤ 1000) : 0 < nI (sp + 1) := nI_lt (a := 0) (Nat.succ_pos sp) (by omega)
theorem xa_second {x u : Int32} {n n1 : Nat} {r : Int32} (hn : x < 200 → n < 232) (hn2 : x + 1 < 200 → n + 1 < 232) (h1 : (r = 0 ∧ n1 = n) ∨ (r = 1 ∧ n1 = n + 1)) (h8 : u = x + r) (h : u < 200) : n1 < 232 := by
  rcases h1 with ⟨rfl, rfl⟩ | ⟨rfl, rfl⟩
  · rw [h8, Int32.add_zero] at h
    exact hn h
  · rw [h8] at h
    exact hn2 h
/-! one event that happens, as a function of the state -/
abbrev xa_hi (x : XS) (w kp : Nat) : Prop := x.1 9 = nI w ∧ w < 32 ∧ x.1 10 = nI kp ∧ kp ≤ 32
noncomputable def xa_hapY (x : XS) (v : Nat → Int32) (b : Nat) : XS := @ite _ (v 0 = 0) (Classical.propDecidable _) (@ite _ (xa_lose x v) (Classical.propDecidable _) (xa_sI (xa_sI x 0 (v 3)) 5 (x.1 5 + 1)) (xa_sB (xa_sI x 0 (v 3)) b)) (xa_sI x 0 (v 3))
noncomputable def xa_hapR (x : XS) (v : Nat → Int32) : Int32 := @ite _ (v 0 = 0) (Classical.propDecidable _) (@ite _ (xa_lose x v) (Classical.propDecidable _) (v 1 + 16) (v 1 + 0)) (v 1 + v 0)
theorem xa_hap_eq {x y : XS} {v : Nat → Int32} {b : Nat} {r : Int32} (h : xa_hap x v b y r) : y = xa_hapY x v b ∧ r = xa_hapR x v := by
  unfold xa_hapY xa_hapR
  rcases h with ⟨h1, h2, h3⟩ | ⟨h1, h4, h2, h3⟩ | ⟨h1, h4, h2, h3⟩
  · rw [if_neg h1, if_neg h1]; exact ⟨h3, h2⟩
  · rw [if_pos h1, if_pos h1, if_pos h4, if_pos h4]; exact ⟨h3, h2⟩
  · rw [if_pos h1, if_pos h1, if_neg h4, if_neg h4]; exact ⟨h3, h2⟩
theorem xa_hap_of (x : XS) (v : Nat → Int32) (b : Nat) : xa_hap x v b (xa_hapY x v b) (xa_hapR x v) := by
  unfold xa_hapY xa_hapR xa_hap
  by_cases h1 : v 0 = 0
  · by_cases h4 : xa_lose x v
    · rw [if_pos h1, if_pos h1, if_pos h4, if_pos h4]; exact Or.inr (Or.inl ⟨h1, h4, rfl, rfl⟩)
    · rw [if_pos h1, if_pos h1, if_neg h4, if_neg h4]; exact Or.inr (Or.inr ⟨h1, h4, rfl, rfl⟩)
  · rw [if_neg h1, if_neg h1]; exact Or.inl ⟨h1, rfl, rfl⟩
def xa_nN (x : XS) : Nat := (x.1 7).toNatClampNeg
def xa_nW (x : XS) : Nat := (x.1 9).toNatClampNeg
def xa_nK (x : XS) : Nat := (x.1 10).toNatClampNeg
/-- the first event's ints and bytes -/
abbrev xa_v0 (x : XS) : Nat → Int32 := xa_v (xa_P x) (xa_ad x 0)
abbrev xa_b0 (x : XS) : Nat := xa_b (xa_P x) (xa_ad x 0)
noncomputable def xa_stR (x : XS) : Int32 := xa_hapR (xa_take x (xa_nN x) 0) (xa_v0 x)
noncomputable def xa_st (x : XS) : XS := xa_rmb (xa_hapY (xa_take x (xa_nN x) 0) (xa_v0 x) (xa_b0 x)) (xa_stR x) (xa_v0 x) (xa_nW x) (xa_nK x)
noncomputable def xa_it : Nat → XS → XS
  | 0, x => x
  | c + 1, x => xa_st (xa_it c x)
theorem xa_nN_of {x : XS} {n : Nat} (h : xa_R0 x n) : xa_nN x = n := by
  unfold xa_nN; rw [h.1]; exact nI_clamp (by have := h.2.1; omega)
theorem xa_nW_of {x : XS} {w kp : Nat} (h : xa_hi x w kp) : xa_nW x = w ∧ xa_nK x = kp := by
  unfold xa_nW xa_nK; rw [h.1, h.2.2.1]; exact ⟨nI_clamp (by have := h.2.1; omega), nI_clamp (by have := h.2.2.2; omega)⟩
theorem xa_st_eq {x y : XS} {n w kp : Nat} {r : Int32} (h0 : xa_R0 x n) (hh : xa_hi x w kp) (hp : xa_hap (xa_take x n 0) (xa_v0 x) (xa_b0 x) y r) : xa_rmb y r (xa_v0 x) w kp = xa_st x ∧ r = xa_stR x := by
  obtain ⟨e1, e2⟩ := xa_hap_eq hp
  unfold xa_st xa_stR
  rw [xa_nN_of h0, (xa_nW_of hh).1, (xa_nW_of hh).2, ← e1, ← e2]
  exact ⟨rfl, rfl⟩
/-- what an event that happens leaves alone -/
theorem xa_hap_keep {x y : XS} {v : Nat → Int32} {b : Nat} {r : Int32} (h : xa_hap x v b y r) : xa_E y = xa_E x ∧ xa_P y = xa_P x ∧ xa_T y = xa_T x ∧ xa_F y = xa_F x ∧ xa_L y = xa_L x ∧ xa_D y = xa_D x ∧ ∀ i, i ≠ 0 → i ≠ 5 → y.1 i = x.1 i := by
  rcases h with ⟨h1, h2, rfl⟩ | ⟨h1, h4, h2, rfl⟩ | ⟨h1, h4, h2, rfl⟩
  · refine ⟨rfl, rfl, rfl, rfl, rfl, rfl, fun i a b => ?_⟩
    show upd x.1 0 _ i = _
    unfold upd; rw [if_neg a]
  · refine ⟨rfl, rfl, rfl, rfl, rfl, rfl, fun i a b => ?_⟩
    show upd (upd x.1 0 _) 5 _ i = _
    unfold upd; rw [if_neg b, if_neg a]
  · refine ⟨rfl, rfl, rfl, rfl, rfl, rfl, fun i a b => ?_⟩
    show upd x.1 0 _ i = _
    unfold upd; rw [if_neg a]
theorem xa_rmb_I (x : XS) (ans : Int32) (v : Nat → Int32) (w kp i : Nat) (h9 : i ≠ 9) (h10 : i ≠ 10) (h11 : i ≠ 11) : (xa_rmb x ans v w kp).1 i = x.1 i := by
  show upd (upd (upd x.1 9 _) 10 _) 11 _ i = _
  unfold upd
  rw [if_neg h11, if_neg h10, if_neg h9]
theorem xa_st_R0 {x : XS} {n w kp : Nat} (h0 : xa_R0 x n) (hn : 0 < n) (hh : xa_hi x w kp) : xa_R0 (xa_st x) (n - 1) ∧ xa_hi (xa_st x) ((w + 1) % 32) (if kp < 32 then kp + 1 else kp) := by
  have ht := h0.take hn
  have hk := xa_hap_keep (xa_hap_of (xa_take x n 0) (xa_v0 x) (xa_b0 x))
  have e := (xa_st_eq h0 hh (xa_hap_of (xa_take x n 0) (xa_v0 x) (xa_b0 x))).1
  rw [← e]
  generalize xa_hapY (xa_take x n 0) (xa_v0 x) (xa_b0 x) = y at hk ⊢
  generalize xa_hapR (xa_take x n 0) (xa_v0 x) = r
  refine ⟨⟨?_, ht.2.1, fun j hj => ?_⟩, rfl, Nat.mod_lt _ (by decide), ?_, ?_⟩
  · rw [xa_rmb_I _ _ _ _ _ _ (by decide) (by decide) (by decide), hk.2.2.2.2.2.2 7 (by decide) (by decide)]
    exact ht.1
  · show ∃ a, xa_E y j = some a ∧ xa_okE (xa_P y) a
    rw [hk.1, hk.2.1]
    exact ht.2.2 j hj
  · show (if kp < 32 then nI (kp + 1) else nI kp) = nI (if kp < 32 then kp + 1 else kp)
    by_cases h : kp < 32
    · rw [if_pos h, if_pos h]
    · rw [if_neg h, if_neg h]
  · have := hh.2.2.2
    by_cases h : kp < 32
    · rw [if_pos h]; omega
    · rw [if_neg h]; omega
