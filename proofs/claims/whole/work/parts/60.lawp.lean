/-! what the calls need of what holds -/
section SH
variable {k : xa_k} {x : XS} {y : MS} {n M U t D : Nat} {num : Nat → Nat}
theorem si0.hepx (h : si0 k x y n M U t D num) : ∀ j, j < n → xa_at x j 0 = 0 → ∃ a9 b9, a9 < 16 ∧ xa_at x j 2 = nI a9 ∧ b9 < 16 ∧ xa_at x j 1 = nI b9 := by
  intro j hj h0
  obtain ⟨b9, hb, eb⟩ := (h.2.2.1.1 j hj).2.2.2.1
  obtain ⟨a9, ha, ea⟩ := (h.2.2.1.1 j hj).2.2.2.2 h0
  exact ⟨a9, b9, ha, ea, hb, eb⟩
theorem si0.hepm (h : si0 k x y n M U t D num) : ∀ e, e < M → ma_msg y e → ∃ a9 b9, a9 < 16 ∧ ma_A y 3 e = nI a9 ∧ b9 < 16 ∧ ma_A y 2 e = nI b9 := by
  intro e he hm
  obtain ⟨j, hj, rfl⟩ := h.2.2.1.2.1 e he hm.1
  have hev := h.2.2.1.1 j hj
  obtain ⟨a9, b9, ha, ea, hb, eb⟩ := h.hepx j hj (hev.m0.mpr hm.2)
  exact ⟨a9, b9, ha, by rw [← hev.1.2.2.2.2.2]; exact ea, hb, by rw [← hev.1.2.2.2.2.1]; exact eb⟩
theorem si0.hBm (h : si0 k x y n M U t D num) (hU : U ≤ 4200) : ∀ e, e < M → ma_msg y e → ∃ b9 s9, ma_A y 4 e = nI b9 ∧ ma_A y 5 e = nI s9 ∧ b9 + s9 ≤ 4200 := by
  intro e he hm
  obtain ⟨j, hj, rfl⟩ := h.2.2.1.2.1 e he hm.1
  obtain ⟨len, f, g, -, -, h3, h4, h5, -⟩ := h.bys hj ((h.2.2.1.1 j hj).m0.mpr hm.2)
  exact ⟨g, len, h3, h4, by omega⟩
theorem si0.hAr (h : si0 k x y n M U t D num) (hU : U ≤ 4200) (hM : M ≤ 1700) : y.1 14 = -1 ∨ ∃ e b9 s9, e < 1700 ∧ y.1 14 = nI e ∧ ma_A y 4 e = nI b9 ∧ ma_A y 5 e = nI s9 ∧ b9 + s9 ≤ 4200 := by
  obtain ⟨al, af, -, -, h3⟩ := h.2.2.2.2.2.2.1
  rcases h3 with ⟨h3, -⟩ | ⟨e, bg, h4, h5, h6, h7, h8, -⟩
  · exact Or.inl h3
  · exact Or.inr ⟨e, bg, al, by omega, h5, h7, h6, by omega⟩
theorem si0.hAc (h : si0 k x y n M U t D num) (hM : M ≤ 1700) : y.1 14 = -1 ∨ ∃ e, e < 1700 ∧ y.1 14 = nI e := by
  obtain ⟨al, af, -, -, h3⟩ := h.2.2.2.2.2.2.1
  rcases h3 with ⟨h3, -⟩ | ⟨e, bg, h4, h5, -⟩
  · exact Or.inl h3
  · exact Or.inr ⟨e, by omega, h5⟩
end SH
theorem lg_same (a : Int64) : lg_cmp a a = 0 := by
  unfold lg_cmp
  have h : ¬ a < a := Int64.lt_irrefl
  simp [h]
section LS
variable {p : Program} {l : Launch} {e : Env} {R : Room} {s : State} {m : MethodId} {args : Array Value} {below : List Frame} {meth : Method} {c : Code} {H : Heap} {locs : List Loc} {cells slots : Nat} {Q : State → Prop}
variable {cc : ByteArray} {pc nL : Nat} {ls : Array Slot} {rest : List Value} {K : ga_K} {ws : va_W} {own : String} {b L : Nat} {xs : Nat → Int32}
theorem la_sld (hC : CallFix p m c cc nL s args ga_T own) (hX : va_X b L xs s s.heap) (hbl : b < s.heap.size) (hw : ga_w K ws (fun q : Nat => s.heap.size ≤ q) s H locs) {j : Nat} (hj : j < L) (hL : L ≤ 3072) (hdg : decode cc pc = .ok (.iaload, 1))
    (kk : W p l e R s m args below meth c H locs cells slots Q (F0 m (pc + 1) ls (.int (xs j) :: rest))) : W p l e R s m args below meth c H locs cells slots Q (F0 m pc ls (.int (nI j) :: .ref b :: rest)) := by
  refine va_sld hC.1 hC.2.1 hX hbl (A := fun q : Nat => s.heap.size ≤ q) (Nat.not_le.mpr hbl) hw.2.2.1 (vp_in_nI hj (by omega)) hdg ?_
  rw [nI_clamp (by omega)]
  exact kk
theorem la_slen (hC : CallFix p m c cc nL s args ga_T own) (hX : va_X b L xs s s.heap) (hbl : b < s.heap.size) (hw : ga_w K ws (fun q : Nat => s.heap.size ≤ q) s H locs) (hdg : decode cc pc = .ok (.arraylength, 1))
    (kk : W p l e R s m args below meth c H locs cells slots Q (F0 m (pc + 1) ls (.int (nI L) :: rest))) : W p l e R s m args below meth c H locs cells slots Q (F0 m pc ls (.ref b :: rest)) :=
  va_slen hC.1 hC.2.1 hX hbl (A := fun q : Nat => s.heap.size ≤ q) (Nat.not_le.mpr hbl) hw.2.2.1 hdg kk
end LS
