/-! the law's own: its row of one long, methods with an exception table, a catch -/
def la_o (k : xa_k) (o : Nat) (g : Nat → Int64) : Nat × va_E := (o, .inl (k.2.1 4, 1, .inr (.inl g)))
def la_W (k : xa_k) (o : Nat) (u : (Nat → Int64) × XS) : va_W := xa_W k u.2 ++ [la_o k o u.1]
section LL
variable {p : Program} {l : Launch} {e : Env} {R : Room} {s : State} {m : MethodId} {args : Array Value} {below : List Frame} {meth : Method} {c : Code} {H : Heap} {locs : List Loc} {cells slots : Nat} {Q : State → Prop}
variable {cc bytes : ByteArray} {pc nL maxL mc ms n idx : Nat} {ls : Array Slot} {rest As st0 : List Value} {K : ga_K} {ws ex : va_W} {A : Nat → Prop} {y : MethodName} {ret : Option FieldType} {rm : Room} {own : String} {b : Nat} {hh : List (Nat × Nat × Nat × Nat)}
variable {S SX : Type} {wf : S → va_W} {k : xa_k} {x : XS} {o : Nat} {g : Nat → Int64} {a : Nat → Nat} {yy : MS}
theorem la_put (hC : CallFix p m c cc nL s args ga_T own) (hw : ga_w (xa_K k) (xa_W k x ++ [la_o k o g]) A s H locs) {v : Int64} (hdg : decode cc pc = .ok (.lastore, 1))
    (kk : ∀ (H1 : Heap) (locs1 : List Loc), ga_w (xa_K k) (xa_W k x ++ [la_o k o (vp_updL g 0 v)]) A s H1 locs1 → W p l e R s m args below meth c H1 locs1 cells slots Q (F0 m (pc + 1) ls rest)) : W p l e R s m args below meth c H locs cells slots Q (F0 m pc ls (.long v :: .int 0 :: .ref o :: rest)) :=
  va_last hC.1 hC.2.1 hw.2.2.2.1 hw.1 hw.2.1 hw.2.2.1 (xa_W k x).length 4 ga_getEnd rfl (vp_in_nI (n := 0) (N := 1) (by decide) (by decide)) hdg (fun H1 locs1 h1 h2 h3 => kk H1 locs1 ⟨by rw [ga_setEnd] at h1; exact h1, by rw [ga_setEnd] at h2; exact h2, h3, hw.2.2.2⟩)
theorem la_get (hC : CallFix p m c cc nL s args ga_T own) (hw : ga_w (xa_K k) ((xa_W k x ++ [la_o k o g]) ++ ex) A s H locs) (hdg : decode cc pc = .ok (.laload, 1))
    (kk : W p l e R s m args below meth c H locs cells slots Q (F0 m (pc + 1) ls (.long (g 0) :: rest))) : W p l e R s m args below meth c H locs cells slots Q (F0 m pc ls (.int 0 :: .ref o :: rest)) :=
  va_lald hC.1 hC.2.1 hw.2.2.2.1 (ga_subL hw).1 (xa_W k x).length 4 ga_getEnd rfl (vp_in_nI (n := 0) (N := 1) (by decide) (by decide)) hdg kk
theorem ga_MetW {sz : Nat} {av : List Value} {Qc : Array Value → State → Outcome → State → Prop} {free : Addr → Prop} (hy : plainName y.cls = true) (hn : (lg_sl av).length ≤ maxL)
    (body : ∀ (p : Program) (e : Env) (s : State) (m : MethodId) (below : List Frame) (meth : Method) (c : Code), CallFix p m c bytes maxL s av.toArray ga_T y.cls → meth.sig.returnType = ret → meth.locks = false → c.exceptionTable.toList = tableOf hh → ga_w K ws (va_A ws sz) s s.heap [] → ∀ ls : Array Slot, lv_has ls maxL (lv_args 0 av) →
      W p l e rm s m av.toArray below meth c s.heap [] 0 0 (MQ below Qc av.toArray s mc ms free) (F0 m 0 ls [])) : Met l y (Cond.codeWith y bytes maxL ret hh :: ga_T) rm (va_Pc av (ga_pre K ws sz)) Qc mc ms free := by
  refine va_MetW (cc := bytes) (maxL := maxL) (ret := ret) (hh := hh) hy rfl ?_
  intro p e s m args below meth c s₁ B hml hv
  obtain ⟨rfl, hpre⟩ := hv
  have hts := atoms_spec (ws := Cond.codeWith y bytes maxL ret hh :: ga_T) B.pre
  have hl := lv_entry av (n := maxL) hn
  rw [lg_entry_eq]
  exact body p e s m below meth c ⟨B.exec, B.bytes, hml, findClass_of_methodNamed B.named, fun w hw => hts w (List.mem_cons_of_mem _ hw)⟩ B.returns B.notSynchronized (vx_table (x := y) B (hts _ List.mem_cons_self)) (ga_start hpre) _ hl
theorem ga_catch {E : String} {q : Addr} {ce : Cell} {D : va_G} {tys : List (ClassId × FieldType)} {nb : Nat} (hC : CallFix p m c cc nL s args ga_T own) (hw : ga_w (D, tys, ga_stat nb) ws A s H locs) (pre : List ExceptionTableEntry) (x : ExceptionTableEntry) (suf : List ExceptionTableEntry) (hsplit : c.exceptionTable.toList = pre ++ x :: suf)
    (hpass : ∀ z ∈ pre, z.catchType ≠ 0 ∧ ∃ nm : String, Cond.classLink own z.catchType nm ∈ ga_T ∧ va_Nc E nm s) (hx : covers x pc = true) (h0 : x.catchType ≠ 0) (hlink : Cond.classLink own x.catchType E ∈ ga_T) (hcast : Cond.castable E E ∈ ga_N) (g1 : H[q]? = some ce) (g2 : ce.vm = .none) (g3 : s.vm.findClass E = some ce.cls)
    (kk : W p l e R s m args below meth c H locs cells slots Q (F0 m x.handlerPc ls [.ref q])) : vx_W p l e R s m args below meth c H locs cells slots Q (F0 m pc ls rest) q := by
  have hSt : ga_stat nb A s s.heap := hw.2.2.2.2.2.1
  refine vx_catch hC.2.2.2.1 pre x suf hsplit (fun z hz => ?_) hx h0 (hC.2.2.2.2 _ hlink) ((hSt.2.2.2.2.1 _ hcast).use (ga_N_tab hcast)) g1 g2 g3 kk
  obtain ⟨h1, nm, h2, h3⟩ := hpass z hz
  exact Or.inr ⟨h1, nm, hC.2.2.2.2 _ h2, h3⟩
theorem ga_Nc {D : va_G} {tys : List (ClassId × FieldType)} {nb : Nat} (hw : ga_w (D, tys, ga_stat nb) ws A s H locs) : va_Nc ga_ISE ga_IAE s ∧ va_Nc ga_IAE ga_IOB s := (show ga_stat nb A s s.heap from hw.2.2.2.2.2.1).2.2.2.2.2.2.1
theorem ga_GoodW {ex : List Cond} (hex : ∀ w ∈ ex, w ∈ ga_T) (hc : Cond.codeWith y bytes maxL ret hh ∈ ga_T) : GoodIn ga_T (ex ++ (Cond.codeWith y bytes maxL ret hh :: ga_T)) := by
  intro w hw
  have h : w ∈ ga_T := by
    rcases List.mem_append.mp hw with h | h
    · exact hex w h
    · rcases List.mem_cons.mp h with h | h
      · rw [h]; exact hc
      · exact h
  exact ⟨h, ga_Tgood w h⟩
theorem ga_cwSW (ht : ∀ w ∈ ga_T, w.before args s = true) (hm : ga_Mw y bytes maxL ret hh n) (hl : Cond.methodLink own idx y ∈ ga_T) (hrc : rm.cells = mc) (hrs : rm.slots = ms) (hR : rm.frames + 1 ≤ R.frames ∧ 8 + (maxL + 11) + rm.locals ≤ R.locals) : vx_CSW R s args own idx y bytes maxL ret hh (Cond.codeWith y bytes maxL ret hh :: ga_T) rm mc ms n :=
  vx_cwSW n ht (ga_GoodW (ex := [.methodLink own idx y, .static y, .initialized y.cls]) (by
    intro w hw
    simp only [List.mem_cons, List.not_mem_nil, or_false] at hw
    rcases hw with rfl | rfl | rfl
    · exact hl
    · exact hm.1.1
    · exact hm.1.2.1) hm.1.2.2) rfl hrc hrs hm.2 hR
theorem ga_SwL {post : Int32 → S → Prop} (hC : CallFix p m c cc nL s args ga_T own) (hw : ga_w K (ws ++ ex) A s H locs)
    (hM : Met l y (Cond.codeWith y bytes maxL ret hh :: ga_T) rm (va_Pc As (ga_pre K ws H.size)) (va_Qi post (ga_post K ws H.size wf) (va_A ws H.size)) mc ms (va_A ws H.size))
    (hm : ga_Mw y bytes maxL ret hh n) (hl : Cond.methodLink own idx y ∈ ga_T)
    (hrc : rm.cells = mc) (hrs : rm.slots = ms) (hR : rm.frames + 1 ≤ R.frames ∧ 8 + (maxL + 11) + rm.locals ≤ R.locals) (hn : As.length = n) (hsz : ls.size = nL) (hst : st0 = As.reverse ++ rest)
    (hro : (rest.map fun v => v.category).sum ≤ 8) (hdg : decode cc pc = .ok (.invokestatic idx, 3)) (hf : cells + mc ≤ R.cells ∧ slots + ms ≤ R.slots)
    (kk : ∀ (r : Int32) (u : S) (H1 : Heap) (locs1 : List Loc), post r u → ga_w K (wf u ++ ex) A s H1 locs1 → W p l e R s m args below meth c H1 locs1 (cells + mc) (slots + ms) Q (F0 m (pc + 3) ls (.int r :: rest))) : W p l e R s m args below meth c H locs cells slots Q (F0 m pc ls st0) :=
  va_calli (vx_runSW hC hM (ga_cwSW hC.2.2.2.2 hm hl hrc hrs hR) ⟨ga_blind, fun U hU hW => ⟨rfl, ga_enter (ga_subL hw) U hU hW⟩⟩ rfl hn hsz hst (lv_room hro) hdg hf) hw.2.2.1 (fun q _ h => ga_free (ga_subL hw) q h) (ga_free (ga_subL hw))
    (fun r u t H1 locs1 ht _ hp hB _ hk hS => kk r u H1 locs1 hp (ga_joinL hw (by rw [← ht]; exact hB.1) hB.2 hk hS))
end LL
