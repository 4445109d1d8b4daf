/-! what is given of the start beside the good words: NO_BYTES, Throwable's two statics, texts, links in the nest, casts -/
def ga_IAE : String := "java/lang/IllegalArgumentException"
def ga_ISE : String := "java/lang/IllegalStateException"
def ga_IOB : String := "java/lang/IndexOutOfBoundsException"
def ga_N : List Cond := [.fieldLinkNest "NetWires$Tape" 23 "NetWires" "NO_BYTES" "[B" "NetWires", .castable ga_IAE ga_IAE, .castable ga_ISE ga_ISE, .castable ga_IOB ga_IOB, .castable "[B" "java/lang/Cloneable", .declares ⟨"java/lang/RuntimeException", "<init>", "(Ljava/lang/String;)V"⟩, .declares ⟨"java/lang/Exception", "<init>", "(Ljava/lang/String;)V"⟩, .declares ⟨"java/lang/Throwable", "<init>", "(Ljava/lang/String;)V"⟩]
def ga_S : List (String × Nat × String) := [("NetWires", 75, "n is not 1 .. 8"), ("NetWires", 86, "the tape is full"), ("NetWires", 143, "n is not 1 .. 1000"), ("NetWires", 160, "loss, twice and spread are not all 0 .. 1000"), ("NetWires", 169, "no such meddling"), ("NetWires", 193, "no such message"), ("NetWires", 196, "no such byte"), ("NetWires", 201, "no such timer"), ("NetWires", 212, "no such endpoint"), ("NetWires", 214, "no such ticks"), ("NetWires", 217, "no such set of endpoints")]
def ga_stat (nb : Nat) (A : Nat → Prop) (U : State) (H : Heap) : Prop :=
  va_Z "NetWires" "NO_BYTES" "[B" (.ref nb) A U H ∧ va_T .byte nb 0 (fun _ => .int 0) A U H ∧ vx_Zq Bundle.tN "UNASSIGNED_STACK" Bundle.steD A U H ∧ vx_Zq Bundle.tN "SUPPRESSED_SENTINEL" Bundle.listD A U H ∧
  (∀ w ∈ ga_N, va_Nw w U) ∧ (∀ q ∈ ga_S, ∃ a, vk_R q.1 q.2.1 q.2.2 a U) ∧ (va_Nc ga_ISE ga_IAE U ∧ va_Nc ga_IAE ga_IOB U) ∧ va_AO "NetWires$Event" U
theorem ga_N_warm {s U : State} (hW : s.WarmedH U.vm) {w : Cond} (hw : w ∈ ga_N) (h : va_Nw w s) : va_Nw w U := by
  unfold ga_N at hw
  simp only [List.mem_cons, List.not_mem_nil, or_false] at hw
  rcases hw with rfl | rfl | rfl | rfl | rfl | rfl | rfl | rfl
  · exact h.warmF hW
  · exact h.warmC hW
  · exact h.warmC hW
  · exact h.warmC hW
  · exact h.warmC hW
  · exact h.warmD hW
  · exact h.warmD hW
  · exact h.warmD hW
theorem ga_N_tab {w : Cond} (hw : w ∈ ga_N) : w.onTables = true := by
  unfold ga_N at hw
  simp only [List.mem_cons, List.not_mem_nil, or_false] at hw
  rcases hw with rfl | rfl | rfl | rfl | rfl | rfl | rfl | rfl <;> rfl
/-! A layer over the kit's worlds: ONE predicate 'ga_w' for all that a method knows of the heap (cells, apart, what has changed, the tables, the statics), and one row for each kind of call and of end. K = (class numbers and slots, array classes, the statics' words). -/
abbrev ga_K : Type := va_G × List (ClassId × FieldType) × ((Nat → Prop) → State → Heap → Prop)
/-- what the statics' words must bear: a warmed machine, a heap that keeps what is not ours, fewer cells of ours -/
def ga_St (St : (Nat → Prop) → State → Heap → Prop) : Prop :=
  (∀ (A : Nat → Prop) (u U : State) (H : Heap), u.WarmedH U.vm → St A u H → St A U H) ∧ (∀ (A : Nat → Prop) (u U : State) (H : Heap), U.vm = u.vm → St A u H → St A U H) ∧
  (∀ (A : Nat → Prop) (U : State) (H H1 : Heap), (∀ a : Nat, a < H.size → ¬ A a → H1[a]? = H[a]?) → St A U H → St A U H1) ∧ (∀ (A B : Nat → Prop) (U : State) (H : Heap), (∀ q, B q → A q) → St A U H → St B U H)
def ga_w (K : ga_K) (ws : va_W) (A : Nat → Prop) (s : State) (H : Heap) (locs : List Loc) : Prop :=
  va_P K.1 classes ws H ∧ va_D A ws ∧ va_S A s.heap H locs ∧ va_K K.1 classes K.2.1 s ∧ (∀ q, s.heap.size ≤ q → A q) ∧ K.2.2 A s s.heap ∧ ga_St K.2.2
def ga_pre (K : ga_K) (ws : va_W) (sz : Nat) (U : State) : Prop :=
  U.heap.size = sz ∧ va_P K.1 classes ws U.heap ∧ va_D (fun _ => True) ws ∧ va_K K.1 classes K.2.1 U ∧ K.2.2 (va_A ws sz) U U.heap ∧ ga_St K.2.2
def ga_post {S : Type} (K : ga_K) (ws : va_W) (sz : Nat) (wf : S → va_W) (u : S) (t : State) : Prop := va_P K.1 classes (wf u) t.heap ∧ va_D (va_A ws sz) (wf u)
theorem ga_start {K : ga_K} {ws : va_W} {sz : Nat} {s : State} (h : ga_pre K ws sz s) : ga_w K ws (va_A ws sz) s s.heap [] := by
  obtain ⟨hsz, hP, hD, hK, hSt, hg⟩ := h
  exact ⟨hP, hD.self, va_S.rf, hK, fun q hq => Or.inr (hsz ▸ hq), hSt, hg⟩
theorem ga_blind {K : ga_K} {ws : va_W} {sz : Nat} {av : List Value} : FrameBlind (va_Pc av (ga_pre K ws sz)) := by
  intro a U g mk q
  obtain ⟨q0, q1, qP, qD, qK, qS, qg⟩ := q
  exact ⟨q0, q1, qP, qD, va_K.moved (u := U) (U := U.calling g mk a) (Vm.Alike.refl U.vm) qK, qg.2.1 _ U (U.calling g mk a) _ rfl qS, qg⟩
theorem ga_free {K : ga_K} {ws : va_W} {A : Nat → Prop} {s : State} {H : Heap} {locs : List Loc} (hw : ga_w K ws A s H locs) : ∀ q, va_A ws H.size q → A q := by
  obtain ⟨hP, hD, hS, hK, hA, -, -⟩ := hw
  intro q hq
  rcases hq with ⟨k, e, hk⟩ | hq
  · exact hD.2 k (q, e) hk
  · exact hA q (Nat.le_trans hS.1 hq)
theorem ga_enter {K : ga_K} {ws : va_W} {A : Nat → Prop} {s : State} {H : Heap} {locs : List Loc} (hw : ga_w K ws A s H locs) (U : State) (hU : U.heap = H) (hW : s.WarmedH U.vm) : ga_pre K ws H.size U := by
  have hf := ga_free hw
  obtain ⟨hP, hD, hS, hK, hA, hSt, hg⟩ := hw
  refine ⟨by rw [hU], by rw [hU]; exact hP, hD.weaken (fun _ _ _ _ => trivial), va_K.moved hW.alike hK, ?_, hg⟩
  rw [hU]
  exact hg.2.2.2 A _ U H hf (hg.1 A s U H hW (hg.2.2.1 A s s.heap H hS.2.1 hSt))
theorem ga_leave {K : ga_K} {ws ws1 : va_W} {A : Nat → Prop} {s : State} {H H1 : Heap} {locs locs1 : List Loc} (hw : ga_w K ws A s H locs) (hP1 : va_P K.1 classes ws1 H1) (hD1 : va_D (va_A ws H.size) ws1) (hS1 : va_S A s.heap H1 locs1) : ga_w K ws1 A s H1 locs1 :=
  ⟨hP1, hD1.weaken (fun _ _ _ h => ga_free hw _ h), hS1, hw.2.2.2.1, hw.2.2.2.2.1, hw.2.2.2.2.2⟩
theorem ga_subL {K : ga_K} {w1 w2 : va_W} {A : Nat → Prop} {s : State} {H : Heap} {locs : List Loc} (hw : ga_w K (w1 ++ w2) A s H locs) : ga_w K w1 A s H locs := by
  obtain ⟨hP, hD, hr⟩ := hw
  have e : ∀ (k : Nat) (q : Nat × va_E), w1[k]? = some q → (w1 ++ w2)[k]? = some q := fun k q h => by
    rw [List.getElem?_append_left (List.getElem?_eq_some_iff.mp h).1]; exact h
  exact ⟨hP.by (fun k => k) e, hD.by (fun k => k) e (fun i j _ _ h => h), hr⟩
theorem ga_subR {K : ga_K} {w1 w2 : va_W} {A : Nat → Prop} {s : State} {H : Heap} {locs : List Loc} (hw : ga_w K (w1 ++ w2) A s H locs) : ga_w K w2 A s H locs := by
  obtain ⟨hP, hD, hr⟩ := hw
  have e : ∀ (k : Nat) (q : Nat × va_E), w2[k]? = some q → (w1 ++ w2)[w1.length + k]? = some q := fun k q h => by
    rw [List.getElem?_append_right (Nat.le_add_right _ _), Nat.add_sub_cancel_left]; exact h
  exact ⟨hP.by (fun k => w1.length + k) e, hD.by (fun k => w1.length + k) e (fun i j _ _ h => Nat.add_left_cancel h), hr⟩
/-- an address of the one part is none of the other's, and lies in the heap -/
theorem ga_apart {K : ga_K} {w1 w2 : va_W} {A : Nat → Prop} {s : State} {H : Heap} {locs : List Loc} (hw : ga_w K (w1 ++ w2) A s H locs) {i j : Nat} {p q : Nat × va_E} (hi : w1[i]? = some p) (hj : w2[j]? = some q) : p.1 ≠ q.1 := by
  intro h
  have e1 : (w1 ++ w2)[i]? = some p := by rw [List.getElem?_append_left (List.getElem?_eq_some_iff.mp hi).1]; exact hi
  have e2 : (w1 ++ w2)[w1.length + j]? = some q := by rw [List.getElem?_append_right (Nat.le_add_right _ _), Nat.add_sub_cancel_left]; exact hj
  have h3 := hw.2.1.1 i (w1.length + j) p q e1 e2 h
  have h4 := (List.getElem?_eq_some_iff.mp hi).1
  omega
theorem ga_joinL {K : ga_K} {w1 w2 v1 : va_W} {A : Nat → Prop} {s : State} {H H1 : Heap} {locs locs1 : List Loc} (hw : ga_w K (w1 ++ w2) A s H locs) (hP1 : va_P K.1 classes v1 H1) (hD1 : va_D (va_A w1 H.size) v1) (hk : ∀ q : Nat, q < H.size → ¬ va_A w1 H.size q → H1[q]? = H[q]?) (hS1 : va_S A s.heap H1 locs1) : ga_w K (v1 ++ w2) A s H1 locs1 := by
  have hL := ga_subL hw
  have hR := ga_subR hw
  have hlt : ∀ (j : Nat) (q : Nat × va_E), w2[j]? = some q → q.1 < H.size := fun j q h => (hR.1 j q h).lt
  have hno : ∀ (j : Nat) (q : Nat × va_E), w2[j]? = some q → ¬ va_A w1 H.size q.1 := by
    intro j q h ha
    rcases ha with ⟨i, e, hi⟩ | ha
    · exact ga_apart hw hi h rfl
    · exact absurd (hlt j q h) (by omega)
  refine ⟨hP1.app (hR.1.kept (fun j q h => hk q.1 (hlt j q h) (hno j q h))), (hD1.weaken (fun _ _ _ h => ga_free hL _ h)).app hR.2.1 ?_, hS1, hw.2.2.2⟩
  intro i j p q hi hj h
  exact hno j q hj (h ▸ hD1.2 i p hi)
theorem ga_joinR {K : ga_K} {w1 w2 v1 : va_W} {A : Nat → Prop} {s : State} {H H1 : Heap} {locs locs1 : List Loc} (hw : ga_w K (w2 ++ w1) A s H locs) (hP1 : va_P K.1 classes v1 H1) (hD1 : va_D (va_A w1 H.size) v1) (hk : ∀ q : Nat, q < H.size → ¬ va_A w1 H.size q → H1[q]? = H[q]?) (hS1 : va_S A s.heap H1 locs1) : ga_w K (w2 ++ v1) A s H1 locs1 := by
  have hL := ga_subL hw
  have hR := ga_subR hw
  have hlt : ∀ (j : Nat) (q : Nat × va_E), w2[j]? = some q → q.1 < H.size := fun j q h => (hL.1 j q h).lt
  have hno : ∀ (j : Nat) (q : Nat × va_E), w2[j]? = some q → ¬ va_A w1 H.size q.1 := by
    intro j q h ha
    rcases ha with ⟨i, e, hi⟩ | ha
    · exact ga_apart hw h hi rfl
    · exact absurd (hlt j q h) (by omega)
  refine ⟨(hL.1.kept (fun j q h => hk q.1 (hlt j q h) (hno j q h))).app hP1, hL.2.1.app (hD1.weaken (fun _ _ _ h => ga_free hR _ h)) ?_, hS1, hw.2.2.2⟩
  intro i j p q hi hj h
  exact hno i p hi (h.symm ▸ hD1.2 j q hj)
/-- the words that every method stands on -/
theorem ga_Good {y : MethodName} {bytes : ByteArray} {maxL : Nat} {ret : Option FieldType} {ex : List Cond} (hex : ∀ w ∈ ex, w ∈ ga_T) (hc : Cond.code y bytes maxL ret ∈ ga_T) : GoodIn ga_T (ex ++ (Cond.code y bytes maxL ret :: ga_T)) := by
  intro w hw
  have h : w ∈ ga_T := by
    rcases List.mem_append.mp hw with h | h
    · exact hex w h
    · rcases List.mem_cons.mp h with h | h
      · rw [h]; exact hc
      · exact h
  exact ⟨h, ga_Tgood w h⟩
section GC
variable {p : Program} {l : Launch} {e : Env} {R : Room} {s : State} {m : MethodId} {args : Array Value} {below : List Frame} {meth : Method} {c : Code} {H : Heap} {locs : List Loc} {cells slots : Nat} {Q : State → Prop}
variable {cc bytes : ByteArray} {pc nL maxL mc ms n idx : Nat} {ls : Array Slot} {rest As st0 : List Value} {K : ga_K} {ws : va_W} {A : Nat → Prop} {y : MethodName} {ret : Option FieldType} {rm : Room} {own : String} {b : Nat}
theorem ga_cwV (ht : ∀ w ∈ ga_T, w.before args s = true) (hm : ga_M y bytes maxL ret n) (hl : Cond.methodLink own idx y ∈ ga_T) (hrc : rm.cells = mc) (hrs : rm.slots = ms) (hR : rm.frames + 1 ≤ R.frames ∧ 8 + (maxL + 11) + rm.locals ≤ R.locals) : CallW R s args own y.cls idx y bytes maxL ret (Cond.code y bytes maxL ret :: ga_T) rm mc ms n :=
  cwV n ht (ga_Good (ex := [.methodLink own idx y, .instanceMethod y, .selects y.cls y y, .initialized y.cls]) (by
    intro w hw
    simp only [List.mem_cons, List.not_mem_nil, or_false] at hw
    rcases hw with rfl | rfl | rfl | rfl
    · exact hl
    · exact hm.1.1
    · exact hm.1.2.1
    · exact hm.1.2.2.1) hm.1.2.2.2) rfl hrc hrs ⟨rfl, hm.2⟩ hR
theorem ga_cwS (ht : ∀ w ∈ ga_T, w.before args s = true) (hm : ga_Ms y bytes maxL ret n) (hl : Cond.methodLink own idx y ∈ ga_T) (hrc : rm.cells = mc) (hrs : rm.slots = ms) (hR : rm.frames + 1 ≤ R.frames ∧ 8 + (maxL + 11) + rm.locals ≤ R.locals) : CallB R s args own idx y bytes maxL ret (Cond.code y bytes maxL ret :: ga_T) rm mc ms n ∧ (Cond.static y).before args s = true :=
  va_cwS n ht (ga_Good (ex := [.methodLink own idx y, .static y, .initialized y.cls]) (by
    intro w hw
    simp only [List.mem_cons, List.not_mem_nil, or_false] at hw
    rcases hw with rfl | rfl | rfl
    · exact hl
    · exact hm.1.1
    · exact hm.1.2.1) hm.1.2.2) rfl hrc hrs hm.2 hR
theorem ga_cwI (ht : ∀ w ∈ ga_T, w.before args s = true) (hm : ga_Mi y bytes maxL n) (hl : Cond.methodLink own idx y ∈ ga_T) (hrc : rm.cells = mc) (hrs : rm.slots = ms) (hR : rm.frames + 1 ≤ R.frames ∧ 8 + (maxL + 11) + rm.locals ≤ R.locals) : CallB R s args own idx y bytes maxL none (Cond.code y bytes maxL none :: ga_T) rm mc ms n ∧ y.name = "<init>" ∧ (Cond.instanceMethod y).before args s = true :=
  cwI n ht (ga_Good (ex := []) (fun w h => absurd h List.not_mem_nil) hm.1.2.2.1) rfl hrc hrs (ht _ hm.1.2.1) (ht _ hl) (ht _ hm.1.1) hm.1.2.2.2 hm.2 hR
/-- the receiver: a cell of the world -/
theorem ga_recv {ci q0 : Nat} {q : vw_C} {fs : List Value} (hw : ga_w K ws A s H locs) (he : ws[q0]? = some (b, .inr (ci, fs))) (hc : classes[ci]? = some q) : ∃ cell : Cell, H[b]? = some cell ∧ cell.vm.isStatics = false ∧ s.vm.findClass q.1 = some cell.cls :=
  va_recv hw.2.2.2.1 hw.1 hc he
end GC
section GD
variable {p : Program} {l : Launch} {e : Env} {R : Room} {s : State} {m : MethodId} {args : Array Value} {below : List Frame} {meth : Method} {c : Code} {H : Heap} {locs : List Loc} {cells slots : Nat} {Q : State → Prop}
variable {cc bytes : ByteArray} {pc nL maxL mc ms n idx : Nat} {ls : Array Slot} {rest As st0 : List Value} {K : ga_K} {ws ex : va_W} {A : Nat → Prop} {y : MethodName} {ret : Option FieldType} {rm : Room} {own : String} {b : Nat}
variable {S SX : Type} {wf : S → va_W} {wx : SX → va_W}
/-- what a throwing method says of a throw: the class's name, and the world -/
def ga_XC (K : ga_K) (ws : va_W) (sz : Nat) (wx : SX → va_W) (px : String → SX → Prop) : String → State → State → Prop := vx_X (S := SX) (fun _ => True) (fun E u t => px E u ∧ ga_post K ws sz wx u t) (va_A ws sz)
theorem ga_Vi {post : Int32 → S → Prop} (hC : CallFix p m c cc nL s args ga_T own) (hw : ga_w K ws A s H locs)
    (hM : Met l y (Cond.code y bytes maxL ret :: ga_T) rm (va_Pc (.ref b :: As) (ga_pre K ws H.size)) (va_Qi post (ga_post K ws H.size wf) (va_A ws H.size)) mc ms (va_A ws H.size))
    (hm : ga_M y bytes maxL ret n) (hl : Cond.methodLink own idx y ∈ ga_T) (hrv : ∃ cell : Cell, H[b]? = some cell ∧ cell.vm.isStatics = false ∧ s.vm.findClass y.cls = some cell.cls)
    (hrc : rm.cells = mc) (hrs : rm.slots = ms) (hR : rm.frames + 1 ≤ R.frames ∧ 8 + (maxL + 11) + rm.locals ≤ R.locals) (hn : As.length = n) (hsz : ls.size = nL) (hst : st0 = As.reverse ++ .ref b :: rest)
    (hro : (rest.map fun v => v.category).sum ≤ 8) (hdg : decode cc pc = .ok (.invokevirtual idx, 3)) (hf : cells + mc ≤ R.cells ∧ slots + ms ≤ R.slots)
    (kk : ∀ (r : Int32) (u : S) (H1 : Heap) (locs1 : List Loc), post r u → ga_w K (wf u) A s H1 locs1 → W p l e R s m args below meth c H1 locs1 (cells + mc) (slots + ms) Q (F0 m (pc + 3) ls (.int r :: rest))) : W p l e R s m args below meth c H locs cells slots Q (F0 m pc ls st0) :=
  va_calli (va_runV hC hM (ga_cwV hC.2.2.2.2 hm hl hrc hrs hR) ⟨ga_blind, hrv, fun U hU hW => ⟨rfl, ga_enter hw U hU hW⟩⟩ rfl hn hsz hst (lv_room hro) hdg hf) hw.2.2.1 (fun q _ h => ga_free hw q h) (ga_free hw)
    (fun r u t H1 locs1 ht _ hp hB _ hk hS => kk r u H1 locs1 hp (ga_leave hw (by rw [← ht]; exact hB.1) hB.2 hS))
theorem ga_ViL {post : Int32 → S → Prop} (hC : CallFix p m c cc nL s args ga_T own) (hw : ga_w K (ws ++ ex) A s H locs)
    (hM : Met l y (Cond.code y bytes maxL ret :: ga_T) rm (va_Pc (.ref b :: As) (ga_pre K ws H.size)) (va_Qi post (ga_post K ws H.size wf) (va_A ws H.size)) mc ms (va_A ws H.size))
    (hm : ga_M y bytes maxL ret n) (hl : Cond.methodLink own idx y ∈ ga_T) (hrv : ∃ cell : Cell, H[b]? = some cell ∧ cell.vm.isStatics = false ∧ s.vm.findClass y.cls = some cell.cls)
    (hrc : rm.cells = mc) (hrs : rm.slots = ms) (hR : rm.frames + 1 ≤ R.frames ∧ 8 + (maxL + 11) + rm.locals ≤ R.locals) (hn : As.length = n) (hsz : ls.size = nL) (hst : st0 = As.reverse ++ .ref b :: rest)
    (hro : (rest.map fun v => v.category).sum ≤ 8) (hdg : decode cc pc = .ok (.invokevirtual idx, 3)) (hf : cells + mc ≤ R.cells ∧ slots + ms ≤ R.slots)
    (kk : ∀ (r : Int32) (u : S) (H1 : Heap) (locs1 : List Loc), post r u → ga_w K (wf u ++ ex) A s H1 locs1 → W p l e R s m args below meth c H1 locs1 (cells + mc) (slots + ms) Q (F0 m (pc + 3) ls (.int r :: rest))) : W p l e R s m args below meth c H locs cells slots Q (F0 m pc ls st0) :=
  va_calli (va_runV hC hM (ga_cwV hC.2.2.2.2 hm hl hrc hrs hR) ⟨ga_blind, hrv, fun U hU hW => ⟨rfl, ga_enter (ga_subL hw) U hU hW⟩⟩ rfl hn hsz hst (lv_room hro) hdg hf) hw.2.2.1 (fun q _ h => ga_free (ga_subL hw) q h) (ga_free (ga_subL hw))
    (fun r u t H1 locs1 ht _ hp hB _ hk hS => kk r u H1 locs1 hp (ga_joinL hw (by rw [← ht]; exact hB.1) hB.2 hk hS))
theorem ga_ViR {post : Int32 → S → Prop} (hC : CallFix p m c cc nL s args ga_T own) (hw : ga_w K (ex ++ ws) A s H locs)
    (hM : Met l y (Cond.code y bytes maxL ret :: ga_T) rm (va_Pc (.ref b :: As) (ga_pre K ws H.size)) (va_Qi post (ga_post K ws H.size wf) (va_A ws H.size)) mc ms (va_A ws H.size))
    (hm : ga_M y bytes maxL ret n) (hl : Cond.methodLink own idx y ∈ ga_T) (hrv : ∃ cell : Cell, H[b]? = some cell ∧ cell.vm.isStatics = false ∧ s.vm.findClass y.cls = some cell.cls)
    (hrc : rm.cells = mc) (hrs : rm.slots = ms) (hR : rm.frames + 1 ≤ R.frames ∧ 8 + (maxL + 11) + rm.locals ≤ R.locals) (hn : As.length = n) (hsz : ls.size = nL) (hst : st0 = As.reverse ++ .ref b :: rest)
    (hro : (rest.map fun v => v.category).sum ≤ 8) (hdg : decode cc pc = .ok (.invokevirtual idx, 3)) (hf : cells + mc ≤ R.cells ∧ slots + ms ≤ R.slots)
    (kk : ∀ (r : Int32) (u : S) (H1 : Heap) (locs1 : List Loc), post r u → ga_w K (ex ++ wf u) A s H1 locs1 → W p l e R s m args below meth c H1 locs1 (cells + mc) (slots + ms) Q (F0 m (pc + 3) ls (.int r :: rest))) : W p l e R s m args below meth c H locs cells slots Q (F0 m pc ls st0) :=
  va_calli (va_runV hC hM (ga_cwV hC.2.2.2.2 hm hl hrc hrs hR) ⟨ga_blind, hrv, fun U hU hW => ⟨rfl, ga_enter (ga_subR hw) U hU hW⟩⟩ rfl hn hsz hst (lv_room hro) hdg hf) hw.2.2.1 (fun q _ h => ga_free (ga_subR hw) q h) (ga_free (ga_subR hw))
    (fun r u t H1 locs1 ht _ hp hB _ hk hS => kk r u H1 locs1 hp (ga_joinR hw (by rw [← ht]; exact hB.1) hB.2 hk hS))
theorem ga_Vl {post : Int64 → S → Prop} (hC : CallFix p m c cc nL s args ga_T own) (hw : ga_w K ws A s H locs)
    (hM : Met l y (Cond.code y bytes maxL ret :: ga_T) rm (va_Pc (.ref b :: As) (ga_pre K ws H.size)) (va_Ql post (ga_post K ws H.size wf) (va_A ws H.size)) mc ms (va_A ws H.size))
    (hm : ga_M y bytes maxL ret n) (hl : Cond.methodLink own idx y ∈ ga_T) (hrv : ∃ cell : Cell, H[b]? = some cell ∧ cell.vm.isStatics = false ∧ s.vm.findClass y.cls = some cell.cls)
    (hrc : rm.cells = mc) (hrs : rm.slots = ms) (hR : rm.frames + 1 ≤ R.frames ∧ 8 + (maxL + 11) + rm.locals ≤ R.locals) (hn : As.length = n) (hsz : ls.size = nL) (hst : st0 = As.reverse ++ .ref b :: rest)
    (hro : (rest.map fun v => v.category).sum ≤ 8) (hdg : decode cc pc = .ok (.invokevirtual idx, 3)) (hf : cells + mc ≤ R.cells ∧ slots + ms ≤ R.slots)
    (kk : ∀ (r : Int64) (u : S) (H1 : Heap) (locs1 : List Loc), post r u → ga_w K (wf u) A s H1 locs1 → W p l e R s m args below meth c H1 locs1 (cells + mc) (slots + ms) Q (F0 m (pc + 3) ls (.long r :: rest))) : W p l e R s m args below meth c H locs cells slots Q (F0 m pc ls st0) :=
  va_calll (va_runV hC hM (ga_cwV hC.2.2.2.2 hm hl hrc hrs hR) ⟨ga_blind, hrv, fun U hU hW => ⟨rfl, ga_enter hw U hU hW⟩⟩ rfl hn hsz hst (lv_room hro) hdg hf) hw.2.2.1 (fun q _ h => ga_free hw q h) (ga_free hw)
    (fun r u t H1 locs1 ht _ hp hB _ hk hS => kk r u H1 locs1 hp (ga_leave hw (by rw [← ht]; exact hB.1) hB.2 hS))
theorem ga_VlL {post : Int64 → S → Prop} (hC : CallFix p m c cc nL s args ga_T own) (hw : ga_w K (ws ++ ex) A s H locs)
    (hM : Met l y (Cond.code y bytes maxL ret :: ga_T) rm (va_Pc (.ref b :: As) (ga_pre K ws H.size)) (va_Ql post (ga_post K ws H.size wf) (va_A ws H.size)) mc ms (va_A ws H.size))
    (hm : ga_M y bytes maxL ret n) (hl : Cond.methodLink own idx y ∈ ga_T) (hrv : ∃ cell : Cell, H[b]? = some cell ∧ cell.vm.isStatics = false ∧ s.vm.findClass y.cls = some cell.cls)
    (hrc : rm.cells = mc) (hrs : rm.slots = ms) (hR : rm.frames + 1 ≤ R.frames ∧ 8 + (maxL + 11) + rm.locals ≤ R.locals) (hn : As.length = n) (hsz : ls.size = nL) (hst : st0 = As.reverse ++ .ref b :: rest)
    (hro : (rest.map fun v => v.category).sum ≤ 8) (hdg : decode cc pc = .ok (.invokevirtual idx, 3)) (hf : cells + mc ≤ R.cells ∧ slots + ms ≤ R.slots)
    (kk : ∀ (r : Int64) (u : S) (H1 : Heap) (locs1 : List Loc), post r u → ga_w K (wf u ++ ex) A s H1 locs1 → W p l e R s m args below meth c H1 locs1 (cells + mc) (slots + ms) Q (F0 m (pc + 3) ls (.long r :: rest))) : W p l e R s m args below meth c H locs cells slots Q (F0 m pc ls st0) :=
  va_calll (va_runV hC hM (ga_cwV hC.2.2.2.2 hm hl hrc hrs hR) ⟨ga_blind, hrv, fun U hU hW => ⟨rfl, ga_enter (ga_subL hw) U hU hW⟩⟩ rfl hn hsz hst (lv_room hro) hdg hf) hw.2.2.1 (fun q _ h => ga_free (ga_subL hw) q h) (ga_free (ga_subL hw))
    (fun r u t H1 locs1 ht _ hp hB _ hk hS => kk r u H1 locs1 hp (ga_joinL hw (by rw [← ht]; exact hB.1) hB.2 hk hS))
theorem ga_VlR {post : Int64 → S → Prop} (hC : CallFix p m c cc nL s args ga_T own) (hw : ga_w K (ex ++ ws) A s H locs)
    (hM : Met l y (Cond.code y bytes maxL ret :: ga_T) rm (va_Pc (.ref b :: As) (ga_pre K ws H.size)) (va_Ql post (ga_post K ws H.size wf) (va_A ws H.size)) mc ms (va_A ws H.size))
    (hm : ga_M y bytes maxL ret n) (hl : Cond.methodLink own idx y ∈ ga_T) (hrv : ∃ cell : Cell, H[b]? = some cell ∧ cell.vm.isStatics = false ∧ s.vm.findClass y.cls = some cell.cls)
    (hrc : rm.cells = mc) (hrs : rm.slots = ms) (hR : rm.frames + 1 ≤ R.frames ∧ 8 + (maxL + 11) + rm.locals ≤ R.locals) (hn : As.length = n) (hsz : ls.size = nL) (hst : st0 = As.reverse ++ .ref b :: rest)
    (hro : (rest.map fun v => v.category).sum ≤ 8) (hdg : decode cc pc = .ok (.invokevirtual idx, 3)) (hf : cells + mc ≤ R.cells ∧ slots + ms ≤ R.slots)
    (kk : ∀ (r : Int64) (u : S) (H1 : Heap) (locs1 : List Loc), post r u → ga_w K (ex ++ wf u) A s H1 locs1 → W p l e R s m args below meth c H1 locs1 (cells + mc) (slots + ms) Q (F0 m (pc + 3) ls (.long r :: rest))) : W p l e R s m args below meth c H locs cells slots Q (F0 m pc ls st0) :=
  va_calll (va_runV hC hM (ga_cwV hC.2.2.2.2 hm hl hrc hrs hR) ⟨ga_blind, hrv, fun U hU hW => ⟨rfl, ga_enter (ga_subR hw) U hU hW⟩⟩ rfl hn hsz hst (lv_room hro) hdg hf) hw.2.2.1 (fun q _ h => ga_free (ga_subR hw) q h) (ga_free (ga_subR hw))
    (fun r u t H1 locs1 ht _ hp hB _ hk hS => kk r u H1 locs1 hp (ga_joinR hw (by rw [← ht]; exact hB.1) hB.2 hk hS))
theorem ga_Vv {post : S → Prop} (hC : CallFix p m c cc nL s args ga_T own) (hw : ga_w K ws A s H locs)
    (hM : Met l y (Cond.code y bytes maxL ret :: ga_T) rm (va_Pc (.ref b :: As) (ga_pre K ws H.size)) (va_Qv post (ga_post K ws H.size wf) (va_A ws H.size)) mc ms (va_A ws H.size))
    (hm : ga_M y bytes maxL ret n) (hl : Cond.methodLink own idx y ∈ ga_T) (hrv : ∃ cell : Cell, H[b]? = some cell ∧ cell.vm.isStatics = false ∧ s.vm.findClass y.cls = some cell.cls)
    (hrc : rm.cells = mc) (hrs : rm.slots = ms) (hR : rm.frames + 1 ≤ R.frames ∧ 8 + (maxL + 11) + rm.locals ≤ R.locals) (hn : As.length = n) (hsz : ls.size = nL) (hst : st0 = As.reverse ++ .ref b :: rest)
    (hro : (rest.map fun v => v.category).sum ≤ 8) (hdg : decode cc pc = .ok (.invokevirtual idx, 3)) (hf : cells + mc ≤ R.cells ∧ slots + ms ≤ R.slots)
    (kk : ∀ (u : S) (H1 : Heap) (locs1 : List Loc), post u → ga_w K (wf u) A s H1 locs1 → W p l e R s m args below meth c H1 locs1 (cells + mc) (slots + ms) Q (F0 m (pc + 3) ls rest)) : W p l e R s m args below meth c H locs cells slots Q (F0 m pc ls st0) :=
  va_callv (va_runV hC hM (ga_cwV hC.2.2.2.2 hm hl hrc hrs hR) ⟨ga_blind, hrv, fun U hU hW => ⟨rfl, ga_enter hw U hU hW⟩⟩ rfl hn hsz hst (lv_room hro) hdg hf) hw.2.2.1 (fun q _ h => ga_free hw q h) (ga_free hw)
    (fun u t H1 locs1 ht _ hp hB _ hk hS => kk u H1 locs1 hp (ga_leave hw (by rw [← ht]; exact hB.1) hB.2 hS))
theorem ga_VvL {post : S → Prop} (hC : CallFix p m c cc nL s args ga_T own) (hw : ga_w K (ws ++ ex) A s H locs)
    (hM : Met l y (Cond.code y bytes maxL ret :: ga_T) rm (va_Pc (.ref b :: As) (ga_pre K ws H.size)) (va_Qv post (ga_post K ws H.size wf) (va_A ws H.size)) mc ms (va_A ws H.size))
    (hm : ga_M y bytes maxL ret n) (hl : Cond.methodLink own idx y ∈ ga_T) (hrv : ∃ cell : Cell, H[b]? = some cell ∧ cell.vm.isStatics = false ∧ s.vm.findClass y.cls = some cell.cls)
    (hrc : rm.cells = mc) (hrs : rm.slots = ms) (hR : rm.frames + 1 ≤ R.frames ∧ 8 + (maxL + 11) + rm.locals ≤ R.locals) (hn : As.length = n) (hsz : ls.size = nL) (hst : st0 = As.reverse ++ .ref b :: rest)
    (hro : (rest.map fun v => v.category).sum ≤ 8) (hdg : decode cc pc = .ok (.invokevirtual idx, 3)) (hf : cells + mc ≤ R.cells ∧ slots + ms ≤ R.slots)
    (kk : ∀ (u : S) (H1 : Heap) (locs1 : List Loc), post u → ga_w K (wf u ++ ex) A s H1 locs1 → W p l e R s m args below meth c H1 locs1 (cells + mc) (slots + ms) Q (F0 m (pc + 3) ls rest)) : W p l e R s m args below meth c H locs cells slots Q (F0 m pc ls st0) :=
  va_callv (va_runV hC hM (ga_cwV hC.2.2.2.2 hm hl hrc hrs hR) ⟨ga_blind, hrv, fun U hU hW => ⟨rfl, ga_enter (ga_subL hw) U hU hW⟩⟩ rfl hn hsz hst (lv_room hro) hdg hf) hw.2.2.1 (fun q _ h => ga_free (ga_subL hw) q h) (ga_free (ga_subL hw))
    (fun u t H1 locs1 ht _ hp hB _ hk hS => kk u H1 locs1 hp (ga_joinL hw (by rw [← ht]; exact hB.1) hB.2 hk hS))
theorem ga_VvR {post : S → Prop} (hC : CallFix p m c cc nL s args ga_T own) (hw : ga_w K (ex ++ ws) A s H locs)
    (hM : Met l y (Cond.code y bytes maxL ret :: ga_T) rm (va_Pc (.ref b :: As) (ga_pre K ws H.size)) (va_Qv post (ga_post K ws H.size wf) (va_A ws H.size)) mc ms (va_A ws H.size))
    (hm : ga_M y bytes maxL ret n) (hl : Cond.methodLink own idx y ∈ ga_T) (hrv : ∃ cell : Cell, H[b]? = some cell ∧ cell.vm.isStatics = false ∧ s.vm.findClass y.cls = some cell.cls)
    (hrc : rm.cells = mc) (hrs : rm.slots = ms) (hR : rm.frames + 1 ≤ R.frames ∧ 8 + (maxL + 11) + rm.locals ≤ R.locals) (hn : As.length = n) (hsz : ls.size = nL) (hst : st0 = As.reverse ++ .ref b :: rest)
    (hro : (rest.map fun v => v.category).sum ≤ 8) (hdg : decode cc pc = .ok (.invokevirtual idx, 3)) (hf : cells + mc ≤ R.cells ∧ slots + ms ≤ R.slots)
    (kk : ∀ (u : S) (H1 : Heap) (locs1 : List Loc), post u → ga_w K (ex ++ wf u) A s H1 locs1 → W p l e R s m args below meth c H1 locs1 (cells + mc) (slots + ms) Q (F0 m (pc + 3) ls rest)) : W p l e R s m args below meth c H locs cells slots Q (F0 m pc ls st0) :=
  va_callv (va_runV hC hM (ga_cwV hC.2.2.2.2 hm hl hrc hrs hR) ⟨ga_blind, hrv, fun U hU hW => ⟨rfl, ga_enter (ga_subR hw) U hU hW⟩⟩ rfl hn hsz hst (lv_room hro) hdg hf) hw.2.2.1 (fun q _ h => ga_free (ga_subR hw) q h) (ga_free (ga_subR hw))
    (fun u t H1 locs1 ht _ hp hB _ hk hS => kk u H1 locs1 hp (ga_joinR hw (by rw [← ht]; exact hB.1) hB.2 hk hS))
theorem ga_Vq {post : Option Nat → S → Prop} (hC : CallFix p m c cc nL s args ga_T own) (hw : ga_w K ws A s H locs)
    (hM : Met l y (Cond.code y bytes maxL ret :: ga_T) rm (va_Pc (.ref b :: As) (ga_pre K ws H.size)) (va_Qq post (ga_post K ws H.size wf) (va_A ws H.size)) mc ms (va_A ws H.size))
    (hm : ga_M y bytes maxL ret n) (hl : Cond.methodLink own idx y ∈ ga_T) (hrv : ∃ cell : Cell, H[b]? = some cell ∧ cell.vm.isStatics = false ∧ s.vm.findClass y.cls = some cell.cls)
    (hrc : rm.cells = mc) (hrs : rm.slots = ms) (hR : rm.frames + 1 ≤ R.frames ∧ 8 + (maxL + 11) + rm.locals ≤ R.locals) (hn : As.length = n) (hsz : ls.size = nL) (hst : st0 = As.reverse ++ .ref b :: rest)
    (hro : (rest.map fun v => v.category).sum ≤ 8) (hdg : decode cc pc = .ok (.invokevirtual idx, 3)) (hf : cells + mc ≤ R.cells ∧ slots + ms ≤ R.slots)
    (kk : ∀ (r : Option Nat) (u : S) (H1 : Heap) (locs1 : List Loc), post r u → ga_w K (wf u) A s H1 locs1 → W p l e R s m args below meth c H1 locs1 (cells + mc) (slots + ms) Q (F0 m (pc + 3) ls (va_rf r :: rest))) : W p l e R s m args below meth c H locs cells slots Q (F0 m pc ls st0) :=
  va_callq (va_runV hC hM (ga_cwV hC.2.2.2.2 hm hl hrc hrs hR) ⟨ga_blind, hrv, fun U hU hW => ⟨rfl, ga_enter hw U hU hW⟩⟩ rfl hn hsz hst (lv_room hro) hdg hf) hw.2.2.1 (fun q _ h => ga_free hw q h) (ga_free hw)
    (fun r u t H1 locs1 ht _ hp hB _ hk hS => kk r u H1 locs1 hp (ga_leave hw (by rw [← ht]; exact hB.1) hB.2 hS))
theorem ga_VqL {post : Option Nat → S → Prop} (hC : CallFix p m c cc nL s args ga_T own) (hw : ga_w K (ws ++ ex) A s H locs)
    (hM : Met l y (Cond.code y bytes maxL ret :: ga_T) rm (va_Pc (.ref b :: As) (ga_pre K ws H.size)) (va_Qq post (ga_post K ws H.size wf) (va_A ws H.size)) mc ms (va_A ws H.size))
    (hm : ga_M y bytes maxL ret n) (hl : Cond.methodLink own idx y ∈ ga_T) (hrv : ∃ cell : Cell, H[b]? = some cell ∧ cell.vm.isStatics = false ∧ s.vm.findClass y.cls = some cell.cls)
    (hrc : rm.cells = mc) (hrs : rm.slots = ms) (hR : rm.frames + 1 ≤ R.frames ∧ 8 + (maxL + 11) + rm.locals ≤ R.locals) (hn : As.length = n) (hsz : ls.size = nL) (hst : st0 = As.reverse ++ .ref b :: rest)
    (hro : (rest.map fun v => v.category).sum ≤ 8) (hdg : decode cc pc = .ok (.invokevirtual idx, 3)) (hf : cells + mc ≤ R.cells ∧ slots + ms ≤ R.slots)
    (kk : ∀ (r : Option Nat) (u : S) (H1 : Heap) (locs1 : List Loc), post r u → ga_w K (wf u ++ ex) A s H1 locs1 → W p l e R s m args below meth c H1 locs1 (cells + mc) (slots + ms) Q (F0 m (pc + 3) ls (va_rf r :: rest))) : W p l e R s m args below meth c H locs cells slots Q (F0 m pc ls st0) :=
  va_callq (va_runV hC hM (ga_cwV hC.2.2.2.2 hm hl hrc hrs hR) ⟨ga_blind, hrv, fun U hU hW => ⟨rfl, ga_enter (ga_subL hw) U hU hW⟩⟩ rfl hn hsz hst (lv_room hro) hdg hf) hw.2.2.1 (fun q _ h => ga_free (ga_subL hw) q h) (ga_free (ga_subL hw))
    (fun r u t H1 locs1 ht _ hp hB _ hk hS => kk r u H1 locs1 hp (ga_joinL hw (by rw [← ht]; exact hB.1) hB.2 hk hS))
theorem ga_VqR {post : Option Nat → S → Prop} (hC : CallFix p m c cc nL s args ga_T own) (hw : ga_w K (ex ++ ws) A s H locs)
    (hM : Met l y (Cond.code y bytes maxL ret :: ga_T) rm (va_Pc (.ref b :: As) (ga_pre K ws H.size)) (va_Qq post (ga_post K ws H.size wf) (va_A ws H.size)) mc ms (va_A ws H.size))
    (hm : ga_M y bytes maxL ret n) (hl : Cond.methodLink own idx y ∈ ga_T) (hrv : ∃ cell : Cell, H[b]? = some cell ∧ cell.vm.isStatics = false ∧ s.vm.findClass y.cls = some cell.cls)
    (hrc : rm.cells = mc) (hrs : rm.slots = ms) (hR : rm.frames + 1 ≤ R.frames ∧ 8 + (maxL + 11) + rm.locals ≤ R.locals) (hn : As.length = n) (hsz : ls.size = nL) (hst : st0 = As.reverse ++ .ref b :: rest)
    (hro : (rest.map fun v => v.category).sum ≤ 8) (hdg : decode cc pc = .ok (.invokevirtual idx, 3)) (hf : cells + mc ≤ R.cells ∧ slots + ms ≤ R.slots)
    (kk : ∀ (r : Option Nat) (u : S) (H1 : Heap) (locs1 : List Loc), post r u → ga_w K (ex ++ wf u) A s H1 locs1 → W p l e R s m args below meth c H1 locs1 (cells + mc) (slots + ms) Q (F0 m (pc + 3) ls (va_rf r :: rest))) : W p l e R s m args below meth c H locs cells slots Q (F0 m pc ls st0) :=
  va_callq (va_runV hC hM (ga_cwV hC.2.2.2.2 hm hl hrc hrs hR) ⟨ga_blind, hrv, fun U hU hW => ⟨rfl, ga_enter (ga_subR hw) U hU hW⟩⟩ rfl hn hsz hst (lv_room hro) hdg hf) hw.2.2.1 (fun q _ h => ga_free (ga_subR hw) q h) (ga_free (ga_subR hw))
    (fun r u t H1 locs1 ht _ hp hB _ hk hS => kk r u H1 locs1 hp (ga_joinR hw (by rw [← ht]; exact hB.1) hB.2 hk hS))
theorem ga_Si {post : Int32 → S → Prop} (hC : CallFix p m c cc nL s args ga_T own) (hw : ga_w K ws A s H locs)
    (hM : Met l y (Cond.code y bytes maxL ret :: ga_T) rm (va_Pc As (ga_pre K ws H.size)) (va_Qi post (ga_post K ws H.size wf) (va_A ws H.size)) mc ms (va_A ws H.size))
    (hm : ga_Ms y bytes maxL ret n) (hl : Cond.methodLink own idx y ∈ ga_T) 
    (hrc : rm.cells = mc) (hrs : rm.slots = ms) (hR : rm.frames + 1 ≤ R.frames ∧ 8 + (maxL + 11) + rm.locals ≤ R.locals) (hn : As.length = n) (hsz : ls.size = nL) (hst : st0 = As.reverse ++ rest)
    (hro : (rest.map fun v => v.category).sum ≤ 8) (hdg : decode cc pc = .ok (.invokestatic idx, 3)) (hf : cells + mc ≤ R.cells ∧ slots + ms ≤ R.slots)
    (kk : ∀ (r : Int32) (u : S) (H1 : Heap) (locs1 : List Loc), post r u → ga_w K (wf u) A s H1 locs1 → W p l e R s m args below meth c H1 locs1 (cells + mc) (slots + ms) Q (F0 m (pc + 3) ls (.int r :: rest))) : W p l e R s m args below meth c H locs cells slots Q (F0 m pc ls st0) :=
  va_calli (va_runS hC hM (ga_cwS hC.2.2.2.2 hm hl hrc hrs hR) ⟨ga_blind, fun U hU hW => ⟨rfl, ga_enter hw U hU hW⟩⟩ rfl hn hsz hst (lv_room hro) hdg hf) hw.2.2.1 (fun q _ h => ga_free hw q h) (ga_free hw)
    (fun r u t H1 locs1 ht _ hp hB _ hk hS => kk r u H1 locs1 hp (ga_leave hw (by rw [← ht]; exact hB.1) hB.2 hS))
theorem ga_SiL {post : Int32 → S → Prop} (hC : CallFix p m c cc nL s args ga_T own) (hw : ga_w K (ws ++ ex) A s H locs)
    (hM : Met l y (Cond.code y bytes maxL ret :: ga_T) rm (va_Pc As (ga_pre K ws H.size)) (va_Qi post (ga_post K ws H.size wf) (va_A ws H.size)) mc ms (va_A ws H.size))
    (hm : ga_Ms y bytes maxL ret n) (hl : Cond.methodLink own idx y ∈ ga_T) 
    (hrc : rm.cells = mc) (hrs : rm.slots = ms) (hR : rm.frames + 1 ≤ R.frames ∧ 8 + (maxL + 11) + rm.locals ≤ R.locals) (hn : As.length = n) (hsz : ls.size = nL) (hst : st0 = As.reverse ++ rest)
    (hro : (rest.map fun v => v.category).sum ≤ 8) (hdg : decode cc pc = .ok (.invokestatic idx, 3)) (hf : cells + mc ≤ R.cells ∧ slots + ms ≤ R.slots)
    (kk : ∀ (r : Int32) (u : S) (H1 : Heap) (locs1 : List Loc), post r u → ga_w K (wf u ++ ex) A s H1 locs1 → W p l e R s m args below meth c H1 locs1 (cells + mc) (slots + ms) Q (F0 m (pc + 3) ls (.int r :: rest))) : W p l e R s m args below meth c H locs cells slots Q (F0 m pc ls st0) :=
  va_calli (va_runS hC hM (ga_cwS hC.2.2.2.2 hm hl hrc hrs hR) ⟨ga_blind, fun U hU hW => ⟨rfl, ga_enter (ga_subL hw) U hU hW⟩⟩ rfl hn hsz hst (lv_room hro) hdg hf) hw.2.2.1 (fun q _ h => ga_free (ga_subL hw) q h) (ga_free (ga_subL hw))
    (fun r u t H1 locs1 ht _ hp hB _ hk hS => kk r u H1 locs1 hp (ga_joinL hw (by rw [← ht]; exact hB.1) hB.2 hk hS))
theorem ga_SiR {post : Int32 → S → Prop} (hC : CallFix p m c cc nL s args ga_T own) (hw : ga_w K (ex ++ ws) A s H locs)
    (hM : Met l y (Cond.code y bytes maxL ret :: ga_T) rm (va_Pc As (ga_pre K ws H.size)) (va_Qi post (ga_post K ws H.size wf) (va_A ws H.size)) mc ms (va_A ws H.size))
    (hm : ga_Ms y bytes maxL ret n) (hl : Cond.methodLink own idx y ∈ ga_T) 
    (hrc : rm.cells = mc) (hrs : rm.slots = ms) (hR : rm.frames + 1 ≤ R.frames ∧ 8 + (maxL + 11) + rm.locals ≤ R.locals) (hn : As.length = n) (hsz : ls.size = nL) (hst : st0 = As.reverse ++ rest)
    (hro : (rest.map fun v => v.category).sum ≤ 8) (hdg : decode cc pc = .ok (.invokestatic idx, 3)) (hf : cells + mc ≤ R.cells ∧ slots + ms ≤ R.slots)
    (kk : ∀ (r : Int32) (u : S) (H1 : Heap) (locs1 : List Loc), post r u → ga_w K (ex ++ wf u) A s H1 locs1 → W p l e R s m args below meth c H1 locs1 (cells + mc) (slots + ms) Q (F0 m (pc + 3) ls (.int r :: rest))) : W p l e R s m args below meth c H locs cells slots Q (F0 m pc ls st0) :=
  va_calli (va_runS hC hM (ga_cwS hC.2.2.2.2 hm hl hrc hrs hR) ⟨ga_blind, fun U hU hW => ⟨rfl, ga_enter (ga_subR hw) U hU hW⟩⟩ rfl hn hsz hst (lv_room hro) hdg hf) hw.2.2.1 (fun q _ h => ga_free (ga_subR hw) q h) (ga_free (ga_subR hw))
    (fun r u t H1 locs1 ht _ hp hB _ hk hS => kk r u H1 locs1 hp (ga_joinR hw (by rw [← ht]; exact hB.1) hB.2 hk hS))
theorem ga_Sl {post : Int64 → S → Prop} (hC : CallFix p m c cc nL s args ga_T own) (hw : ga_w K ws A s H locs)
    (hM : Met l y (Cond.code y bytes maxL ret :: ga_T) rm (va_Pc As (ga_pre K ws H.size)) (va_Ql post (ga_post K ws H.size wf) (va_A ws H.size)) mc ms (va_A ws H.size))
    (hm : ga_Ms y bytes maxL ret n) (hl : Cond.methodLink own idx y ∈ ga_T) 
    (hrc : rm.cells = mc) (hrs : rm.slots = ms) (hR : rm.frames + 1 ≤ R.frames ∧ 8 + (maxL + 11) + rm.locals ≤ R.locals) (hn : As.length = n) (hsz : ls.size = nL) (hst : st0 = As.reverse ++ rest)
    (hro : (rest.map fun v => v.category).sum ≤ 8) (hdg : decode cc pc = .ok (.invokestatic idx, 3)) (hf : cells + mc ≤ R.cells ∧ slots + ms ≤ R.slots)
    (kk : ∀ (r : Int64) (u : S) (H1 : Heap) (locs1 : List Loc), post r u → ga_w K (wf u) A s H1 locs1 → W p l e R s m args below meth c H1 locs1 (cells + mc) (slots + ms) Q (F0 m (pc + 3) ls (.long r :: rest))) : W p l e R s m args below meth c H locs cells slots Q (F0 m pc ls st0) :=
  va_calll (va_runS hC hM (ga_cwS hC.2.2.2.2 hm hl hrc hrs hR) ⟨ga_blind, fun U hU hW => ⟨rfl, ga_enter hw U hU hW⟩⟩ rfl hn hsz hst (lv_room hro) hdg hf) hw.2.2.1 (fun q _ h => ga_free hw q h) (ga_free hw)
    (fun r u t H1 locs1 ht _ hp hB _ hk hS => kk r u H1 locs1 hp (ga_leave hw (by rw [← ht]; exact hB.1) hB.2 hS))
theorem ga_SlL {post : Int64 → S → Prop} (hC : CallFix p m c cc nL s args ga_T own) (hw : ga_w K (ws ++ ex) A s H locs)
    (hM : Met l y (Cond.code y bytes maxL ret :: ga_T) rm (va_Pc As (ga_pre K ws H.size)) (va_Ql post (ga_post K ws H.size wf) (va_A ws H.size)) mc ms (va_A ws H.size))
    (hm : ga_Ms y bytes maxL ret n) (hl : Cond.methodLink own idx y ∈ ga_T) 
    (hrc : rm.cells = mc) (hrs : rm.slots = ms) (hR : rm.frames + 1 ≤ R.frames ∧ 8 + (maxL + 11) + rm.locals ≤ R.locals) (hn : As.length = n) (hsz : ls.size = nL) (hst : st0 = As.reverse ++ rest)
    (hro : (rest.map fun v => v.category).sum ≤ 8) (hdg : decode cc pc = .ok (.invokestatic idx, 3)) (hf : cells + mc ≤ R.cells ∧ slots + ms ≤ R.slots)
    (kk : ∀ (r : Int64) (u : S) (H1 : Heap) (locs1 : List Loc), post r u → ga_w K (wf u ++ ex) A s H1 locs1 → W p l e R s m args below meth c H1 locs1 (cells + mc) (slots + ms) Q (F0 m (pc + 3) ls (.long r :: rest))) : W p l e R s m args below meth c H locs cells slots Q (F0 m pc ls st0) :=
  va_calll (va_runS hC hM (ga_cwS hC.2.2.2.2 hm hl hrc hrs hR) ⟨ga_blind, fun U hU hW => ⟨rfl, ga_enter (ga_subL hw) U hU hW⟩⟩ rfl hn hsz hst (lv_room hro) hdg hf) hw.2.2.1 (fun q _ h => ga_free (ga_subL hw) q h) (ga_free (ga_subL hw))
    (fun r u t H1 locs1 ht _ hp hB _ hk hS => kk r u H1 locs1 hp (ga_joinL hw (by rw [← ht]; exact hB.1) hB.2 hk hS))
theorem ga_SlR {post : Int64 → S → Prop} (hC : CallFix p m c cc nL s args ga_T own) (hw : ga_w K (ex ++ ws) A s H locs)
    (hM : Met l y (Cond.code y bytes maxL ret :: ga_T) rm (va_Pc As (ga_pre K ws H.size)) (va_Ql post (ga_post K ws H.size wf) (va_A ws H.size)) mc ms (va_A ws H.size))
    (hm : ga_Ms y bytes maxL ret n) (hl : Cond.methodLink own idx y ∈ ga_T) 
    (hrc : rm.cells = mc) (hrs : rm.slots = ms) (hR : rm.frames + 1 ≤ R.frames ∧ 8 + (maxL + 11) + rm.locals ≤ R.locals) (hn : As.length = n) (hsz : ls.size = nL) (hst : st0 = As.reverse ++ rest)
    (hro : (rest.map fun v => v.category).sum ≤ 8) (hdg : decode cc pc = .ok (.invokestatic idx, 3)) (hf : cells + mc ≤ R.cells ∧ slots + ms ≤ R.slots)
    (kk : ∀ (r : Int64) (u : S) (H1 : Heap) (locs1 : List Loc), post r u → ga_w K (ex ++ wf u) A s H1 locs1 → W p l e R s m args below meth c H1 locs1 (cells + mc) (slots + ms) Q (F0 m (pc + 3) ls (.long r :: rest))) : W p l e R s m args below meth c H locs cells slots Q (F0 m pc ls st0) :=
  va_calll (va_runS hC hM (ga_cwS hC.2.2.2.2 hm hl hrc hrs hR) ⟨ga_blind, fun U hU hW => ⟨rfl, ga_enter (ga_subR hw) U hU hW⟩⟩ rfl hn hsz hst (lv_room hro) hdg hf) hw.2.2.1 (fun q _ h => ga_free (ga_subR hw) q h) (ga_free (ga_subR hw))
    (fun r u t H1 locs1 ht _ hp hB _ hk hS => kk r u H1 locs1 hp (ga_joinR hw (by rw [← ht]; exact hB.1) hB.2 hk hS))
theorem ga_Sv {post : S → Prop} (hC : CallFix p m c cc nL s args ga_T own) (hw : ga_w K ws A s H locs)
    (hM : Met l y (Cond.code y bytes maxL ret :: ga_T) rm (va_Pc As (ga_pre K ws H.size)) (va_Qv post (ga_post K ws H.size wf) (va_A ws H.size)) mc ms (va_A ws H.size))
    (hm : ga_Ms y bytes maxL ret n) (hl : Cond.methodLink own idx y ∈ ga_T) 
    (hrc : rm.cells = mc) (hrs : rm.slots = ms) (hR : rm.frames + 1 ≤ R.frames ∧ 8 + (maxL + 11) + rm.locals ≤ R.locals) (hn : As.length = n) (hsz : ls.size = nL) (hst : st0 = As.reverse ++ rest)
    (hro : (rest.map fun v => v.category).sum ≤ 8) (hdg : decode cc pc = .ok (.invokestatic idx, 3)) (hf : cells + mc ≤ R.cells ∧ slots + ms ≤ R.slots)
    (kk : ∀ (u : S) (H1 : Heap) (locs1 : List Loc), post u → ga_w K (wf u) A s H1 locs1 → W p l e R s m args below meth c H1 locs1 (cells + mc) (slots + ms) Q (F0 m (pc + 3) ls rest)) : W p l e R s m args below meth c H locs cells slots Q (F0 m pc ls st0) :=
  va_callv (va_runS hC hM (ga_cwS hC.2.2.2.2 hm hl hrc hrs hR) ⟨ga_blind, fun U hU hW => ⟨rfl, ga_enter hw U hU hW⟩⟩ rfl hn hsz hst (lv_room hro) hdg hf) hw.2.2.1 (fun q _ h => ga_free hw q h) (ga_free hw)
    (fun u t H1 locs1 ht _ hp hB _ hk hS => kk u H1 locs1 hp (ga_leave hw (by rw [← ht]; exact hB.1) hB.2 hS))
theorem ga_SvL {post : S → Prop} (hC : CallFix p m c cc nL s args ga_T own) (hw : ga_w K (ws ++ ex) A s H locs)
    (hM : Met l y (Cond.code y bytes maxL ret :: ga_T) rm (va_Pc As (ga_pre K ws H.size)) (va_Qv post (ga_post K ws H.size wf) (va_A ws H.size)) mc ms (va_A ws H.size))
    (hm : ga_Ms y bytes maxL ret n) (hl : Cond.methodLink own idx y ∈ ga_T) 
    (hrc : rm.cells = mc) (hrs : rm.slots = ms) (hR : rm.frames + 1 ≤ R.frames ∧ 8 + (maxL + 11) + rm.locals ≤ R.locals) (hn : As.length = n) (hsz : ls.size = nL) (hst : st0 = As.reverse ++ rest)
    (hro : (rest.map fun v => v.category).sum ≤ 8) (hdg : decode cc pc = .ok (.invokestatic idx, 3)) (hf : cells + mc ≤ R.cells ∧ slots + ms ≤ R.slots)
    (kk : ∀ (u : S) (H1 : Heap) (locs1 : List Loc), post u → ga_w K (wf u ++ ex) A s H1 locs1 → W p l e R s m args below meth c H1 locs1 (cells + mc) (slots + ms) Q (F0 m (pc + 3) ls rest)) : W p l e R s m args below meth c H locs cells slots Q (F0 m pc ls st0) :=
  va_callv (va_runS hC hM (ga_cwS hC.2.2.2.2 hm hl hrc hrs hR) ⟨ga_blind, fun U hU hW => ⟨rfl, ga_enter (ga_subL hw) U hU hW⟩⟩ rfl hn hsz hst (lv_room hro) hdg hf) hw.2.2.1 (fun q _ h => ga_free (ga_subL hw) q h) (ga_free (ga_subL hw))
    (fun u t H1 locs1 ht _ hp hB _ hk hS => kk u H1 locs1 hp (ga_joinL hw (by rw [← ht]; exact hB.1) hB.2 hk hS))
theorem ga_SvR {post : S → Prop} (hC : CallFix p m c cc nL s args ga_T own) (hw : ga_w K (ex ++ ws) A s H locs)
    (hM : Met l y (Cond.code y bytes maxL ret :: ga_T) rm (va_Pc As (ga_pre K ws H.size)) (va_Qv post (ga_post K ws H.size wf) (va_A ws H.size)) mc ms (va_A ws H.size))
    (hm : ga_Ms y bytes maxL ret n) (hl : Cond.methodLink own idx y ∈ ga_T) 
    (hrc : rm.cells = mc) (hrs : rm.slots = ms) (hR : rm.frames + 1 ≤ R.frames ∧ 8 + (maxL + 11) + rm.locals ≤ R.locals) (hn : As.length = n) (hsz : ls.size = nL) (hst : st0 = As.reverse ++ rest)
    (hro : (rest.map fun v => v.category).sum ≤ 8) (hdg : decode cc pc = .ok (.invokestatic idx, 3)) (hf : cells + mc ≤ R.cells ∧ slots + ms ≤ R.slots)
    (kk : ∀ (u : S) (H1 : Heap) (locs1 : List Loc), post u → ga_w K (ex ++ wf u) A s H1 locs1 → W p l e R s m args below meth c H1 locs1 (cells + mc) (slots + ms) Q (F0 m (pc + 3) ls rest)) : W p l e R s m args below meth c H locs cells slots Q (F0 m pc ls st0) :=
  va_callv (va_runS hC hM (ga_cwS hC.2.2.2.2 hm hl hrc hrs hR) ⟨ga_blind, fun U hU hW => ⟨rfl, ga_enter (ga_subR hw) U hU hW⟩⟩ rfl hn hsz hst (lv_room hro) hdg hf) hw.2.2.1 (fun q _ h => ga_free (ga_subR hw) q h) (ga_free (ga_subR hw))
    (fun u t H1 locs1 ht _ hp hB _ hk hS => kk u H1 locs1 hp (ga_joinR hw (by rw [← ht]; exact hB.1) hB.2 hk hS))
theorem ga_Sq {post : Option Nat → S → Prop} (hC : CallFix p m c cc nL s args ga_T own) (hw : ga_w K ws A s H locs)
    (hM : Met l y (Cond.code y bytes maxL ret :: ga_T) rm (va_Pc As (ga_pre K ws H.size)) (va_Qq post (ga_post K ws H.size wf) (va_A ws H.size)) mc ms (va_A ws H.size))
    (hm : ga_Ms y bytes maxL ret n) (hl : Cond.methodLink own idx y ∈ ga_T) 
    (hrc : rm.cells = mc) (hrs : rm.slots = ms) (hR : rm.frames + 1 ≤ R.frames ∧ 8 + (maxL + 11) + rm.locals ≤ R.locals) (hn : As.length = n) (hsz : ls.size = nL) (hst : st0 = As.reverse ++ rest)
    (hro : (rest.map fun v => v.category).sum ≤ 8) (hdg : decode cc pc = .ok (.invokestatic idx, 3)) (hf : cells + mc ≤ R.cells ∧ slots + ms ≤ R.slots)
    (kk : ∀ (r : Option Nat) (u : S) (H1 : Heap) (locs1 : List Loc), post r u → ga_w K (wf u) A s H1 locs1 → W p l e R s m args below meth c H1 locs1 (cells + mc) (slots + ms) Q (F0 m (pc + 3) ls (va_rf r :: rest))) : W p l e R s m args below meth c H locs cells slots Q (F0 m pc ls st0) :=
  va_callq (va_runS hC hM (ga_cwS hC.2.2.2.2 hm hl hrc hrs hR) ⟨ga_blind, fun U hU hW => ⟨rfl, ga_enter hw U hU hW⟩⟩ rfl hn hsz hst (lv_room hro) hdg hf) hw.2.2.1 (fun q _ h => ga_free hw q h) (ga_free hw)
    (fun r u t H1 locs1 ht _ hp hB _ hk hS => kk r u H1 locs1 hp (ga_leave hw (by rw [← ht]; exact hB.1) hB.2 hS))
theorem ga_SqL {post : Option Nat → S → Prop} (hC : CallFix p m c cc nL s args ga_T own) (hw : ga_w K (ws ++ ex) A s H locs)
    (hM : Met l y (Cond.code y bytes maxL ret :: ga_T) rm (va_Pc As (ga_pre K ws H.size)) (va_Qq post (ga_post K ws H.size wf) (va_A ws H.size)) mc ms (va_A ws H.size))
    (hm : ga_Ms y bytes maxL ret n) (hl : Cond.methodLink own idx y ∈ ga_T) 
    (hrc : rm.cells = mc) (hrs : rm.slots = ms) (hR : rm.frames + 1 ≤ R.frames ∧ 8 + (maxL + 11) + rm.locals ≤ R.locals) (hn : As.length = n) (hsz : ls.size = nL) (hst : st0 = As.reverse ++ rest)
    (hro : (rest.map fun v => v.category).sum ≤ 8) (hdg : decode cc pc = .ok (.invokestatic idx, 3)) (hf : cells + mc ≤ R.cells ∧ slots + ms ≤ R.slots)
    (kk : ∀ (r : Option Nat) (u : S) (H1 : Heap) (locs1 : List Loc), post r u → ga_w K (wf u ++ ex) A s H1 locs1 → W p l e R s m args below meth c H1 locs1 (cells + mc) (slots + ms) Q (F0 m (pc + 3) ls (va_rf r :: rest))) : W p l e R s m args below meth c H locs cells slots Q (F0 m pc ls st0) :=
  va_callq (va_runS hC hM (ga_cwS hC.2.2.2.2 hm hl hrc hrs hR) ⟨ga_blind, fun U hU hW => ⟨rfl, ga_enter (ga_subL hw) U hU hW⟩⟩ rfl hn hsz hst (lv_room hro) hdg hf) hw.2.2.1 (fun q _ h => ga_free (ga_subL hw) q h) (ga_free (ga_subL hw))
    (fun r u t H1 locs1 ht _ hp hB _ hk hS => kk r u H1 locs1 hp (ga_joinL hw (by rw [← ht]; exact hB.1) hB.2 hk hS))
theorem ga_SqR {post : Option Nat → S → Prop} (hC : CallFix p m c cc nL s args ga_T own) (hw : ga_w K (ex ++ ws) A s H locs)
    (hM : Met l y (Cond.code y bytes maxL ret :: ga_T) rm (va_Pc As (ga_pre K ws H.size)) (va_Qq post (ga_post K ws H.size wf) (va_A ws H.size)) mc ms (va_A ws H.size))
    (hm : ga_Ms y bytes maxL ret n) (hl : Cond.methodLink own idx y ∈ ga_T) 
    (hrc : rm.cells = mc) (hrs : rm.slots = ms) (hR : rm.frames + 1 ≤ R.frames ∧ 8 + (maxL + 11) + rm.locals ≤ R.locals) (hn : As.length = n) (hsz : ls.size = nL) (hst : st0 = As.reverse ++ rest)
    (hro : (rest.map fun v => v.category).sum ≤ 8) (hdg : decode cc pc = .ok (.invokestatic idx, 3)) (hf : cells + mc ≤ R.cells ∧ slots + ms ≤ R.slots)
    (kk : ∀ (r : Option Nat) (u : S) (H1 : Heap) (locs1 : List Loc), post r u → ga_w K (ex ++ wf u) A s H1 locs1 → W p l e R s m args below meth c H1 locs1 (cells + mc) (slots + ms) Q (F0 m (pc + 3) ls (va_rf r :: rest))) : W p l e R s m args below meth c H locs cells slots Q (F0 m pc ls st0) :=
  va_callq (va_runS hC hM (ga_cwS hC.2.2.2.2 hm hl hrc hrs hR) ⟨ga_blind, fun U hU hW => ⟨rfl, ga_enter (ga_subR hw) U hU hW⟩⟩ rfl hn hsz hst (lv_room hro) hdg hf) hw.2.2.1 (fun q _ h => ga_free (ga_subR hw) q h) (ga_free (ga_subR hw))
    (fun r u t H1 locs1 ht _ hp hB _ hk hS => kk r u H1 locs1 hp (ga_joinR hw (by rw [← ht]; exact hB.1) hB.2 hk hS))
theorem ga_Iv {post : S → Prop} (hC : CallFix p m c cc nL s args ga_T own) (hw : ga_w K ws A s H locs)
    (hM : Met l y (Cond.code y bytes maxL none :: ga_T) rm (va_Pc (.ref b :: As) (ga_pre K ws H.size)) (va_Qv post (ga_post K ws H.size wf) (va_A ws H.size)) mc ms (va_A ws H.size))
    (hm : ga_Mi y bytes maxL n) (hl : Cond.methodLink own idx y ∈ ga_T) 
    (hrc : rm.cells = mc) (hrs : rm.slots = ms) (hR : rm.frames + 1 ≤ R.frames ∧ 8 + (maxL + 11) + rm.locals ≤ R.locals) (hn : As.length = n) (hsz : ls.size = nL) (hst : st0 = As.reverse ++ .ref b :: rest)
    (hro : (rest.map fun v => v.category).sum ≤ 8) (hdg : decode cc pc = .ok (.invokespecial idx, 3)) (hf : cells + mc ≤ R.cells ∧ slots + ms ≤ R.slots)
    (kk : ∀ (u : S) (H1 : Heap) (locs1 : List Loc), post u → ga_w K (wf u) A s H1 locs1 → W p l e R s m args below meth c H1 locs1 (cells + mc) (slots + ms) Q (F0 m (pc + 3) ls rest)) : W p l e R s m args below meth c H locs cells slots Q (F0 m pc ls st0) :=
  va_callv (va_runI hC hM (ga_cwI hC.2.2.2.2 hm hl hrc hrs hR) ⟨ga_blind, fun U hU hW => ⟨rfl, ga_enter hw U hU hW⟩⟩ rfl hn hsz hst (lv_room hro) hdg hf) hw.2.2.1 (fun q _ h => ga_free hw q h) (ga_free hw)
    (fun u t H1 locs1 ht _ hp hB _ hk hS => kk u H1 locs1 hp (ga_leave hw (by rw [← ht]; exact hB.1) hB.2 hS))
theorem ga_IvL {post : S → Prop} (hC : CallFix p m c cc nL s args ga_T own) (hw : ga_w K (ws ++ ex) A s H locs)
    (hM : Met l y (Cond.code y bytes maxL none :: ga_T) rm (va_Pc (.ref b :: As) (ga_pre K ws H.size)) (va_Qv post (ga_post K ws H.size wf) (va_A ws H.size)) mc ms (va_A ws H.size))
    (hm : ga_Mi y bytes maxL n) (hl : Cond.methodLink own idx y ∈ ga_T) 
    (hrc : rm.cells = mc) (hrs : rm.slots = ms) (hR : rm.frames + 1 ≤ R.frames ∧ 8 + (maxL + 11) + rm.locals ≤ R.locals) (hn : As.length = n) (hsz : ls.size = nL) (hst : st0 = As.reverse ++ .ref b :: rest)
    (hro : (rest.map fun v => v.category).sum ≤ 8) (hdg : decode cc pc = .ok (.invokespecial idx, 3)) (hf : cells + mc ≤ R.cells ∧ slots + ms ≤ R.slots)
    (kk : ∀ (u : S) (H1 : Heap) (locs1 : List Loc), post u → ga_w K (wf u ++ ex) A s H1 locs1 → W p l e R s m args below meth c H1 locs1 (cells + mc) (slots + ms) Q (F0 m (pc + 3) ls rest)) : W p l e R s m args below meth c H locs cells slots Q (F0 m pc ls st0) :=
  va_callv (va_runI hC hM (ga_cwI hC.2.2.2.2 hm hl hrc hrs hR) ⟨ga_blind, fun U hU hW => ⟨rfl, ga_enter (ga_subL hw) U hU hW⟩⟩ rfl hn hsz hst (lv_room hro) hdg hf) hw.2.2.1 (fun q _ h => ga_free (ga_subL hw) q h) (ga_free (ga_subL hw))
    (fun u t H1 locs1 ht _ hp hB _ hk hS => kk u H1 locs1 hp (ga_joinL hw (by rw [← ht]; exact hB.1) hB.2 hk hS))
theorem ga_IvR {post : S → Prop} (hC : CallFix p m c cc nL s args ga_T own) (hw : ga_w K (ex ++ ws) A s H locs)
    (hM : Met l y (Cond.code y bytes maxL none :: ga_T) rm (va_Pc (.ref b :: As) (ga_pre K ws H.size)) (va_Qv post (ga_post K ws H.size wf) (va_A ws H.size)) mc ms (va_A ws H.size))
    (hm : ga_Mi y bytes maxL n) (hl : Cond.methodLink own idx y ∈ ga_T) 
    (hrc : rm.cells = mc) (hrs : rm.slots = ms) (hR : rm.frames + 1 ≤ R.frames ∧ 8 + (maxL + 11) + rm.locals ≤ R.locals) (hn : As.length = n) (hsz : ls.size = nL) (hst : st0 = As.reverse ++ .ref b :: rest)
    (hro : (rest.map fun v => v.category).sum ≤ 8) (hdg : decode cc pc = .ok (.invokespecial idx, 3)) (hf : cells + mc ≤ R.cells ∧ slots + ms ≤ R.slots)
    (kk : ∀ (u : S) (H1 : Heap) (locs1 : List Loc), post u → ga_w K (ex ++ wf u) A s H1 locs1 → W p l e R s m args below meth c H1 locs1 (cells + mc) (slots + ms) Q (F0 m (pc + 3) ls rest)) : W p l e R s m args below meth c H locs cells slots Q (F0 m pc ls st0) :=
  va_callv (va_runI hC hM (ga_cwI hC.2.2.2.2 hm hl hrc hrs hR) ⟨ga_blind, fun U hU hW => ⟨rfl, ga_enter (ga_subR hw) U hU hW⟩⟩ rfl hn hsz hst (lv_room hro) hdg hf) hw.2.2.1 (fun q _ h => ga_free (ga_subR hw) q h) (ga_free (ga_subR hw))
    (fun u t H1 locs1 ht _ hp hB _ hk hS => kk u H1 locs1 hp (ga_joinR hw (by rw [← ht]; exact hB.1) hB.2 hk hS))
theorem ga_Vxi {post : Int32 → S → Prop} {px : String → SX → Prop} (hC : CallFix p m c cc nL s args ga_T own) (hw : ga_w K ws A s H locs)
    (hM : vx_Met l y (Cond.code y bytes maxL ret :: ga_T) rm (va_Pc (.ref b :: As) (ga_pre K ws H.size)) (va_Qi post (ga_post K ws H.size wf) (va_A ws H.size)) (ga_XC K ws H.size wx px) mc ms (va_A ws H.size))
    (hm : ga_M y bytes maxL ret n) (hl : Cond.methodLink own idx y ∈ ga_T) (hrv : ∃ cell : Cell, H[b]? = some cell ∧ cell.vm.isStatics = false ∧ s.vm.findClass y.cls = some cell.cls)
    (hrc : rm.cells = mc) (hrs : rm.slots = ms) (hR : rm.frames + 1 ≤ R.frames ∧ 8 + (maxL + 11) + rm.locals ≤ R.locals) (hn : As.length = n) (hsz : ls.size = nL) (hst : st0 = As.reverse ++ .ref b :: rest)
    (hro : (rest.map fun v => v.category).sum ≤ 8) (hdg : decode cc pc = .ok (.invokevirtual idx, 3)) (hf : cells + mc ≤ R.cells ∧ slots + ms ≤ R.slots)
    (kx : ∀ (E : String) (ce : Cell) (q9 : Addr) (u : SX) (H1 : Heap) (locs1 : List Loc), px E u → ga_w K (wx u) A s H1 locs1 → H1[q9]? = some ce → ce.vm = .none → s.vm.findClass E = some ce.cls → vx_W p l e R s m args below meth c H1 locs1 (cells + mc) (slots + ms) Q (F0 m pc ls rest) q9)
    (kk : ∀ (r : Int32) (u : S) (H1 : Heap) (locs1 : List Loc), post r u → ga_w K (wf u) A s H1 locs1 → W p l e R s m args below meth c H1 locs1 (cells + mc) (slots + ms) Q (F0 m (pc + 3) ls (.int r :: rest))) : W p l e R s m args below meth c H locs cells slots Q (F0 m pc ls st0) :=
  vx_calli (vx_runV hC hM (ga_cwV hC.2.2.2.2 hm hl hrc hrs hR) ⟨ga_blind, hrv, fun U hU hW => ⟨rfl, ga_enter hw U hU hW⟩⟩ rfl hn hsz hst (lv_room hro) hdg hf) hw.2.2.1 (fun q _ h => ga_free hw q h) (ga_free hw) (fun q _ h => ga_free hw q h)
    (fun E ce q9 u t H1 locs1 ht _ _ hB _ hk hS h1 h2 h3 => kx E ce q9 u H1 locs1 hB.1 (ga_leave hw (by rw [← ht]; exact hB.2.1) hB.2.2 hS) h1 h2 h3)
    (fun r u t H1 locs1 ht _ hp hB _ hk hS => kk r u H1 locs1 hp (ga_leave hw (by rw [← ht]; exact hB.1) hB.2 hS))
theorem ga_VxiL {post : Int32 → S → Prop} {px : String → SX → Prop} (hC : CallFix p m c cc nL s args ga_T own) (hw : ga_w K (ws ++ ex) A s H locs)
    (hM : vx_Met l y (Cond.code y bytes maxL ret :: ga_T) rm (va_Pc (.ref b :: As) (ga_pre K ws H.size)) (va_Qi post (ga_post K ws H.size wf) (va_A ws H.size)) (ga_XC K ws H.size wx px) mc ms (va_A ws H.size))
    (hm : ga_M y bytes maxL ret n) (hl : Cond.methodLink own idx y ∈ ga_T) (hrv : ∃ cell : Cell, H[b]? = some cell ∧ cell.vm.isStatics = false ∧ s.vm.findClass y.cls = some cell.cls)
    (hrc : rm.cells = mc) (hrs : rm.slots = ms) (hR : rm.frames + 1 ≤ R.frames ∧ 8 + (maxL + 11) + rm.locals ≤ R.locals) (hn : As.length = n) (hsz : ls.size = nL) (hst : st0 = As.reverse ++ .ref b :: rest)
    (hro : (rest.map fun v => v.category).sum ≤ 8) (hdg : decode cc pc = .ok (.invokevirtual idx, 3)) (hf : cells + mc ≤ R.cells ∧ slots + ms ≤ R.slots)
    (kx : ∀ (E : String) (ce : Cell) (q9 : Addr) (u : SX) (H1 : Heap) (locs1 : List Loc), px E u → ga_w K (wx u ++ ex) A s H1 locs1 → H1[q9]? = some ce → ce.vm = .none → s.vm.findClass E = some ce.cls → vx_W p l e R s m args below meth c H1 locs1 (cells + mc) (slots + ms) Q (F0 m pc ls rest) q9)
    (kk : ∀ (r : Int32) (u : S) (H1 : Heap) (locs1 : List Loc), post r u → ga_w K (wf u ++ ex) A s H1 locs1 → W p l e R s m args below meth c H1 locs1 (cells + mc) (slots + ms) Q (F0 m (pc + 3) ls (.int r :: rest))) : W p l e R s m args below meth c H locs cells slots Q (F0 m pc ls st0) :=
  vx_calli (vx_runV hC hM (ga_cwV hC.2.2.2.2 hm hl hrc hrs hR) ⟨ga_blind, hrv, fun U hU hW => ⟨rfl, ga_enter (ga_subL hw) U hU hW⟩⟩ rfl hn hsz hst (lv_room hro) hdg hf) hw.2.2.1 (fun q _ h => ga_free (ga_subL hw) q h) (ga_free (ga_subL hw)) (fun q _ h => ga_free (ga_subL hw) q h)
    (fun E ce q9 u t H1 locs1 ht _ _ hB _ hk hS h1 h2 h3 => kx E ce q9 u H1 locs1 hB.1 (ga_joinL hw (by rw [← ht]; exact hB.2.1) hB.2.2 hk hS) h1 h2 h3)
    (fun r u t H1 locs1 ht _ hp hB _ hk hS => kk r u H1 locs1 hp (ga_joinL hw (by rw [← ht]; exact hB.1) hB.2 hk hS))
theorem ga_Vxv {post : S → Prop} {px : String → SX → Prop} (hC : CallFix p m c cc nL s args ga_T own) (hw : ga_w K ws A s H locs)
    (hM : vx_Met l y (Cond.code y bytes maxL ret :: ga_T) rm (va_Pc (.ref b :: As) (ga_pre K ws H.size)) (va_Qv post (ga_post K ws H.size wf) (va_A ws H.size)) (ga_XC K ws H.size wx px) mc ms (va_A ws H.size))
    (hm : ga_M y bytes maxL ret n) (hl : Cond.methodLink own idx y ∈ ga_T) (hrv : ∃ cell : Cell, H[b]? = some cell ∧ cell.vm.isStatics = false ∧ s.vm.findClass y.cls = some cell.cls)
    (hrc : rm.cells = mc) (hrs : rm.slots = ms) (hR : rm.frames + 1 ≤ R.frames ∧ 8 + (maxL + 11) + rm.locals ≤ R.locals) (hn : As.length = n) (hsz : ls.size = nL) (hst : st0 = As.reverse ++ .ref b :: rest)
    (hro : (rest.map fun v => v.category).sum ≤ 8) (hdg : decode cc pc = .ok (.invokevirtual idx, 3)) (hf : cells + mc ≤ R.cells ∧ slots + ms ≤ R.slots)
    (kx : ∀ (E : String) (ce : Cell) (q9 : Addr) (u : SX) (H1 : Heap) (locs1 : List Loc), px E u → ga_w K (wx u) A s H1 locs1 → H1[q9]? = some ce → ce.vm = .none → s.vm.findClass E = some ce.cls → vx_W p l e R s m args below meth c H1 locs1 (cells + mc) (slots + ms) Q (F0 m pc ls rest) q9)
    (kk : ∀ (u : S) (H1 : Heap) (locs1 : List Loc), post u → ga_w K (wf u) A s H1 locs1 → W p l e R s m args below meth c H1 locs1 (cells + mc) (slots + ms) Q (F0 m (pc + 3) ls rest)) : W p l e R s m args below meth c H locs cells slots Q (F0 m pc ls st0) :=
  vx_callv (vx_runV hC hM (ga_cwV hC.2.2.2.2 hm hl hrc hrs hR) ⟨ga_blind, hrv, fun U hU hW => ⟨rfl, ga_enter hw U hU hW⟩⟩ rfl hn hsz hst (lv_room hro) hdg hf) hw.2.2.1 (fun q _ h => ga_free hw q h) (ga_free hw) (fun q _ h => ga_free hw q h)
    (fun E ce q9 u t H1 locs1 ht _ _ hB _ hk hS h1 h2 h3 => kx E ce q9 u H1 locs1 hB.1 (ga_leave hw (by rw [← ht]; exact hB.2.1) hB.2.2 hS) h1 h2 h3)
    (fun u t H1 locs1 ht _ hp hB _ hk hS => kk u H1 locs1 hp (ga_leave hw (by rw [← ht]; exact hB.1) hB.2 hS))
theorem ga_VxvL {post : S → Prop} {px : String → SX → Prop} (hC : CallFix p m c cc nL s args ga_T own) (hw : ga_w K (ws ++ ex) A s H locs)
    (hM : vx_Met l y (Cond.code y bytes maxL ret :: ga_T) rm (va_Pc (.ref b :: As) (ga_pre K ws H.size)) (va_Qv post (ga_post K ws H.size wf) (va_A ws H.size)) (ga_XC K ws H.size wx px) mc ms (va_A ws H.size))
    (hm : ga_M y bytes maxL ret n) (hl : Cond.methodLink own idx y ∈ ga_T) (hrv : ∃ cell : Cell, H[b]? = some cell ∧ cell.vm.isStatics = false ∧ s.vm.findClass y.cls = some cell.cls)
    (hrc : rm.cells = mc) (hrs : rm.slots = ms) (hR : rm.frames + 1 ≤ R.frames ∧ 8 + (maxL + 11) + rm.locals ≤ R.locals) (hn : As.length = n) (hsz : ls.size = nL) (hst : st0 = As.reverse ++ .ref b :: rest)
    (hro : (rest.map fun v => v.category).sum ≤ 8) (hdg : decode cc pc = .ok (.invokevirtual idx, 3)) (hf : cells + mc ≤ R.cells ∧ slots + ms ≤ R.slots)
    (kx : ∀ (E : String) (ce : Cell) (q9 : Addr) (u : SX) (H1 : Heap) (locs1 : List Loc), px E u → ga_w K (wx u ++ ex) A s H1 locs1 → H1[q9]? = some ce → ce.vm = .none → s.vm.findClass E = some ce.cls → vx_W p l e R s m args below meth c H1 locs1 (cells + mc) (slots + ms) Q (F0 m pc ls rest) q9)
    (kk : ∀ (u : S) (H1 : Heap) (locs1 : List Loc), post u → ga_w K (wf u ++ ex) A s H1 locs1 → W p l e R s m args below meth c H1 locs1 (cells + mc) (slots + ms) Q (F0 m (pc + 3) ls rest)) : W p l e R s m args below meth c H locs cells slots Q (F0 m pc ls st0) :=
  vx_callv (vx_runV hC hM (ga_cwV hC.2.2.2.2 hm hl hrc hrs hR) ⟨ga_blind, hrv, fun U hU hW => ⟨rfl, ga_enter (ga_subL hw) U hU hW⟩⟩ rfl hn hsz hst (lv_room hro) hdg hf) hw.2.2.1 (fun q _ h => ga_free (ga_subL hw) q h) (ga_free (ga_subL hw)) (fun q _ h => ga_free (ga_subL hw) q h)
    (fun E ce q9 u t H1 locs1 ht _ _ hB _ hk hS h1 h2 h3 => kx E ce q9 u H1 locs1 hB.1 (ga_joinL hw (by rw [← ht]; exact hB.2.1) hB.2.2 hk hS) h1 h2 h3)
    (fun u t H1 locs1 ht _ hp hB _ hk hS => kk u H1 locs1 hp (ga_joinL hw (by rw [← ht]; exact hB.1) hB.2 hk hS))
theorem ga_Sxv {post : S → Prop} {px : String → SX → Prop} (hC : CallFix p m c cc nL s args ga_T own) (hw : ga_w K ws A s H locs)
    (hM : vx_Met l y (Cond.code y bytes maxL ret :: ga_T) rm (va_Pc As (ga_pre K ws H.size)) (va_Qv post (ga_post K ws H.size wf) (va_A ws H.size)) (ga_XC K ws H.size wx px) mc ms (va_A ws H.size))
    (hm : ga_Ms y bytes maxL ret n) (hl : Cond.methodLink own idx y ∈ ga_T) 
    (hrc : rm.cells = mc) (hrs : rm.slots = ms) (hR : rm.frames + 1 ≤ R.frames ∧ 8 + (maxL + 11) + rm.locals ≤ R.locals) (hn : As.length = n) (hsz : ls.size = nL) (hst : st0 = As.reverse ++ rest)
    (hro : (rest.map fun v => v.category).sum ≤ 8) (hdg : decode cc pc = .ok (.invokestatic idx, 3)) (hf : cells + mc ≤ R.cells ∧ slots + ms ≤ R.slots)
    (kx : ∀ (E : String) (ce : Cell) (q9 : Addr) (u : SX) (H1 : Heap) (locs1 : List Loc), px E u → ga_w K (wx u) A s H1 locs1 → H1[q9]? = some ce → ce.vm = .none → s.vm.findClass E = some ce.cls → vx_W p l e R s m args below meth c H1 locs1 (cells + mc) (slots + ms) Q (F0 m pc ls rest) q9)
    (kk : ∀ (u : S) (H1 : Heap) (locs1 : List Loc), post u → ga_w K (wf u) A s H1 locs1 → W p l e R s m args below meth c H1 locs1 (cells + mc) (slots + ms) Q (F0 m (pc + 3) ls rest)) : W p l e R s m args below meth c H locs cells slots Q (F0 m pc ls st0) :=
  vx_callv (vx_runS hC hM (ga_cwS hC.2.2.2.2 hm hl hrc hrs hR) ⟨ga_blind, fun U hU hW => ⟨rfl, ga_enter hw U hU hW⟩⟩ rfl hn hsz hst (lv_room hro) hdg hf) hw.2.2.1 (fun q _ h => ga_free hw q h) (ga_free hw) (fun q _ h => ga_free hw q h)
    (fun E ce q9 u t H1 locs1 ht _ _ hB _ hk hS h1 h2 h3 => kx E ce q9 u H1 locs1 hB.1 (ga_leave hw (by rw [← ht]; exact hB.2.1) hB.2.2 hS) h1 h2 h3)
    (fun u t H1 locs1 ht _ hp hB _ hk hS => kk u H1 locs1 hp (ga_leave hw (by rw [← ht]; exact hB.1) hB.2 hS))
theorem ga_SxvL {post : S → Prop} {px : String → SX → Prop} (hC : CallFix p m c cc nL s args ga_T own) (hw : ga_w K (ws ++ ex) A s H locs)
    (hM : vx_Met l y (Cond.code y bytes maxL ret :: ga_T) rm (va_Pc As (ga_pre K ws H.size)) (va_Qv post (ga_post K ws H.size wf) (va_A ws H.size)) (ga_XC K ws H.size wx px) mc ms (va_A ws H.size))
    (hm : ga_Ms y bytes maxL ret n) (hl : Cond.methodLink own idx y ∈ ga_T) 
    (hrc : rm.cells = mc) (hrs : rm.slots = ms) (hR : rm.frames + 1 ≤ R.frames ∧ 8 + (maxL + 11) + rm.locals ≤ R.locals) (hn : As.length = n) (hsz : ls.size = nL) (hst : st0 = As.reverse ++ rest)
    (hro : (rest.map fun v => v.category).sum ≤ 8) (hdg : decode cc pc = .ok (.invokestatic idx, 3)) (hf : cells + mc ≤ R.cells ∧ slots + ms ≤ R.slots)
    (kx : ∀ (E : String) (ce : Cell) (q9 : Addr) (u : SX) (H1 : Heap) (locs1 : List Loc), px E u → ga_w K (wx u ++ ex) A s H1 locs1 → H1[q9]? = some ce → ce.vm = .none → s.vm.findClass E = some ce.cls → vx_W p l e R s m args below meth c H1 locs1 (cells + mc) (slots + ms) Q (F0 m pc ls rest) q9)
    (kk : ∀ (u : S) (H1 : Heap) (locs1 : List Loc), post u → ga_w K (wf u ++ ex) A s H1 locs1 → W p l e R s m args below meth c H1 locs1 (cells + mc) (slots + ms) Q (F0 m (pc + 3) ls rest)) : W p l e R s m args below meth c H locs cells slots Q (F0 m pc ls st0) :=
  vx_callv (vx_runS hC hM (ga_cwS hC.2.2.2.2 hm hl hrc hrs hR) ⟨ga_blind, fun U hU hW => ⟨rfl, ga_enter (ga_subL hw) U hU hW⟩⟩ rfl hn hsz hst (lv_room hro) hdg hf) hw.2.2.1 (fun q _ h => ga_free (ga_subL hw) q h) (ga_free (ga_subL hw)) (fun q _ h => ga_free (ga_subL hw) q h)
    (fun E ce q9 u t H1 locs1 ht _ _ hB _ hk hS h1 h2 h3 => kx E ce q9 u H1 locs1 hB.1 (ga_joinL hw (by rw [← ht]; exact hB.2.1) hB.2.2 hk hS) h1 h2 h3)
    (fun u t H1 locs1 ht _ hp hB _ hk hS => kk u H1 locs1 hp (ga_joinL hw (by rw [← ht]; exact hB.1) hB.2 hk hS))
theorem ga_Sxi {post : Int32 → S → Prop} {px : String → SX → Prop} (hC : CallFix p m c cc nL s args ga_T own) (hw : ga_w K ws A s H locs)
    (hM : vx_Met l y (Cond.code y bytes maxL ret :: ga_T) rm (va_Pc As (ga_pre K ws H.size)) (va_Qi post (ga_post K ws H.size wf) (va_A ws H.size)) (ga_XC K ws H.size wx px) mc ms (va_A ws H.size))
    (hm : ga_Ms y bytes maxL ret n) (hl : Cond.methodLink own idx y ∈ ga_T) 
    (hrc : rm.cells = mc) (hrs : rm.slots = ms) (hR : rm.frames + 1 ≤ R.frames ∧ 8 + (maxL + 11) + rm.locals ≤ R.locals) (hn : As.length = n) (hsz : ls.size = nL) (hst : st0 = As.reverse ++ rest)
    (hro : (rest.map fun v => v.category).sum ≤ 8) (hdg : decode cc pc = .ok (.invokestatic idx, 3)) (hf : cells + mc ≤ R.cells ∧ slots + ms ≤ R.slots)
    (kx : ∀ (E : String) (ce : Cell) (q9 : Addr) (u : SX) (H1 : Heap) (locs1 : List Loc), px E u → ga_w K (wx u) A s H1 locs1 → H1[q9]? = some ce → ce.vm = .none → s.vm.findClass E = some ce.cls → vx_W p l e R s m args below meth c H1 locs1 (cells + mc) (slots + ms) Q (F0 m pc ls rest) q9)
    (kk : ∀ (r : Int32) (u : S) (H1 : Heap) (locs1 : List Loc), post r u → ga_w K (wf u) A s H1 locs1 → W p l e R s m args below meth c H1 locs1 (cells + mc) (slots + ms) Q (F0 m (pc + 3) ls (.int r :: rest))) : W p l e R s m args below meth c H locs cells slots Q (F0 m pc ls st0) :=
  vx_calli (vx_runS hC hM (ga_cwS hC.2.2.2.2 hm hl hrc hrs hR) ⟨ga_blind, fun U hU hW => ⟨rfl, ga_enter hw U hU hW⟩⟩ rfl hn hsz hst (lv_room hro) hdg hf) hw.2.2.1 (fun q _ h => ga_free hw q h) (ga_free hw) (fun q _ h => ga_free hw q h)
    (fun E ce q9 u t H1 locs1 ht _ _ hB _ hk hS h1 h2 h3 => kx E ce q9 u H1 locs1 hB.1 (ga_leave hw (by rw [← ht]; exact hB.2.1) hB.2.2 hS) h1 h2 h3)
    (fun r u t H1 locs1 ht _ hp hB _ hk hS => kk r u H1 locs1 hp (ga_leave hw (by rw [← ht]; exact hB.1) hB.2 hS))
theorem ga_SxiL {post : Int32 → S → Prop} {px : String → SX → Prop} (hC : CallFix p m c cc nL s args ga_T own) (hw : ga_w K (ws ++ ex) A s H locs)
    (hM : vx_Met l y (Cond.code y bytes maxL ret :: ga_T) rm (va_Pc As (ga_pre K ws H.size)) (va_Qi post (ga_post K ws H.size wf) (va_A ws H.size)) (ga_XC K ws H.size wx px) mc ms (va_A ws H.size))
    (hm : ga_Ms y bytes maxL ret n) (hl : Cond.methodLink own idx y ∈ ga_T) 
    (hrc : rm.cells = mc) (hrs : rm.slots = ms) (hR : rm.frames + 1 ≤ R.frames ∧ 8 + (maxL + 11) + rm.locals ≤ R.locals) (hn : As.length = n) (hsz : ls.size = nL) (hst : st0 = As.reverse ++ rest)
    (hro : (rest.map fun v => v.category).sum ≤ 8) (hdg : decode cc pc = .ok (.invokestatic idx, 3)) (hf : cells + mc ≤ R.cells ∧ slots + ms ≤ R.slots)
    (kx : ∀ (E : String) (ce : Cell) (q9 : Addr) (u : SX) (H1 : Heap) (locs1 : List Loc), px E u → ga_w K (wx u ++ ex) A s H1 locs1 → H1[q9]? = some ce → ce.vm = .none → s.vm.findClass E = some ce.cls → vx_W p l e R s m args below meth c H1 locs1 (cells + mc) (slots + ms) Q (F0 m pc ls rest) q9)
    (kk : ∀ (r : Int32) (u : S) (H1 : Heap) (locs1 : List Loc), post r u → ga_w K (wf u ++ ex) A s H1 locs1 → W p l e R s m args below meth c H1 locs1 (cells + mc) (slots + ms) Q (F0 m (pc + 3) ls (.int r :: rest))) : W p l e R s m args below meth c H locs cells slots Q (F0 m pc ls st0) :=
  vx_calli (vx_runS hC hM (ga_cwS hC.2.2.2.2 hm hl hrc hrs hR) ⟨ga_blind, fun U hU hW => ⟨rfl, ga_enter (ga_subL hw) U hU hW⟩⟩ rfl hn hsz hst (lv_room hro) hdg hf) hw.2.2.1 (fun q _ h => ga_free (ga_subL hw) q h) (ga_free (ga_subL hw)) (fun q _ h => ga_free (ga_subL hw) q h)
    (fun E ce q9 u t H1 locs1 ht _ _ hB _ hk hS h1 h2 h3 => kx E ce q9 u H1 locs1 hB.1 (ga_joinL hw (by rw [← ht]; exact hB.2.1) hB.2.2 hk hS) h1 h2 h3)
    (fun r u t H1 locs1 ht _ hp hB _ hk hS => kk r u H1 locs1 hp (ga_joinL hw (by rw [← ht]; exact hB.1) hB.2 hk hS))
/-! ends -/
variable {ws0 : va_W} {sz : Nat} {u : S} {ux : SX}
theorem ga_iret {post : Int32 → S → Prop} {v : Int32} (hC : CallFix p m c cc nL s args ga_T own) (hr : meth.sig.returnType = some .int) (hlocks : meth.locks = false) (hw : ga_w K (wf u) (va_A ws0 sz) s H locs) (hp : post v u) (hc : cells ≤ mc) (hs : slots ≤ ms) (hdg : decode cc pc = .ok (.ireturn, 1)) :
    W p l e R s m args below meth c H locs cells slots (MQ below (va_Qi post (ga_post K ws0 sz wf) (va_A ws0 sz)) args s mc ms (va_A ws0 sz)) (F0 m pc ls [.int v]) :=
  W.widen hc hs (W.iret hC.1 hC.2.1 hr (fun t ht _ => ⟨⟨v, u, rfl, hp, by rw [ht]; exact hw.1, hw.2.1⟩, hw.2.2.1.F ht⟩) hw.2.2.1.2.2 hdg hlocks)
theorem ga_zret {post : Int32 → S → Prop} {v : Int32} (hC : CallFix p m c cc nL s args ga_T own) (hr : meth.sig.returnType = some .boolean) (hlocks : meth.locks = false) (hw : ga_w K (wf u) (va_A ws0 sz) s H locs) (hv : v = 0 ∨ v = 1) (hp : post v u) (hc : cells ≤ mc) (hs : slots ≤ ms) (hdg : decode cc pc = .ok (.ireturn, 1)) :
    W p l e R s m args below meth c H locs cells slots (MQ below (va_Qi post (ga_post K ws0 sz wf) (va_A ws0 sz)) args s mc ms (va_A ws0 sz)) (F0 m pc ls [.int v]) :=
  W.widen hc hs (W.zret hC.1 hC.2.1 hr (by rcases hv with rfl | rfl <;> rfl) (fun t ht _ => ⟨⟨v, u, rfl, hp, by rw [ht]; exact hw.1, hw.2.1⟩, hw.2.2.1.F ht⟩) hw.2.2.1.2.2 hdg hlocks)
theorem ga_lret {post : Int64 → S → Prop} {v : Int64} (hC : CallFix p m c cc nL s args ga_T own) (hr : meth.sig.returnType = some .long) (hlocks : meth.locks = false) (hw : ga_w K (wf u) (va_A ws0 sz) s H locs) (hp : post v u) (hc : cells ≤ mc) (hs : slots ≤ ms) (hdg : decode cc pc = .ok (.lreturn, 1)) :
    W p l e R s m args below meth c H locs cells slots (MQ below (va_Ql post (ga_post K ws0 sz wf) (va_A ws0 sz)) args s mc ms (va_A ws0 sz)) (F0 m pc ls [.long v]) :=
  W.widen hc hs (W.lret hC.1 hC.2.1 hr (fun t ht _ => ⟨⟨v, u, rfl, hp, by rw [ht]; exact hw.1, hw.2.1⟩, hw.2.2.1.F ht⟩) hw.2.2.1.2.2 hdg hlocks)
theorem ga_vret {post : S → Prop} (hC : CallFix p m c cc nL s args ga_T own) (hr : meth.sig.returnType = none) (hlocks : meth.locks = false) (hw : ga_w K (wf u) (va_A ws0 sz) s H locs) (hp : post u) (hc : cells ≤ mc) (hs : slots ≤ ms) (hdg : decode cc pc = .ok (.return_, 1)) :
    W p l e R s m args below meth c H locs cells slots (MQ below (va_Qv post (ga_post K ws0 sz wf) (va_A ws0 sz)) args s mc ms (va_A ws0 sz)) (F0 m pc ls []) :=
  W.widen hc hs (W.vret hC.1 hC.2.1 hr (fun t ht _ => ⟨⟨u, rfl, hp, by rw [ht]; exact hw.1, hw.2.1⟩, hw.2.2.1.F ht⟩) hw.2.2.1.2.2 hdg hlocks)
theorem ga_qret {post : Option Nat → S → Prop} {v : Option Nat} {rt : FieldType} (hC : CallFix p m c cc nL s args ga_T own) (hr : meth.sig.returnType = some rt) (hrt : (∃ n, rt = .object n) ∨ ∃ t, rt = .array t) (hlocks : meth.locks = false) (hw : ga_w K (wf u) (va_A ws0 sz) s H locs) (hp : post v u) (hc : cells ≤ mc) (hs : slots ≤ ms) (hdg : decode cc pc = .ok (.areturn, 1)) :
    W p l e R s m args below meth c H locs cells slots (MQ below (va_Qq post (ga_post K ws0 sz wf) (va_A ws0 sz)) args s mc ms (va_A ws0 sz)) (F0 m pc ls [va_rf v]) :=
  W.widen hc hs (W.aret hC.1 hC.2.1 hr hrt (va_rf_or v) (fun t ht _ => ⟨⟨v, u, rfl, hp, by rw [ht]; exact hw.1, hw.2.1⟩, hw.2.2.1.F ht⟩) hw.2.2.1.2.2 hdg hlocks)
/-- a throw out of a callee that nobody here catches -/
theorem ga_out {Qc : Array Value → State → Outcome → State → Prop} {px : String → SX → Prop} {E : String} {ce : Cell} {q9 : Addr} (hT : ∀ x ∈ c.exceptionTable.toList, False) (hlocks : meth.locks = false) (hw : ga_w K (wx ux) (va_A ws0 sz) s H locs) (hp : px E ux) (h1 : H[q9]? = some ce) (h2 : ce.vm = .none) (h3 : s.vm.findClass E = some ce.cls) (hc : cells ≤ mc) (hs : slots ≤ ms) :
    vx_W p l e R s m args below meth c H locs cells slots (vx_MQ below Qc (ga_XC K ws0 sz wx px) args s mc ms (va_A ws0 sz)) (F0 m pc ls rest) q9 :=
  vx_out (fun x hx => absurd (hT x hx) id) hlocks h1 h2 h3 (fun t ht _ => ⟨ux, trivial, ⟨hp, by rw [ht]; exact hw.1, hw.2.1⟩, hw.2.2.1.F ht⟩) hw.2.2.1.2.2 hc hs
end GD
/-! a method's start -/
theorem ga_Met {l : Launch} {K : ga_K} {ws : va_W} {sz : Nat} {y : MethodName} {bytes : ByteArray} {maxL mc ms : Nat} {ret : Option FieldType} {rm : Room} {av : List Value} {Qc : Array Value → State → Outcome → State → Prop} {free : Addr → Prop} (hy : plainName y.cls = true) (hn : (lg_sl av).length ≤ maxL)
    (body : ∀ (p : Program) (e : Env) (s : State) (m : MethodId) (below : List Frame) (meth : Method) (c : Code), CallFix p m c bytes maxL s av.toArray ga_T y.cls → meth.sig.returnType = ret → meth.locks = false → meth.name = y.name → ga_w K ws (va_A ws sz) s s.heap [] → ∀ ls : Array Slot, lv_has ls maxL (lv_args 0 av) →
      W p l e rm s m av.toArray below meth c s.heap [] 0 0 (MQ below Qc av.toArray s mc ms free) (F0 m 0 ls [])) : Met l y (Cond.code y bytes maxL ret :: ga_T) rm (va_Pc av (ga_pre K ws sz)) Qc mc ms free := by
  refine Met.ofW (cc := bytes) (maxL := maxL) (ret := ret) hy rfl ?_
  intro p e s m args below meth c s₁ B hml hv
  obtain ⟨rfl, hpre⟩ := hv
  have hts := atoms_spec (ws := Cond.code y bytes maxL ret :: ga_T) B.pre
  have hl := lv_entry av (n := maxL) hn
  rw [lg_entry_eq]
  exact body p e s m below meth c ⟨B.exec, B.bytes, hml, findClass_of_methodNamed B.named, fun w hw => hts w (List.mem_cons_of_mem _ hw)⟩ B.returns B.notSynchronized (name_of_methodNamed B.named B.method).1 (ga_start hpre) _ hl
theorem ga_MetX {l : Launch} {K : ga_K} {ws : va_W} {sz : Nat} {y : MethodName} {bytes : ByteArray} {maxL mc ms : Nat} {ret : Option FieldType} {rm : Room} {av : List Value} {Qc : Array Value → State → Outcome → State → Prop} {XC : String → State → State → Prop} {free : Addr → Prop} (hy : plainName y.cls = true) (hn : (lg_sl av).length ≤ maxL)
    (body : ∀ (p : Program) (e : Env) (s : State) (m : MethodId) (below : List Frame) (meth : Method) (c : Code), CallFix p m c bytes maxL s av.toArray ga_T y.cls → meth.sig.returnType = ret → meth.locks = false → (∀ x ∈ c.exceptionTable.toList, False) → ga_w K ws (va_A ws sz) s s.heap [] → ∀ ls : Array Slot, lv_has ls maxL (lv_args 0 av) →
      W p l e rm s m av.toArray below meth c s.heap [] 0 0 (vx_MQ below Qc XC av.toArray s mc ms free) (F0 m 0 ls [])) : vx_Met l y (Cond.code y bytes maxL ret :: ga_T) rm (va_Pc av (ga_pre K ws sz)) Qc XC mc ms free := by
  refine vx_ofW (cc := bytes) (maxL := maxL) (ret := ret) hy rfl ?_
  intro p e s m args below meth c s₁ B hml hT hv
  obtain ⟨rfl, hpre⟩ := hv
  have hts := atoms_spec (ws := Cond.code y bytes maxL ret :: ga_T) B.pre
  have hl := lv_entry av (n := maxL) hn
  rw [lg_entry_eq]
  exact body p e s m below meth c ⟨B.exec, B.bytes, hml, findClass_of_methodNamed B.named, fun w hw => hts w (List.mem_cons_of_mem _ hw)⟩ B.returns B.notSynchronized hT (ga_start hpre) _ hl
theorem ga_stat_ok (nb : Nat) : ga_St (ga_stat nb) := by
  refine ⟨?_, ?_, ?_, ?_⟩
  · intro A u U H hW h
    obtain ⟨h1, h2, h3, h4, h5, h6, h7, h8⟩ := h
    exact ⟨h1.moved hW.alike, h2.moved hW.alike, h3.moved hW.alike, h4.moved hW.alike, fun w hw => ga_N_warm hW hw (h5 w hw), fun q hq => (h6 q hq).imp fun a ha => ha.warm hW, ⟨h7.1.moved hW.alike, h7.2.moved hW.alike⟩, h8.moved hW.alike⟩
  · intro A u U H hv h
    have hal : u.vm.Alike U.vm := by rw [hv]; exact Vm.Alike.refl _
    obtain ⟨h1, h2, h3, h4, h5, h6, h7, h8⟩ := h
    exact ⟨h1.moved hal, h2.moved hal, h3.moved hal, h4.moved hal, fun w hw => va_Nw.same (ga_N_tab hw) hv.symm (h5 w hw), fun q hq => (h6 q hq).imp fun a ha => ha.same hv, ⟨h7.1.moved hal, h7.2.moved hal⟩, h8.moved hal⟩
  · intro A U H H1 hq h
    obtain ⟨h1, h2, h3, h4, h5⟩ := h
    exact ⟨h1.kept hq, h2.kept hq, h3.kept hq, h4.kept hq, h5⟩
  · intro A B U H hAB h
    obtain ⟨h1, h2, h3, h4, h5⟩ := h
    exact ⟨h1.narrow hAB, h2.narrow hAB, h3.narrow hAB, h4.narrow hAB, h5⟩
section GA
variable {p : Program} {l : Launch} {e : Env} {R : Room} {s : State} {m : MethodId} {args : Array Value} {below : List Frame} {meth : Method} {c : Code} {H : Heap} {locs : List Loc} {cells slots : Nat} {Q : State → Prop}
variable {pc : Nat} {ls : Array Slot} {rest : List Value}
theorem ga_asi {x v : Int32} (h : x = v) (k : W p l e R s m args below meth c H locs cells slots Q (F0 m pc ls (.int v :: rest))) : W p l e R s m args below meth c H locs cells slots Q (F0 m pc ls (.int x :: rest)) := by rw [h]; exact k
theorem ga_asl {x v : Int64} (h : x = v) (k : W p l e R s m args below meth c H locs cells slots Q (F0 m pc ls (.long v :: rest))) : W p l e R s m args below meth c H locs cells slots Q (F0 m pc ls (.long x :: rest)) := by rw [h]; exact k
end GA
