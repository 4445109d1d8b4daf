/-! The world of a NetWiresModel object: a 0 its address, a 1 .. a 12 those of its arrays; y = (ints: 0 thrown 1 now 2 made 3 used 4 tape 5 parted 6 down 7 loss 8 twice 9 spread 10 onTheWay 11 sent 12 lost 13 done 14 arrived; draw; arrays: 0 times 1 sorts 2 whose 3 froms 4 begins 5 sizes 6 there 7 said 8 fed 9 delays 10 codes 11 order) -/
abbrev MS : Type := (Nat → Int32) × Int64 × (Nat → Nat → Int32)
abbrev ma_D (y : MS) : Int64 := y.2.1
abbrev ma_A (y : MS) (i : Nat) : Nat → Int32 := y.2.2 i
def ma_sI (y : MS) (i : Nat) (v : Int32) : MS := (upd y.1 i v, y.2)
def ma_sD (y : MS) (v : Int64) : MS := (y.1, v, y.2.2)
def ma_sA (y : MS) (i : Nat) (f : Nat → Int32) : MS := (y.1, y.2.1, fun j => if j = i then f else y.2.2 j)
def ma_W (k : xa_k) (a : Nat → Nat) (y : MS) : va_W := [(a 0, .inr (6, [.int (y.1 0), .int (y.1 1), .int (y.1 2), .ref (a 1), .ref (a 2), .ref (a 3), .ref (a 4), .ref (a 5), .ref (a 6), .ref (a 7), .int (y.1 3), .ref (a 8), .int (y.1 4), .ref (a 9), .ref (a 10), .int (y.1 5), .int (y.1 6), .int (y.1 7), .int (y.1 8), .int (y.1 9), .long (ma_D y), .int (y.1 10), .int (y.1 11), .int (y.1 12), .int (y.1 13), .ref (a 11), .ref (a 12), .int (y.1 14)])), (a 1, .inl (k.2.1 1, 1700, .inl (ma_A y 0))), (a 2, .inl (k.2.1 1, 1700, .inl (ma_A y 1))), (a 3, .inl (k.2.1 1, 1700, .inl (ma_A y 2))), (a 4, .inl (k.2.1 1, 1700, .inl (ma_A y 3))), (a 5, .inl (k.2.1 1, 1700, .inl (ma_A y 4))), (a 6, .inl (k.2.1 1, 1700, .inl (ma_A y 5))), (a 7, .inl (k.2.1 3, 1700, .inl (ma_A y 6))), (a 8, .inl (k.2.1 1, 4200, .inl (ma_A y 7))), (a 9, .inl (k.2.1 1, 2048, .inl (ma_A y 8))), (a 10, .inl (k.2.1 1, 256, .inl (ma_A y 9))), (a 11, .inl (k.2.1 1, 32, .inl (ma_A y 10))), (a 12, .inl (k.2.1 1, 32, .inl (ma_A y 11)))]
section MW
variable {p : Program} {l : Launch} {e : Env} {R : Room} {s : State} {m : MethodId} {args : Array Value} {below : List Frame} {meth : Method} {c : Code} {H : Heap} {locs : List Loc} {cells slots : Nat} {Q : State → Prop}
variable {cc : ByteArray} {pc nL idx : Nat} {ls : Array Slot} {rest : List Value} {k : xa_k} {a : Nat → Nat} {y : MS} {A : Nat → Prop} {own : String}
theorem ga_zald {ws : va_W} {q : Nat} {cA : ClassId} {n : Nat} {f : Nat → Int32} {i : Int32} {K : ga_K} (hC : CallFix p m c cc nL s args ga_T own) (hw : ga_w K ws A s H locs) (q0 t0 : Nat) (ha : ws[q0]? = some (q, .inl (cA, n, .inl f))) (ht : K.2.1[t0]? = some (cA, .boolean)) (hin : vp_in i n) (hdg : decode cc pc = .ok (.baload, 1))
    (kk : W p l e R s m args below meth c H locs cells slots Q (F0 m (pc + 1) ls (.int (f i.toNatClampNeg) :: rest))) : W p l e R s m args below meth c H locs cells slots Q (F0 m pc ls (.int i :: .ref q :: rest)) :=
  va_zald hC.1 hC.2.1 hw.2.2.2.1 hw.1 q0 t0 ha ht hin hdg kk
theorem ga_zast {ws : va_W} {q : Nat} {cA : ClassId} {n : Nat} {f : Nat → Int32} {i x : Int32} {K : ga_K} (hC : CallFix p m c cc nL s args ga_T own) (hw : ga_w K ws A s H locs) (q0 t0 : Nat) (ha : ws[q0]? = some (q, .inl (cA, n, .inl f))) (ht : K.2.1[t0]? = some (cA, .boolean)) (hin : vp_in i n) (hdg : decode cc pc = .ok (.bastore, 1))
    (kk : ∀ (H1 : Heap) (locs1 : List Loc), ga_w K (ws.set q0 (q, .inl (cA, n, .inl (upd f i.toNatClampNeg (vp_nar .boolean x))))) A s H1 locs1 → W p l e R s m args below meth c H1 locs1 cells slots Q (F0 m (pc + 1) ls rest)) : W p l e R s m args below meth c H locs cells slots Q (F0 m pc ls (.int x :: .int i :: .ref q :: rest)) :=
  va_zast hC.1 hC.2.1 hw.2.2.2.1 hw.1 hw.2.1 hw.2.2.1 q0 t0 ha ht hin hdg (fun H1 locs1 h1 h2 h3 => kk H1 locs1 ⟨h1, h2, h3, hw.2.2.2⟩)
theorem mg_thrown (hC : CallFix p m c cc nL s args ga_T "NetWiresModel") (hw : ga_w (xa_K k) (ma_W k a y) A s H locs) {v : Int32} (hl : Cond.fieldLink "NetWiresModel" idx "NetWiresModel" "thrown" "I" ∈ ga_T) (hdg : decode cc pc = .ok (.getfield idx, 3)) (hv : y.1 0 = v)
    (kk : W p l e R s m args below meth c H locs cells slots Q (F0 m (pc + 3) ls (.int v :: rest))) : W p l e R s m args below meth c H locs cells slots Q (F0 m pc ls (.ref (a 0) :: rest)) :=
  ga_get hC hw cl_M 0 rfl 0 (by decide) hl (by rw [← hv]; rfl) hdg kk
theorem mp_thrown (hC : CallFix p m c cc nL s args ga_T "NetWiresModel") (hw : ga_w (xa_K k) (ma_W k a y) A s H locs) {v : Int32} (hl : Cond.fieldLink "NetWiresModel" idx "NetWiresModel" "thrown" "I" ∈ ga_T) (hdg : decode cc pc = .ok (.putfield idx, 3))
    (kk : ∀ (H1 : Heap) (locs1 : List Loc), ga_w (xa_K k) (ma_W k a (ma_sI y 0 v)) A s H1 locs1 → W p l e R s m args below meth c H1 locs1 cells slots Q (F0 m (pc + 3) ls rest)) : W p l e R s m args below meth c H locs cells slots Q (F0 m pc ls (.int v :: .ref (a 0) :: rest)) :=
  ga_put (ty := .int) hC hw cl_M 0 rfl 0 (by decide) hl rfl (by decide +kernel) rfl rfl (Nat.le_of_ble_eq_true rfl) hdg (fun H1 locs1 h => kk H1 locs1 h)
theorem mg_now (hC : CallFix p m c cc nL s args ga_T "NetWiresModel") (hw : ga_w (xa_K k) (ma_W k a y) A s H locs) {v : Int32} (hl : Cond.fieldLink "NetWiresModel" idx "NetWiresModel" "now" "I" ∈ ga_T) (hdg : decode cc pc = .ok (.getfield idx, 3)) (hv : y.1 1 = v)
    (kk : W p l e R s m args below meth c H locs cells slots Q (F0 m (pc + 3) ls (.int v :: rest))) : W p l e R s m args below meth c H locs cells slots Q (F0 m pc ls (.ref (a 0) :: rest)) :=
  ga_get hC hw cl_M 0 rfl 1 (by decide) hl (by rw [← hv]; rfl) hdg kk
theorem mp_now (hC : CallFix p m c cc nL s args ga_T "NetWiresModel") (hw : ga_w (xa_K k) (ma_W k a y) A s H locs) {v : Int32} (hl : Cond.fieldLink "NetWiresModel" idx "NetWiresModel" "now" "I" ∈ ga_T) (hdg : decode cc pc = .ok (.putfield idx, 3))
    (kk : ∀ (H1 : Heap) (locs1 : List Loc), ga_w (xa_K k) (ma_W k a (ma_sI y 1 v)) A s H1 locs1 → W p l e R s m args below meth c H1 locs1 cells slots Q (F0 m (pc + 3) ls rest)) : W p l e R s m args below meth c H locs cells slots Q (F0 m pc ls (.int v :: .ref (a 0) :: rest)) :=
  ga_put (ty := .int) hC hw cl_M 0 rfl 1 (by decide) hl rfl (by decide +kernel) rfl rfl (Nat.le_of_ble_eq_true rfl) hdg (fun H1 locs1 h => kk H1 locs1 h)
theorem mg_made (hC : CallFix p m c cc nL s args ga_T "NetWiresModel") (hw : ga_w (xa_K k) (ma_W k a y) A s H locs) {v : Int32} (hl : Cond.fieldLink "NetWiresModel" idx "NetWiresModel" "made" "I" ∈ ga_T) (hdg : decode cc pc = .ok (.getfield idx, 3)) (hv : y.1 2 = v)
    (kk : W p l e R s m args below meth c H locs cells slots Q (F0 m (pc + 3) ls (.int v :: rest))) : W p l e R s m args below meth c H locs cells slots Q (F0 m pc ls (.ref (a 0) :: rest)) :=
  ga_get hC hw cl_M 0 rfl 2 (by decide) hl (by rw [← hv]; rfl) hdg kk
theorem mp_made (hC : CallFix p m c cc nL s args ga_T "NetWiresModel") (hw : ga_w (xa_K k) (ma_W k a y) A s H locs) {v : Int32} (hl : Cond.fieldLink "NetWiresModel" idx "NetWiresModel" "made" "I" ∈ ga_T) (hdg : decode cc pc = .ok (.putfield idx, 3))
    (kk : ∀ (H1 : Heap) (locs1 : List Loc), ga_w (xa_K k) (ma_W k a (ma_sI y 2 v)) A s H1 locs1 → W p l e R s m args below meth c H1 locs1 cells slots Q (F0 m (pc + 3) ls rest)) : W p l e R s m args below meth c H locs cells slots Q (F0 m pc ls (.int v :: .ref (a 0) :: rest)) :=
  ga_put (ty := .int) hC hw cl_M 0 rfl 2 (by decide) hl rfl (by decide +kernel) rfl rfl (Nat.le_of_ble_eq_true rfl) hdg (fun H1 locs1 h => kk H1 locs1 h)
theorem mg_times (hC : CallFix p m c cc nL s args ga_T "NetWiresModel") (hw : ga_w (xa_K k) (ma_W k a y) A s H locs) (hl : Cond.fieldLink "NetWiresModel" idx "NetWiresModel" "times" "[I" ∈ ga_T) (hdg : decode cc pc = .ok (.getfield idx, 3))
    (kk : W p l e R s m args below meth c H locs cells slots Q (F0 m (pc + 3) ls (.ref (a 1) :: rest))) : W p l e R s m args below meth c H locs cells slots Q (F0 m pc ls (.ref (a 0) :: rest)) :=
  ga_get hC hw cl_M 0 rfl 3 (by decide) hl rfl hdg kk
theorem mr_times (hC : CallFix p m c cc nL s args ga_T "NetWiresModel") (hw : ga_w (xa_K k) (ma_W k a y) A s H locs) {i v : Int32} (hin : vp_in i 1700) (hdg : decode cc pc = .ok (.iaload, 1)) (hv : ma_A y 0 i.toNatClampNeg = v)
    (kk : W p l e R s m args below meth c H locs cells slots Q (F0 m (pc + 1) ls (.int v :: rest))) : W p l e R s m args below meth c H locs cells slots Q (F0 m pc ls (.int i :: .ref (a 1) :: rest)) :=
  ga_iald hC hw 1 1 rfl rfl hin hdg (by rw [← hv] at kk; exact kk)
theorem ms_times (hC : CallFix p m c cc nL s args ga_T "NetWiresModel") (hw : ga_w (xa_K k) (ma_W k a y) A s H locs) {i v : Int32} (hin : vp_in i 1700) (hdg : decode cc pc = .ok (.iastore, 1))
    (kk : ∀ (H1 : Heap) (locs1 : List Loc), ga_w (xa_K k) (ma_W k a (ma_sA y 0 (upd (ma_A y 0) i.toNatClampNeg v))) A s H1 locs1 → W p l e R s m args below meth c H1 locs1 cells slots Q (F0 m (pc + 1) ls rest)) : W p l e R s m args below meth c H locs cells slots Q (F0 m pc ls (.int v :: .int i :: .ref (a 1) :: rest)) :=
  ga_iast hC hw 1 1 rfl rfl hin hdg (fun H1 locs1 h => kk H1 locs1 h)
theorem mg_sorts (hC : CallFix p m c cc nL s args ga_T "NetWiresModel") (hw : ga_w (xa_K k) (ma_W k a y) A s H locs) (hl : Cond.fieldLink "NetWiresModel" idx "NetWiresModel" "sorts" "[I" ∈ ga_T) (hdg : decode cc pc = .ok (.getfield idx, 3))
    (kk : W p l e R s m args below meth c H locs cells slots Q (F0 m (pc + 3) ls (.ref (a 2) :: rest))) : W p l e R s m args below meth c H locs cells slots Q (F0 m pc ls (.ref (a 0) :: rest)) :=
  ga_get hC hw cl_M 0 rfl 4 (by decide) hl rfl hdg kk
theorem mr_sorts (hC : CallFix p m c cc nL s args ga_T "NetWiresModel") (hw : ga_w (xa_K k) (ma_W k a y) A s H locs) {i v : Int32} (hin : vp_in i 1700) (hdg : decode cc pc = .ok (.iaload, 1)) (hv : ma_A y 1 i.toNatClampNeg = v)
    (kk : W p l e R s m args below meth c H locs cells slots Q (F0 m (pc + 1) ls (.int v :: rest))) : W p l e R s m args below meth c H locs cells slots Q (F0 m pc ls (.int i :: .ref (a 2) :: rest)) :=
  ga_iald hC hw 2 1 rfl rfl hin hdg (by rw [← hv] at kk; exact kk)
theorem ms_sorts (hC : CallFix p m c cc nL s args ga_T "NetWiresModel") (hw : ga_w (xa_K k) (ma_W k a y) A s H locs) {i v : Int32} (hin : vp_in i 1700) (hdg : decode cc pc = .ok (.iastore, 1))
    (kk : ∀ (H1 : Heap) (locs1 : List Loc), ga_w (xa_K k) (ma_W k a (ma_sA y 1 (upd (ma_A y 1) i.toNatClampNeg v))) A s H1 locs1 → W p l e R s m args below meth c H1 locs1 cells slots Q (F0 m (pc + 1) ls rest)) : W p l e R s m args below meth c H locs cells slots Q (F0 m pc ls (.int v :: .int i :: .ref (a 2) :: rest)) :=
  ga_iast hC hw 2 1 rfl rfl hin hdg (fun H1 locs1 h => kk H1 locs1 h)
theorem mg_whose (hC : CallFix p m c cc nL s args ga_T "NetWiresModel") (hw : ga_w (xa_K k) (ma_W k a y) A s H locs) (hl : Cond.fieldLink "NetWiresModel" idx "NetWiresModel" "whose" "[I" ∈ ga_T) (hdg : decode cc pc = .ok (.getfield idx, 3))
    (kk : W p l e R s m args below meth c H locs cells slots Q (F0 m (pc + 3) ls (.ref (a 3) :: rest))) : W p l e R s m args below meth c H locs cells slots Q (F0 m pc ls (.ref (a 0) :: rest)) :=
  ga_get hC hw cl_M 0 rfl 5 (by decide) hl rfl hdg kk
theorem mr_whose (hC : CallFix p m c cc nL s args ga_T "NetWiresModel") (hw : ga_w (xa_K k) (ma_W k a y) A s H locs) {i v : Int32} (hin : vp_in i 1700) (hdg : decode cc pc = .ok (.iaload, 1)) (hv : ma_A y 2 i.toNatClampNeg = v)
    (kk : W p l e R s m args below meth c H locs cells slots Q (F0 m (pc + 1) ls (.int v :: rest))) : W p l e R s m args below meth c H locs cells slots Q (F0 m pc ls (.int i :: .ref (a 3) :: rest)) :=
  ga_iald hC hw 3 1 rfl rfl hin hdg (by rw [← hv] at kk; exact kk)
theorem ms_whose (hC : CallFix p m c cc nL s args ga_T "NetWiresModel") (hw : ga_w (xa_K k) (ma_W k a y) A s H locs) {i v : Int32} (hin : vp_in i 1700) (hdg : decode cc pc = .ok (.iastore, 1))
    (kk : ∀ (H1 : Heap) (locs1 : List Loc), ga_w (xa_K k) (ma_W k a (ma_sA y 2 (upd (ma_A y 2) i.toNatClampNeg v))) A s H1 locs1 → W p l e R s m args below meth c H1 locs1 cells slots Q (F0 m (pc + 1) ls rest)) : W p l e R s m args below meth c H locs cells slots Q (F0 m pc ls (.int v :: .int i :: .ref (a 3) :: rest)) :=
  ga_iast hC hw 3 1 rfl rfl hin hdg (fun H1 locs1 h => kk H1 locs1 h)
theorem mg_froms (hC : CallFix p m c cc nL s args ga_T "NetWiresModel") (hw : ga_w (xa_K k) (ma_W k a y) A s H locs) (hl : Cond.fieldLink "NetWiresModel" idx "NetWiresModel" "froms" "[I" ∈ ga_T) (hdg : decode cc pc = .ok (.getfield idx, 3))
    (kk : W p l e R s m args below meth c H locs cells slots Q (F0 m (pc + 3) ls (.ref (a 4) :: rest))) : W p l e R s m args below meth c H locs cells slots Q (F0 m pc ls (.ref (a 0) :: rest)) :=
  ga_get hC hw cl_M 0 rfl 6 (by decide) hl rfl hdg kk
theorem mr_froms (hC : CallFix p m c cc nL s args ga_T "NetWiresModel") (hw : ga_w (xa_K k) (ma_W k a y) A s H locs) {i v : Int32} (hin : vp_in i 1700) (hdg : decode cc pc = .ok (.iaload, 1)) (hv : ma_A y 3 i.toNatClampNeg = v)
    (kk : W p l e R s m args below meth c H locs cells slots Q (F0 m (pc + 1) ls (.int v :: rest))) : W p l e R s m args below meth c H locs cells slots Q (F0 m pc ls (.int i :: .ref (a 4) :: rest)) :=
  ga_iald hC hw 4 1 rfl rfl hin hdg (by rw [← hv] at kk; exact kk)
theorem ms_froms (hC : CallFix p m c cc nL s args ga_T "NetWiresModel") (hw : ga_w (xa_K k) (ma_W k a y) A s H locs) {i v : Int32} (hin : vp_in i 1700) (hdg : decode cc pc = .ok (.iastore, 1))
    (kk : ∀ (H1 : Heap) (locs1 : List Loc), ga_w (xa_K k) (ma_W k a (ma_sA y 3 (upd (ma_A y 3) i.toNatClampNeg v))) A s H1 locs1 → W p l e R s m args below meth c H1 locs1 cells slots Q (F0 m (pc + 1) ls rest)) : W p l e R s m args below meth c H locs cells slots Q (F0 m pc ls (.int v :: .int i :: .ref (a 4) :: rest)) :=
  ga_iast hC hw 4 1 rfl rfl hin hdg (fun H1 locs1 h => kk H1 locs1 h)
theorem mg_begins (hC : CallFix p m c cc nL s args ga_T "NetWiresModel") (hw : ga_w (xa_K k) (ma_W k a y) A s H locs) (hl : Cond.fieldLink "NetWiresModel" idx "NetWiresModel" "begins" "[I" ∈ ga_T) (hdg : decode cc pc = .ok (.getfield idx, 3))
    (kk : W p l e R s m args below meth c H locs cells slots Q (F0 m (pc + 3) ls (.ref (a 5) :: rest))) : W p l e R s m args below meth c H locs cells slots Q (F0 m pc ls (.ref (a 0) :: rest)) :=
  ga_get hC hw cl_M 0 rfl 7 (by decide) hl rfl hdg kk
theorem mr_begins (hC : CallFix p m c cc nL s args ga_T "NetWiresModel") (hw : ga_w (xa_K k) (ma_W k a y) A s H locs) {i v : Int32} (hin : vp_in i 1700) (hdg : decode cc pc = .ok (.iaload, 1)) (hv : ma_A y 4 i.toNatClampNeg = v)
    (kk : W p l e R s m args below meth c H locs cells slots Q (F0 m (pc + 1) ls (.int v :: rest))) : W p l e R s m args below meth c H locs cells slots Q (F0 m pc ls (.int i :: .ref (a 5) :: rest)) :=
  ga_iald hC hw 5 1 rfl rfl hin hdg (by rw [← hv] at kk; exact kk)
theorem ms_begins (hC : CallFix p m c cc nL s args ga_T "NetWiresModel") (hw : ga_w (xa_K k) (ma_W k a y) A s H locs) {i v : Int32} (hin : vp_in i 1700) (hdg : decode cc pc = .ok (.iastore, 1))
    (kk : ∀ (H1 : Heap) (locs1 : List Loc), ga_w (xa_K k) (ma_W k a (ma_sA y 4 (upd (ma_A y 4) i.toNatClampNeg v))) A s H1 locs1 → W p l e R s m args below meth c H1 locs1 cells slots Q (F0 m (pc + 1) ls rest)) : W p l e R s m args below meth c H locs cells slots Q (F0 m pc ls (.int v :: .int i :: .ref (a 5) :: rest)) :=
  ga_iast hC hw 5 1 rfl rfl hin hdg (fun H1 locs1 h => kk H1 locs1 h)
theorem mg_sizes (hC : CallFix p m c cc nL s args ga_T "NetWiresModel") (hw : ga_w (xa_K k) (ma_W k a y) A s H locs) (hl : Cond.fieldLink "NetWiresModel" idx "NetWiresModel" "sizes" "[I" ∈ ga_T) (hdg : decode cc pc = .ok (.getfield idx, 3))
    (kk : W p l e R s m args below meth c H locs cells slots Q (F0 m (pc + 3) ls (.ref (a 6) :: rest))) : W p l e R s m args below meth c H locs cells slots Q (F0 m pc ls (.ref (a 0) :: rest)) :=
  ga_get hC hw cl_M 0 rfl 8 (by decide) hl rfl hdg kk
theorem mr_sizes (hC : CallFix p m c cc nL s args ga_T "NetWiresModel") (hw : ga_w (xa_K k) (ma_W k a y) A s H locs) {i v : Int32} (hin : vp_in i 1700) (hdg : decode cc pc = .ok (.iaload, 1)) (hv : ma_A y 5 i.toNatClampNeg = v)
    (kk : W p l e R s m args below meth c H locs cells slots Q (F0 m (pc + 1) ls (.int v :: rest))) : W p l e R s m args below meth c H locs cells slots Q (F0 m pc ls (.int i :: .ref (a 6) :: rest)) :=
  ga_iald hC hw 6 1 rfl rfl hin hdg (by rw [← hv] at kk; exact kk)
theorem ms_sizes (hC : CallFix p m c cc nL s args ga_T "NetWiresModel") (hw : ga_w (xa_K k) (ma_W k a y) A s H locs) {i v : Int32} (hin : vp_in i 1700) (hdg : decode cc pc = .ok (.iastore, 1))
    (kk : ∀ (H1 : Heap) (locs1 : List Loc), ga_w (xa_K k) (ma_W k a (ma_sA y 5 (upd (ma_A y 5) i.toNatClampNeg v))) A s H1 locs1 → W p l e R s m args below meth c H1 locs1 cells slots Q (F0 m (pc + 1) ls rest)) : W p l e R s m args below meth c H locs cells slots Q (F0 m pc ls (.int v :: .int i :: .ref (a 6) :: rest)) :=
  ga_iast hC hw 6 1 rfl rfl hin hdg (fun H1 locs1 h => kk H1 locs1 h)
theorem mg_there (hC : CallFix p m c cc nL s args ga_T "NetWiresModel") (hw : ga_w (xa_K k) (ma_W k a y) A s H locs) (hl : Cond.fieldLink "NetWiresModel" idx "NetWiresModel" "there" "[Z" ∈ ga_T) (hdg : decode cc pc = .ok (.getfield idx, 3))
    (kk : W p l e R s m args below meth c H locs cells slots Q (F0 m (pc + 3) ls (.ref (a 7) :: rest))) : W p l e R s m args below meth c H locs cells slots Q (F0 m pc ls (.ref (a 0) :: rest)) :=
  ga_get hC hw cl_M 0 rfl 9 (by decide) hl rfl hdg kk
theorem mr_there (hC : CallFix p m c cc nL s args ga_T "NetWiresModel") (hw : ga_w (xa_K k) (ma_W k a y) A s H locs) {i v : Int32} (hin : vp_in i 1700) (hdg : decode cc pc = .ok (.baload, 1)) (hv : ma_A y 6 i.toNatClampNeg = v)
    (kk : W p l e R s m args below meth c H locs cells slots Q (F0 m (pc + 1) ls (.int v :: rest))) : W p l e R s m args below meth c H locs cells slots Q (F0 m pc ls (.int i :: .ref (a 7) :: rest)) :=
  ga_zald hC hw 7 3 rfl rfl hin hdg (by rw [← hv] at kk; exact kk)
theorem ms_there (hC : CallFix p m c cc nL s args ga_T "NetWiresModel") (hw : ga_w (xa_K k) (ma_W k a y) A s H locs) {i v : Int32} (hin : vp_in i 1700) (hdg : decode cc pc = .ok (.bastore, 1))
    (kk : ∀ (H1 : Heap) (locs1 : List Loc), ga_w (xa_K k) (ma_W k a (ma_sA y 6 (upd (ma_A y 6) i.toNatClampNeg (vp_nar .boolean v)))) A s H1 locs1 → W p l e R s m args below meth c H1 locs1 cells slots Q (F0 m (pc + 1) ls rest)) : W p l e R s m args below meth c H locs cells slots Q (F0 m pc ls (.int v :: .int i :: .ref (a 7) :: rest)) :=
  ga_zast hC hw 7 3 rfl rfl hin hdg (fun H1 locs1 h => kk H1 locs1 h)
theorem mg_used (hC : CallFix p m c cc nL s args ga_T "NetWiresModel") (hw : ga_w (xa_K k) (ma_W k a y) A s H locs) {v : Int32} (hl : Cond.fieldLink "NetWiresModel" idx "NetWiresModel" "used" "I" ∈ ga_T) (hdg : decode cc pc = .ok (.getfield idx, 3)) (hv : y.1 3 = v)
    (kk : W p l e R s m args below meth c H locs cells slots Q (F0 m (pc + 3) ls (.int v :: rest))) : W p l e R s m args below meth c H locs cells slots Q (F0 m pc ls (.ref (a 0) :: rest)) :=
  ga_get hC hw cl_M 0 rfl 10 (by decide) hl (by rw [← hv]; rfl) hdg kk
theorem mp_used (hC : CallFix p m c cc nL s args ga_T "NetWiresModel") (hw : ga_w (xa_K k) (ma_W k a y) A s H locs) {v : Int32} (hl : Cond.fieldLink "NetWiresModel" idx "NetWiresModel" "used" "I" ∈ ga_T) (hdg : decode cc pc = .ok (.putfield idx, 3))
    (kk : ∀ (H1 : Heap) (locs1 : List Loc), ga_w (xa_K k) (ma_W k a (ma_sI y 3 v)) A s H1 locs1 → W p l e R s m args below meth c H1 locs1 cells slots Q (F0 m (pc + 3) ls rest)) : W p l e R s m args below meth c H locs cells slots Q (F0 m pc ls (.int v :: .ref (a 0) :: rest)) :=
  ga_put (ty := .int) hC hw cl_M 0 rfl 10 (by decide) hl rfl (by decide +kernel) rfl rfl (Nat.le_of_ble_eq_true rfl) hdg (fun H1 locs1 h => kk H1 locs1 h)
theorem mg_said (hC : CallFix p m c cc nL s args ga_T "NetWiresModel") (hw : ga_w (xa_K k) (ma_W k a y) A s H locs) (hl : Cond.fieldLink "NetWiresModel" idx "NetWiresModel" "said" "[I" ∈ ga_T) (hdg : decode cc pc = .ok (.getfield idx, 3))
    (kk : W p l e R s m args below meth c H locs cells slots Q (F0 m (pc + 3) ls (.ref (a 8) :: rest))) : W p l e R s m args below meth c H locs cells slots Q (F0 m pc ls (.ref (a 0) :: rest)) :=
  ga_get hC hw cl_M 0 rfl 11 (by decide) hl rfl hdg kk
theorem mr_said (hC : CallFix p m c cc nL s args ga_T "NetWiresModel") (hw : ga_w (xa_K k) (ma_W k a y) A s H locs) {i v : Int32} (hin : vp_in i 4200) (hdg : decode cc pc = .ok (.iaload, 1)) (hv : ma_A y 7 i.toNatClampNeg = v)
    (kk : W p l e R s m args below meth c H locs cells slots Q (F0 m (pc + 1) ls (.int v :: rest))) : W p l e R s m args below meth c H locs cells slots Q (F0 m pc ls (.int i :: .ref (a 8) :: rest)) :=
  ga_iald hC hw 8 1 rfl rfl hin hdg (by rw [← hv] at kk; exact kk)
theorem ms_said (hC : CallFix p m c cc nL s args ga_T "NetWiresModel") (hw : ga_w (xa_K k) (ma_W k a y) A s H locs) {i v : Int32} (hin : vp_in i 4200) (hdg : decode cc pc = .ok (.iastore, 1))
    (kk : ∀ (H1 : Heap) (locs1 : List Loc), ga_w (xa_K k) (ma_W k a (ma_sA y 7 (upd (ma_A y 7) i.toNatClampNeg v))) A s H1 locs1 → W p l e R s m args below meth c H1 locs1 cells slots Q (F0 m (pc + 1) ls rest)) : W p l e R s m args below meth c H locs cells slots Q (F0 m pc ls (.int v :: .int i :: .ref (a 8) :: rest)) :=
  ga_iast hC hw 8 1 rfl rfl hin hdg (fun H1 locs1 h => kk H1 locs1 h)
theorem mg_tape (hC : CallFix p m c cc nL s args ga_T "NetWiresModel") (hw : ga_w (xa_K k) (ma_W k a y) A s H locs) {v : Int32} (hl : Cond.fieldLink "NetWiresModel" idx "NetWiresModel" "tape" "I" ∈ ga_T) (hdg : decode cc pc = .ok (.getfield idx, 3)) (hv : y.1 4 = v)
    (kk : W p l e R s m args below meth c H locs cells slots Q (F0 m (pc + 3) ls (.int v :: rest))) : W p l e R s m args below meth c H locs cells slots Q (F0 m pc ls (.ref (a 0) :: rest)) :=
  ga_get hC hw cl_M 0 rfl 12 (by decide) hl (by rw [← hv]; rfl) hdg kk
theorem mp_tape (hC : CallFix p m c cc nL s args ga_T "NetWiresModel") (hw : ga_w (xa_K k) (ma_W k a y) A s H locs) {v : Int32} (hl : Cond.fieldLink "NetWiresModel" idx "NetWiresModel" "tape" "I" ∈ ga_T) (hdg : decode cc pc = .ok (.putfield idx, 3))
    (kk : ∀ (H1 : Heap) (locs1 : List Loc), ga_w (xa_K k) (ma_W k a (ma_sI y 4 v)) A s H1 locs1 → W p l e R s m args below meth c H1 locs1 cells slots Q (F0 m (pc + 3) ls rest)) : W p l e R s m args below meth c H locs cells slots Q (F0 m pc ls (.int v :: .ref (a 0) :: rest)) :=
  ga_put (ty := .int) hC hw cl_M 0 rfl 12 (by decide) hl rfl (by decide +kernel) rfl rfl (Nat.le_of_ble_eq_true rfl) hdg (fun H1 locs1 h => kk H1 locs1 h)
theorem mg_fed (hC : CallFix p m c cc nL s args ga_T "NetWiresModel") (hw : ga_w (xa_K k) (ma_W k a y) A s H locs) (hl : Cond.fieldLink "NetWiresModel" idx "NetWiresModel" "fed" "[I" ∈ ga_T) (hdg : decode cc pc = .ok (.getfield idx, 3))
    (kk : W p l e R s m args below meth c H locs cells slots Q (F0 m (pc + 3) ls (.ref (a 9) :: rest))) : W p l e R s m args below meth c H locs cells slots Q (F0 m pc ls (.ref (a 0) :: rest)) :=
  ga_get hC hw cl_M 0 rfl 13 (by decide) hl rfl hdg kk
theorem mr_fed (hC : CallFix p m c cc nL s args ga_T "NetWiresModel") (hw : ga_w (xa_K k) (ma_W k a y) A s H locs) {i v : Int32} (hin : vp_in i 2048) (hdg : decode cc pc = .ok (.iaload, 1)) (hv : ma_A y 8 i.toNatClampNeg = v)
    (kk : W p l e R s m args below meth c H locs cells slots Q (F0 m (pc + 1) ls (.int v :: rest))) : W p l e R s m args below meth c H locs cells slots Q (F0 m pc ls (.int i :: .ref (a 9) :: rest)) :=
  ga_iald hC hw 9 1 rfl rfl hin hdg (by rw [← hv] at kk; exact kk)
theorem ms_fed (hC : CallFix p m c cc nL s args ga_T "NetWiresModel") (hw : ga_w (xa_K k) (ma_W k a y) A s H locs) {i v : Int32} (hin : vp_in i 2048) (hdg : decode cc pc = .ok (.iastore, 1))
    (kk : ∀ (H1 : Heap) (locs1 : List Loc), ga_w (xa_K k) (ma_W k a (ma_sA y 8 (upd (ma_A y 8) i.toNatClampNeg v))) A s H1 locs1 → W p l e R s m args below meth c H1 locs1 cells slots Q (F0 m (pc + 1) ls rest)) : W p l e R s m args below meth c H locs cells slots Q (F0 m pc ls (.int v :: .int i :: .ref (a 9) :: rest)) :=
  ga_iast hC hw 9 1 rfl rfl hin hdg (fun H1 locs1 h => kk H1 locs1 h)
theorem mg_delays (hC : CallFix p m c cc nL s args ga_T "NetWiresModel") (hw : ga_w (xa_K k) (ma_W k a y) A s H locs) (hl : Cond.fieldLink "NetWiresModel" idx "NetWiresModel" "delays" "[I" ∈ ga_T) (hdg : decode cc pc = .ok (.getfield idx, 3))
    (kk : W p l e R s m args below meth c H locs cells slots Q (F0 m (pc + 3) ls (.ref (a 10) :: rest))) : W p l e R s m args below meth c H locs cells slots Q (F0 m pc ls (.ref (a 0) :: rest)) :=
  ga_get hC hw cl_M 0 rfl 14 (by decide) hl rfl hdg kk
theorem mr_delays (hC : CallFix p m c cc nL s args ga_T "NetWiresModel") (hw : ga_w (xa_K k) (ma_W k a y) A s H locs) {i v : Int32} (hin : vp_in i 256) (hdg : decode cc pc = .ok (.iaload, 1)) (hv : ma_A y 9 i.toNatClampNeg = v)
    (kk : W p l e R s m args below meth c H locs cells slots Q (F0 m (pc + 1) ls (.int v :: rest))) : W p l e R s m args below meth c H locs cells slots Q (F0 m pc ls (.int i :: .ref (a 10) :: rest)) :=
  ga_iald hC hw 10 1 rfl rfl hin hdg (by rw [← hv] at kk; exact kk)
theorem ms_delays (hC : CallFix p m c cc nL s args ga_T "NetWiresModel") (hw : ga_w (xa_K k) (ma_W k a y) A s H locs) {i v : Int32} (hin : vp_in i 256) (hdg : decode cc pc = .ok (.iastore, 1))
    (kk : ∀ (H1 : Heap) (locs1 : List Loc), ga_w (xa_K k) (ma_W k a (ma_sA y 9 (upd (ma_A y 9) i.toNatClampNeg v))) A s H1 locs1 → W p l e R s m args below meth c H1 locs1 cells slots Q (F0 m (pc + 1) ls rest)) : W p l e R s m args below meth c H locs cells slots Q (F0 m pc ls (.int v :: .int i :: .ref (a 10) :: rest)) :=
  ga_iast hC hw 10 1 rfl rfl hin hdg (fun H1 locs1 h => kk H1 locs1 h)
theorem mg_parted (hC : CallFix p m c cc nL s args ga_T "NetWiresModel") (hw : ga_w (xa_K k) (ma_W k a y) A s H locs) {v : Int32} (hl : Cond.fieldLink "NetWiresModel" idx "NetWiresModel" "parted" "I" ∈ ga_T) (hdg : decode cc pc = .ok (.getfield idx, 3)) (hv : y.1 5 = v)
    (kk : W p l e R s m args below meth c H locs cells slots Q (F0 m (pc + 3) ls (.int v :: rest))) : W p l e R s m args below meth c H locs cells slots Q (F0 m pc ls (.ref (a 0) :: rest)) :=
  ga_get hC hw cl_M 0 rfl 15 (by decide) hl (by rw [← hv]; rfl) hdg kk
theorem mp_parted (hC : CallFix p m c cc nL s args ga_T "NetWiresModel") (hw : ga_w (xa_K k) (ma_W k a y) A s H locs) {v : Int32} (hl : Cond.fieldLink "NetWiresModel" idx "NetWiresModel" "parted" "I" ∈ ga_T) (hdg : decode cc pc = .ok (.putfield idx, 3))
    (kk : ∀ (H1 : Heap) (locs1 : List Loc), ga_w (xa_K k) (ma_W k a (ma_sI y 5 v)) A s H1 locs1 → W p l e R s m args below meth c H1 locs1 cells slots Q (F0 m (pc + 3) ls rest)) : W p l e R s m args below meth c H locs cells slots Q (F0 m pc ls (.int v :: .ref (a 0) :: rest)) :=
  ga_put (ty := .int) hC hw cl_M 0 rfl 15 (by decide) hl rfl (by decide +kernel) rfl rfl (Nat.le_of_ble_eq_true rfl) hdg (fun H1 locs1 h => kk H1 locs1 h)
theorem mg_down (hC : CallFix p m c cc nL s args ga_T "NetWiresModel") (hw : ga_w (xa_K k) (ma_W k a y) A s H locs) {v : Int32} (hl : Cond.fieldLink "NetWiresModel" idx "NetWiresModel" "down" "I" ∈ ga_T) (hdg : decode cc pc = .ok (.getfield idx, 3)) (hv : y.1 6 = v)
    (kk : W p l e R s m args below meth c H locs cells slots Q (F0 m (pc + 3) ls (.int v :: rest))) : W p l e R s m args below meth c H locs cells slots Q (F0 m pc ls (.ref (a 0) :: rest)) :=
  ga_get hC hw cl_M 0 rfl 16 (by decide) hl (by rw [← hv]; rfl) hdg kk
theorem mp_down (hC : CallFix p m c cc nL s args ga_T "NetWiresModel") (hw : ga_w (xa_K k) (ma_W k a y) A s H locs) {v : Int32} (hl : Cond.fieldLink "NetWiresModel" idx "NetWiresModel" "down" "I" ∈ ga_T) (hdg : decode cc pc = .ok (.putfield idx, 3))
    (kk : ∀ (H1 : Heap) (locs1 : List Loc), ga_w (xa_K k) (ma_W k a (ma_sI y 6 v)) A s H1 locs1 → W p l e R s m args below meth c H1 locs1 cells slots Q (F0 m (pc + 3) ls rest)) : W p l e R s m args below meth c H locs cells slots Q (F0 m pc ls (.int v :: .ref (a 0) :: rest)) :=
  ga_put (ty := .int) hC hw cl_M 0 rfl 16 (by decide) hl rfl (by decide +kernel) rfl rfl (Nat.le_of_ble_eq_true rfl) hdg (fun H1 locs1 h => kk H1 locs1 h)
theorem mg_loss (hC : CallFix p m c cc nL s args ga_T "NetWiresModel") (hw : ga_w (xa_K k) (ma_W k a y) A s H locs) {v : Int32} (hl : Cond.fieldLink "NetWiresModel" idx "NetWiresModel" "loss" "I" ∈ ga_T) (hdg : decode cc pc = .ok (.getfield idx, 3)) (hv : y.1 7 = v)
    (kk : W p l e R s m args below meth c H locs cells slots Q (F0 m (pc + 3) ls (.int v :: rest))) : W p l e R s m args below meth c H locs cells slots Q (F0 m pc ls (.ref (a 0) :: rest)) :=
  ga_get hC hw cl_M 0 rfl 17 (by decide) hl (by rw [← hv]; rfl) hdg kk
theorem mp_loss (hC : CallFix p m c cc nL s args ga_T "NetWiresModel") (hw : ga_w (xa_K k) (ma_W k a y) A s H locs) {v : Int32} (hl : Cond.fieldLink "NetWiresModel" idx "NetWiresModel" "loss" "I" ∈ ga_T) (hdg : decode cc pc = .ok (.putfield idx, 3))
    (kk : ∀ (H1 : Heap) (locs1 : List Loc), ga_w (xa_K k) (ma_W k a (ma_sI y 7 v)) A s H1 locs1 → W p l e R s m args below meth c H1 locs1 cells slots Q (F0 m (pc + 3) ls rest)) : W p l e R s m args below meth c H locs cells slots Q (F0 m pc ls (.int v :: .ref (a 0) :: rest)) :=
  ga_put (ty := .int) hC hw cl_M 0 rfl 17 (by decide) hl rfl (by decide +kernel) rfl rfl (Nat.le_of_ble_eq_true rfl) hdg (fun H1 locs1 h => kk H1 locs1 h)
theorem mg_twice (hC : CallFix p m c cc nL s args ga_T "NetWiresModel") (hw : ga_w (xa_K k) (ma_W k a y) A s H locs) {v : Int32} (hl : Cond.fieldLink "NetWiresModel" idx "NetWiresModel" "twice" "I" ∈ ga_T) (hdg : decode cc pc = .ok (.getfield idx, 3)) (hv : y.1 8 = v)
    (kk : W p l e R s m args below meth c H locs cells slots Q (F0 m (pc + 3) ls (.int v :: rest))) : W p l e R s m args below meth c H locs cells slots Q (F0 m pc ls (.ref (a 0) :: rest)) :=
  ga_get hC hw cl_M 0 rfl 18 (by decide) hl (by rw [← hv]; rfl) hdg kk
theorem mp_twice (hC : CallFix p m c cc nL s args ga_T "NetWiresModel") (hw : ga_w (xa_K k) (ma_W k a y) A s H locs) {v : Int32} (hl : Cond.fieldLink "NetWiresModel" idx "NetWiresModel" "twice" "I" ∈ ga_T) (hdg : decode cc pc = .ok (.putfield idx, 3))
    (kk : ∀ (H1 : Heap) (locs1 : List Loc), ga_w (xa_K k) (ma_W k a (ma_sI y 8 v)) A s H1 locs1 → W p l e R s m args below meth c H1 locs1 cells slots Q (F0 m (pc + 3) ls rest)) : W p l e R s m args below meth c H locs cells slots Q (F0 m pc ls (.int v :: .ref (a 0) :: rest)) :=
  ga_put (ty := .int) hC hw cl_M 0 rfl 18 (by decide) hl rfl (by decide +kernel) rfl rfl (Nat.le_of_ble_eq_true rfl) hdg (fun H1 locs1 h => kk H1 locs1 h)
theorem mg_spread (hC : CallFix p m c cc nL s args ga_T "NetWiresModel") (hw : ga_w (xa_K k) (ma_W k a y) A s H locs) {v : Int32} (hl : Cond.fieldLink "NetWiresModel" idx "NetWiresModel" "spread" "I" ∈ ga_T) (hdg : decode cc pc = .ok (.getfield idx, 3)) (hv : y.1 9 = v)
    (kk : W p l e R s m args below meth c H locs cells slots Q (F0 m (pc + 3) ls (.int v :: rest))) : W p l e R s m args below meth c H locs cells slots Q (F0 m pc ls (.ref (a 0) :: rest)) :=
  ga_get hC hw cl_M 0 rfl 19 (by decide) hl (by rw [← hv]; rfl) hdg kk
theorem mp_spread (hC : CallFix p m c cc nL s args ga_T "NetWiresModel") (hw : ga_w (xa_K k) (ma_W k a y) A s H locs) {v : Int32} (hl : Cond.fieldLink "NetWiresModel" idx "NetWiresModel" "spread" "I" ∈ ga_T) (hdg : decode cc pc = .ok (.putfield idx, 3))
    (kk : ∀ (H1 : Heap) (locs1 : List Loc), ga_w (xa_K k) (ma_W k a (ma_sI y 9 v)) A s H1 locs1 → W p l e R s m args below meth c H1 locs1 cells slots Q (F0 m (pc + 3) ls rest)) : W p l e R s m args below meth c H locs cells slots Q (F0 m pc ls (.int v :: .ref (a 0) :: rest)) :=
  ga_put (ty := .int) hC hw cl_M 0 rfl 19 (by decide) hl rfl (by decide +kernel) rfl rfl (Nat.le_of_ble_eq_true rfl) hdg (fun H1 locs1 h => kk H1 locs1 h)
theorem mg_draw (hC : CallFix p m c cc nL s args ga_T "NetWiresModel") (hw : ga_w (xa_K k) (ma_W k a y) A s H locs) {v : Int64} (hl : Cond.fieldLink "NetWiresModel" idx "NetWiresModel" "draw" "J" ∈ ga_T) (hdg : decode cc pc = .ok (.getfield idx, 3)) (hv : ma_D y = v)
    (kk : W p l e R s m args below meth c H locs cells slots Q (F0 m (pc + 3) ls (.long v :: rest))) : W p l e R s m args below meth c H locs cells slots Q (F0 m pc ls (.ref (a 0) :: rest)) :=
  ga_get hC hw cl_M 0 rfl 20 (by decide) hl (by rw [← hv]; rfl) hdg kk
theorem mp_draw (hC : CallFix p m c cc nL s args ga_T "NetWiresModel") (hw : ga_w (xa_K k) (ma_W k a y) A s H locs) {v : Int64} (hl : Cond.fieldLink "NetWiresModel" idx "NetWiresModel" "draw" "J" ∈ ga_T) (hdg : decode cc pc = .ok (.putfield idx, 3))
    (kk : ∀ (H1 : Heap) (locs1 : List Loc), ga_w (xa_K k) (ma_W k a (ma_sD y v)) A s H1 locs1 → W p l e R s m args below meth c H1 locs1 cells slots Q (F0 m (pc + 3) ls rest)) : W p l e R s m args below meth c H locs cells slots Q (F0 m pc ls (.long v :: .ref (a 0) :: rest)) :=
  ga_put (ty := .long) hC hw cl_M 0 rfl 20 (by decide) hl rfl (by decide +kernel) rfl rfl (Nat.le_of_ble_eq_true rfl) hdg (fun H1 locs1 h => kk H1 locs1 h)
theorem mg_onTheWay (hC : CallFix p m c cc nL s args ga_T "NetWiresModel") (hw : ga_w (xa_K k) (ma_W k a y) A s H locs) {v : Int32} (hl : Cond.fieldLink "NetWiresModel" idx "NetWiresModel" "onTheWay" "I" ∈ ga_T) (hdg : decode cc pc = .ok (.getfield idx, 3)) (hv : y.1 10 = v)
    (kk : W p l e R s m args below meth c H locs cells slots Q (F0 m (pc + 3) ls (.int v :: rest))) : W p l e R s m args below meth c H locs cells slots Q (F0 m pc ls (.ref (a 0) :: rest)) :=
  ga_get hC hw cl_M 0 rfl 21 (by decide) hl (by rw [← hv]; rfl) hdg kk
theorem mp_onTheWay (hC : CallFix p m c cc nL s args ga_T "NetWiresModel") (hw : ga_w (xa_K k) (ma_W k a y) A s H locs) {v : Int32} (hl : Cond.fieldLink "NetWiresModel" idx "NetWiresModel" "onTheWay" "I" ∈ ga_T) (hdg : decode cc pc = .ok (.putfield idx, 3))
    (kk : ∀ (H1 : Heap) (locs1 : List Loc), ga_w (xa_K k) (ma_W k a (ma_sI y 10 v)) A s H1 locs1 → W p l e R s m args below meth c H1 locs1 cells slots Q (F0 m (pc + 3) ls rest)) : W p l e R s m args below meth c H locs cells slots Q (F0 m pc ls (.int v :: .ref (a 0) :: rest)) :=
  ga_put (ty := .int) hC hw cl_M 0 rfl 21 (by decide) hl rfl (by decide +kernel) rfl rfl (Nat.le_of_ble_eq_true rfl) hdg (fun H1 locs1 h => kk H1 locs1 h)
theorem mg_sent (hC : CallFix p m c cc nL s args ga_T "NetWiresModel") (hw : ga_w (xa_K k) (ma_W k a y) A s H locs) {v : Int32} (hl : Cond.fieldLink "NetWiresModel" idx "NetWiresModel" "sent" "I" ∈ ga_T) (hdg : decode cc pc = .ok (.getfield idx, 3)) (hv : y.1 11 = v)
    (kk : W p l e R s m args below meth c H locs cells slots Q (F0 m (pc + 3) ls (.int v :: rest))) : W p l e R s m args below meth c H locs cells slots Q (F0 m pc ls (.ref (a 0) :: rest)) :=
  ga_get hC hw cl_M 0 rfl 22 (by decide) hl (by rw [← hv]; rfl) hdg kk
theorem mp_sent (hC : CallFix p m c cc nL s args ga_T "NetWiresModel") (hw : ga_w (xa_K k) (ma_W k a y) A s H locs) {v : Int32} (hl : Cond.fieldLink "NetWiresModel" idx "NetWiresModel" "sent" "I" ∈ ga_T) (hdg : decode cc pc = .ok (.putfield idx, 3))
    (kk : ∀ (H1 : Heap) (locs1 : List Loc), ga_w (xa_K k) (ma_W k a (ma_sI y 11 v)) A s H1 locs1 → W p l e R s m args below meth c H1 locs1 cells slots Q (F0 m (pc + 3) ls rest)) : W p l e R s m args below meth c H locs cells slots Q (F0 m pc ls (.int v :: .ref (a 0) :: rest)) :=
  ga_put (ty := .int) hC hw cl_M 0 rfl 22 (by decide) hl rfl (by decide +kernel) rfl rfl (Nat.le_of_ble_eq_true rfl) hdg (fun H1 locs1 h => kk H1 locs1 h)
theorem mg_lost (hC : CallFix p m c cc nL s args ga_T "NetWiresModel") (hw : ga_w (xa_K k) (ma_W k a y) A s H locs) {v : Int32} (hl : Cond.fieldLink "NetWiresModel" idx "NetWiresModel" "lost" "I" ∈ ga_T) (hdg : decode cc pc = .ok (.getfield idx, 3)) (hv : y.1 12 = v)
    (kk : W p l e R s m args below meth c H locs cells slots Q (F0 m (pc + 3) ls (.int v :: rest))) : W p l e R s m args below meth c H locs cells slots Q (F0 m pc ls (.ref (a 0) :: rest)) :=
  ga_get hC hw cl_M 0 rfl 23 (by decide) hl (by rw [← hv]; rfl) hdg kk
theorem mp_lost (hC : CallFix p m c cc nL s args ga_T "NetWiresModel") (hw : ga_w (xa_K k) (ma_W k a y) A s H locs) {v : Int32} (hl : Cond.fieldLink "NetWiresModel" idx "NetWiresModel" "lost" "I" ∈ ga_T) (hdg : decode cc pc = .ok (.putfield idx, 3))
    (kk : ∀ (H1 : Heap) (locs1 : List Loc), ga_w (xa_K k) (ma_W k a (ma_sI y 12 v)) A s H1 locs1 → W p l e R s m args below meth c H1 locs1 cells slots Q (F0 m (pc + 3) ls rest)) : W p l e R s m args below meth c H locs cells slots Q (F0 m pc ls (.int v :: .ref (a 0) :: rest)) :=
  ga_put (ty := .int) hC hw cl_M 0 rfl 23 (by decide) hl rfl (by decide +kernel) rfl rfl (Nat.le_of_ble_eq_true rfl) hdg (fun H1 locs1 h => kk H1 locs1 h)
theorem mg_done (hC : CallFix p m c cc nL s args ga_T "NetWiresModel") (hw : ga_w (xa_K k) (ma_W k a y) A s H locs) {v : Int32} (hl : Cond.fieldLink "NetWiresModel" idx "NetWiresModel" "done" "I" ∈ ga_T) (hdg : decode cc pc = .ok (.getfield idx, 3)) (hv : y.1 13 = v)
    (kk : W p l e R s m args below meth c H locs cells slots Q (F0 m (pc + 3) ls (.int v :: rest))) : W p l e R s m args below meth c H locs cells slots Q (F0 m pc ls (.ref (a 0) :: rest)) :=
  ga_get hC hw cl_M 0 rfl 24 (by decide) hl (by rw [← hv]; rfl) hdg kk
theorem mp_done (hC : CallFix p m c cc nL s args ga_T "NetWiresModel") (hw : ga_w (xa_K k) (ma_W k a y) A s H locs) {v : Int32} (hl : Cond.fieldLink "NetWiresModel" idx "NetWiresModel" "done" "I" ∈ ga_T) (hdg : decode cc pc = .ok (.putfield idx, 3))
    (kk : ∀ (H1 : Heap) (locs1 : List Loc), ga_w (xa_K k) (ma_W k a (ma_sI y 13 v)) A s H1 locs1 → W p l e R s m args below meth c H1 locs1 cells slots Q (F0 m (pc + 3) ls rest)) : W p l e R s m args below meth c H locs cells slots Q (F0 m pc ls (.int v :: .ref (a 0) :: rest)) :=
  ga_put (ty := .int) hC hw cl_M 0 rfl 24 (by decide) hl rfl (by decide +kernel) rfl rfl (Nat.le_of_ble_eq_true rfl) hdg (fun H1 locs1 h => kk H1 locs1 h)
theorem mg_codes (hC : CallFix p m c cc nL s args ga_T "NetWiresModel") (hw : ga_w (xa_K k) (ma_W k a y) A s H locs) (hl : Cond.fieldLink "NetWiresModel" idx "NetWiresModel" "codes" "[I" ∈ ga_T) (hdg : decode cc pc = .ok (.getfield idx, 3))
    (kk : W p l e R s m args below meth c H locs cells slots Q (F0 m (pc + 3) ls (.ref (a 11) :: rest))) : W p l e R s m args below meth c H locs cells slots Q (F0 m pc ls (.ref (a 0) :: rest)) :=
  ga_get hC hw cl_M 0 rfl 25 (by decide) hl rfl hdg kk
theorem mr_codes (hC : CallFix p m c cc nL s args ga_T "NetWiresModel") (hw : ga_w (xa_K k) (ma_W k a y) A s H locs) {i v : Int32} (hin : vp_in i 32) (hdg : decode cc pc = .ok (.iaload, 1)) (hv : ma_A y 10 i.toNatClampNeg = v)
    (kk : W p l e R s m args below meth c H locs cells slots Q (F0 m (pc + 1) ls (.int v :: rest))) : W p l e R s m args below meth c H locs cells slots Q (F0 m pc ls (.int i :: .ref (a 11) :: rest)) :=
  ga_iald hC hw 11 1 rfl rfl hin hdg (by rw [← hv] at kk; exact kk)
theorem ms_codes (hC : CallFix p m c cc nL s args ga_T "NetWiresModel") (hw : ga_w (xa_K k) (ma_W k a y) A s H locs) {i v : Int32} (hin : vp_in i 32) (hdg : decode cc pc = .ok (.iastore, 1))
    (kk : ∀ (H1 : Heap) (locs1 : List Loc), ga_w (xa_K k) (ma_W k a (ma_sA y 10 (upd (ma_A y 10) i.toNatClampNeg v))) A s H1 locs1 → W p l e R s m args below meth c H1 locs1 cells slots Q (F0 m (pc + 1) ls rest)) : W p l e R s m args below meth c H locs cells slots Q (F0 m pc ls (.int v :: .int i :: .ref (a 11) :: rest)) :=
  ga_iast hC hw 11 1 rfl rfl hin hdg (fun H1 locs1 h => kk H1 locs1 h)
theorem mg_order (hC : CallFix p m c cc nL s args ga_T "NetWiresModel") (hw : ga_w (xa_K k) (ma_W k a y) A s H locs) (hl : Cond.fieldLink "NetWiresModel" idx "NetWiresModel" "order" "[I" ∈ ga_T) (hdg : decode cc pc = .ok (.getfield idx, 3))
    (kk : W p l e R s m args below meth c H locs cells slots Q (F0 m (pc + 3) ls (.ref (a 12) :: rest))) : W p l e R s m args below meth c H locs cells slots Q (F0 m pc ls (.ref (a 0) :: rest)) :=
  ga_get hC hw cl_M 0 rfl 26 (by decide) hl rfl hdg kk
theorem mr_order (hC : CallFix p m c cc nL s args ga_T "NetWiresModel") (hw : ga_w (xa_K k) (ma_W k a y) A s H locs) {i v : Int32} (hin : vp_in i 32) (hdg : decode cc pc = .ok (.iaload, 1)) (hv : ma_A y 11 i.toNatClampNeg = v)
    (kk : W p l e R s m args below meth c H locs cells slots Q (F0 m (pc + 1) ls (.int v :: rest))) : W p l e R s m args below meth c H locs cells slots Q (F0 m pc ls (.int i :: .ref (a 12) :: rest)) :=
  ga_iald hC hw 12 1 rfl rfl hin hdg (by rw [← hv] at kk; exact kk)
theorem ms_order (hC : CallFix p m c cc nL s args ga_T "NetWiresModel") (hw : ga_w (xa_K k) (ma_W k a y) A s H locs) {i v : Int32} (hin : vp_in i 32) (hdg : decode cc pc = .ok (.iastore, 1))
    (kk : ∀ (H1 : Heap) (locs1 : List Loc), ga_w (xa_K k) (ma_W k a (ma_sA y 11 (upd (ma_A y 11) i.toNatClampNeg v))) A s H1 locs1 → W p l e R s m args below meth c H1 locs1 cells slots Q (F0 m (pc + 1) ls rest)) : W p l e R s m args below meth c H locs cells slots Q (F0 m pc ls (.int v :: .int i :: .ref (a 12) :: rest)) :=
  ga_iast hC hw 12 1 rfl rfl hin hdg (fun H1 locs1 h => kk H1 locs1 h)
theorem mg_arrived (hC : CallFix p m c cc nL s args ga_T "NetWiresModel") (hw : ga_w (xa_K k) (ma_W k a y) A s H locs) {v : Int32} (hl : Cond.fieldLink "NetWiresModel" idx "NetWiresModel" "arrived" "I" ∈ ga_T) (hdg : decode cc pc = .ok (.getfield idx, 3)) (hv : y.1 14 = v)
    (kk : W p l e R s m args below meth c H locs cells slots Q (F0 m (pc + 3) ls (.int v :: rest))) : W p l e R s m args below meth c H locs cells slots Q (F0 m pc ls (.ref (a 0) :: rest)) :=
  ga_get hC hw cl_M 0 rfl 27 (by decide) hl (by rw [← hv]; rfl) hdg kk
theorem mp_arrived (hC : CallFix p m c cc nL s args ga_T "NetWiresModel") (hw : ga_w (xa_K k) (ma_W k a y) A s H locs) {v : Int32} (hl : Cond.fieldLink "NetWiresModel" idx "NetWiresModel" "arrived" "I" ∈ ga_T) (hdg : decode cc pc = .ok (.putfield idx, 3))
    (kk : ∀ (H1 : Heap) (locs1 : List Loc), ga_w (xa_K k) (ma_W k a (ma_sI y 14 v)) A s H1 locs1 → W p l e R s m args below meth c H1 locs1 cells slots Q (F0 m (pc + 3) ls rest)) : W p l e R s m args below meth c H locs cells slots Q (F0 m pc ls (.int v :: .ref (a 0) :: rest)) :=
  ga_put (ty := .int) hC hw cl_M 0 rfl 27 (by decide) hl rfl (by decide +kernel) rfl rfl (Nat.le_of_ble_eq_true rfl) hdg (fun H1 locs1 h => kk H1 locs1 h)
end MW
