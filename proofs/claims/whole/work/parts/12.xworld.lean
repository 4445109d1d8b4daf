/-! The world of a NetWires object. k = (class numbers and slots, array classes, addresses: 0 the object, 1 tape, 2 its bytes, 3 agenda, 4 its events, 5 history, 6 its facts, 7 noise, 8 delays, 9 NO_BYTES); x = (ints: 0 now 1 nextNumber 2 partedSet 3 downSet 4 everOnWay 5 lost 6 tape.length 7 agenda.size 8 agenda.messages 9 newest 10 kept 11 total 12 loss 13 twice 14 spread; draw; tape; events; facts; delays; arrivedBytes; the pool of events and byte arrays) -/
abbrev xa_k : Type := va_G × (Nat → ClassId) × (Nat → Nat)
abbrev xa_a (k : xa_k) (i : Nat) : Nat := k.2.2 i
abbrev XS : Type := (Nat → Int32) × Int64 × (Nat → Int32) × (Nat → Option Nat) × (Nat → Int32) × (Nat → Int32) × Nat × List Nat × (Nat → va_E)
abbrev xa_D (x : XS) : Int64 := x.2.1
abbrev xa_T (x : XS) : Nat → Int32 := x.2.2.1
abbrev xa_E (x : XS) : Nat → Option Nat := x.2.2.2.1
abbrev xa_F (x : XS) : Nat → Int32 := x.2.2.2.2.1
abbrev xa_L (x : XS) : Nat → Int32 := x.2.2.2.2.2.1
abbrev xa_B (x : XS) : Nat := x.2.2.2.2.2.2.1
abbrev xa_P (x : XS) : List Nat × (Nat → va_E) := x.2.2.2.2.2.2.2
def xa_sI (x : XS) (i : Nat) (v : Int32) : XS := (upd x.1 i v, x.2)
def xa_sD (x : XS) (v : Int64) : XS := (x.1, v, x.2.2)
def xa_sT (x : XS) (v : Nat → Int32) : XS := (x.1, x.2.1, v, x.2.2.2)
def xa_sE (x : XS) (v : Nat → Option Nat) : XS := (x.1, x.2.1, x.2.2.1, v, x.2.2.2.2)
def xa_sF (x : XS) (v : Nat → Int32) : XS := (x.1, x.2.1, x.2.2.1, x.2.2.2.1, v, x.2.2.2.2.2)
def xa_sL (x : XS) (v : Nat → Int32) : XS := (x.1, x.2.1, x.2.2.1, x.2.2.2.1, x.2.2.2.2.1, v, x.2.2.2.2.2.2)
def xa_sB (x : XS) (v : Nat) : XS := (x.1, x.2.1, x.2.2.1, x.2.2.2.1, x.2.2.2.2.1, x.2.2.2.2.2.1, v, x.2.2.2.2.2.2.2)
def xa_sP (x : XS) (v : List Nat × (Nat → va_E)) : XS := (x.1, x.2.1, x.2.2.1, x.2.2.2.1, x.2.2.2.2.1, x.2.2.2.2.2.1, x.2.2.2.2.2.2.1, v)
def xa_C (k : xa_k) (x : XS) : va_W := [(xa_a k 0, .inr (0, [.ref (xa_a k 1), .ref (xa_a k 3), .ref (xa_a k 5), .ref (xa_a k 7), .ref (xa_a k 8), .int (x.1 0), .int (x.1 1), .int (x.1 2), .int (x.1 3), .int (x.1 4), .int (x.1 5), .ref (xa_B x)])), (xa_a k 1, .inr (1, [.ref (xa_a k 2), .int (x.1 6)])), (xa_a k 2, .inl (k.2.1 0, 2048, .inl (xa_T x))), (xa_a k 3, .inr (2, [.ref (xa_a k 4), .int (x.1 7), .int (x.1 8)])), (xa_a k 4, .inl (k.2.1 2, 232, .inr (.inr (.inr (.inr (xa_E x)))))), (xa_a k 5, .inr (3, [.ref (xa_a k 6), .int (x.1 9), .int (x.1 10), .int (x.1 11)])), (xa_a k 6, .inl (k.2.1 1, 128, .inl (xa_F x))), (xa_a k 7, .inr (4, [.int (x.1 12), .int (x.1 13), .int (x.1 14), .long (xa_D x)])), (xa_a k 8, .inl (k.2.1 1, 256, .inl (xa_L x)))]
def xa_W (k : xa_k) (x : XS) : va_W := xa_C k x ++ va_pl (xa_P x).1 (xa_P x).2
def xa_ty (k : xa_k) : List (ClassId × FieldType) := [(k.2.1 0, .byte), (k.2.1 1, .int), (k.2.1 2, .object "NetWires$Event"), (k.2.1 3, .boolean), (k.2.1 4, .long)]
def xa_K (k : xa_k) : ga_K := (k.1, xa_ty k, ga_stat (xa_a k 9))
/-- an event of the pool: its ints (0 kind 1 endpoint 2 from 3 time 4 number) and the address of its bytes -/
def xa_ev (v : Nat → Int32) (b : Nat) : va_E := .inr (5, [.int (v 0), .int (v 1), .int (v 2), .int (v 3), .int (v 4), .ref b])
def xa_isE (P : List Nat × (Nat → va_E)) (a : Nat) (v : Nat → Int32) (b : Nat) : Prop := a ∈ P.1 ∧ P.2 a = xa_ev v b
/-- a row of n bytes f: in the pool, or NO_BYTES -/
def xa_isB (k : xa_k) (P : List Nat × (Nat → va_E)) (b n : Nat) (f : Nat → Int32) : Prop := (b ∈ P.1 ∧ P.2 b = .inl (k.2.1 0, n, .inl f)) ∨ (b = xa_a k 9 ∧ n = 0)
section XW
variable {p : Program} {l : Launch} {e : Env} {R : Room} {s : State} {m : MethodId} {args : Array Value} {below : List Frame} {meth : Method} {c : Code} {H : Heap} {locs : List Loc} {cells slots : Nat} {Q : State → Prop}
variable {cc : ByteArray} {pc nL idx : Nat} {ls : Array Slot} {rest : List Value} {k : xa_k} {x : XS} {A : Nat → Prop} {own : String}
theorem xg_NetWires_tape (hC : CallFix p m c cc nL s args ga_T own) (hw : ga_w (xa_K k) (xa_W k x) A s H locs) (hl : Cond.fieldLink own idx "NetWires" "tape" "LNetWires$Tape;" ∈ ga_T) (hdg : decode cc pc = .ok (.getfield idx, 3))
    (kk : W p l e R s m args below meth c H locs cells slots Q (F0 m (pc + 3) ls (.ref (xa_a k 1) :: rest))) : W p l e R s m args below meth c H locs cells slots Q (F0 m pc ls (.ref (xa_a k 0) :: rest)) :=
  ga_get hC hw cl_NetWires 0 rfl 0 (by decide) hl rfl hdg kk
theorem xg_NetWires_agenda (hC : CallFix p m c cc nL s args ga_T own) (hw : ga_w (xa_K k) (xa_W k x) A s H locs) (hl : Cond.fieldLink own idx "NetWires" "agenda" "LNetWires$Agenda;" ∈ ga_T) (hdg : decode cc pc = .ok (.getfield idx, 3))
    (kk : W p l e R s m args below meth c H locs cells slots Q (F0 m (pc + 3) ls (.ref (xa_a k 3) :: rest))) : W p l e R s m args below meth c H locs cells slots Q (F0 m pc ls (.ref (xa_a k 0) :: rest)) :=
  ga_get hC hw cl_NetWires 0 rfl 1 (by decide) hl rfl hdg kk
theorem xg_NetWires_history (hC : CallFix p m c cc nL s args ga_T own) (hw : ga_w (xa_K k) (xa_W k x) A s H locs) (hl : Cond.fieldLink own idx "NetWires" "history" "LNetWires$History;" ∈ ga_T) (hdg : decode cc pc = .ok (.getfield idx, 3))
    (kk : W p l e R s m args below meth c H locs cells slots Q (F0 m (pc + 3) ls (.ref (xa_a k 5) :: rest))) : W p l e R s m args below meth c H locs cells slots Q (F0 m pc ls (.ref (xa_a k 0) :: rest)) :=
  ga_get hC hw cl_NetWires 0 rfl 2 (by decide) hl rfl hdg kk
theorem xg_NetWires_disturbance (hC : CallFix p m c cc nL s args ga_T own) (hw : ga_w (xa_K k) (xa_W k x) A s H locs) (hl : Cond.fieldLink own idx "NetWires" "disturbance" "LNetWires$Noise;" ∈ ga_T) (hdg : decode cc pc = .ok (.getfield idx, 3))
    (kk : W p l e R s m args below meth c H locs cells slots Q (F0 m (pc + 3) ls (.ref (xa_a k 7) :: rest))) : W p l e R s m args below meth c H locs cells slots Q (F0 m pc ls (.ref (xa_a k 0) :: rest)) :=
  ga_get hC hw cl_NetWires 0 rfl 3 (by decide) hl rfl hdg kk
theorem xg_NetWires_delays (hC : CallFix p m c cc nL s args ga_T own) (hw : ga_w (xa_K k) (xa_W k x) A s H locs) (hl : Cond.fieldLink own idx "NetWires" "delays" "[I" ∈ ga_T) (hdg : decode cc pc = .ok (.getfield idx, 3))
    (kk : W p l e R s m args below meth c H locs cells slots Q (F0 m (pc + 3) ls (.ref (xa_a k 8) :: rest))) : W p l e R s m args below meth c H locs cells slots Q (F0 m pc ls (.ref (xa_a k 0) :: rest)) :=
  ga_get hC hw cl_NetWires 0 rfl 4 (by decide) hl rfl hdg kk
theorem xg_NetWires_now (hC : CallFix p m c cc nL s args ga_T own) (hw : ga_w (xa_K k) (xa_W k x) A s H locs) {v : Int32} (hl : Cond.fieldLink own idx "NetWires" "now" "I" ∈ ga_T) (hdg : decode cc pc = .ok (.getfield idx, 3)) (hv : x.1 0 = v)
    (kk : W p l e R s m args below meth c H locs cells slots Q (F0 m (pc + 3) ls (.int v :: rest))) : W p l e R s m args below meth c H locs cells slots Q (F0 m pc ls (.ref (xa_a k 0) :: rest)) :=
  ga_get hC hw cl_NetWires 0 rfl 5 (by decide) hl (by rw [← hv]; rfl) hdg kk
theorem xp_NetWires_now (hC : CallFix p m c cc nL s args ga_T own) (hw : ga_w (xa_K k) (xa_W k x) A s H locs) {v : Int32} (hl : Cond.fieldLink own idx "NetWires" "now" "I" ∈ ga_T) (hdg : decode cc pc = .ok (.putfield idx, 3))
    (kk : ∀ (H1 : Heap) (locs1 : List Loc), ga_w (xa_K k) (xa_W k (xa_sI x 0 v)) A s H1 locs1 → W p l e R s m args below meth c H1 locs1 cells slots Q (F0 m (pc + 3) ls rest)) : W p l e R s m args below meth c H locs cells slots Q (F0 m pc ls (.int v :: .ref (xa_a k 0) :: rest)) :=
  ga_put (ty := .int) hC hw cl_NetWires 0 rfl 5 (by decide) hl rfl (by decide +kernel) rfl rfl (Nat.le_of_ble_eq_true rfl) hdg (fun H1 locs1 h => kk H1 locs1 h)
theorem xg_NetWires_nextNumber (hC : CallFix p m c cc nL s args ga_T own) (hw : ga_w (xa_K k) (xa_W k x) A s H locs) {v : Int32} (hl : Cond.fieldLink own idx "NetWires" "nextNumber" "I" ∈ ga_T) (hdg : decode cc pc = .ok (.getfield idx, 3)) (hv : x.1 1 = v)
    (kk : W p l e R s m args below meth c H locs cells slots Q (F0 m (pc + 3) ls (.int v :: rest))) : W p l e R s m args below meth c H locs cells slots Q (F0 m pc ls (.ref (xa_a k 0) :: rest)) :=
  ga_get hC hw cl_NetWires 0 rfl 6 (by decide) hl (by rw [← hv]; rfl) hdg kk
theorem xp_NetWires_nextNumber (hC : CallFix p m c cc nL s args ga_T own) (hw : ga_w (xa_K k) (xa_W k x) A s H locs) {v : Int32} (hl : Cond.fieldLink own idx "NetWires" "nextNumber" "I" ∈ ga_T) (hdg : decode cc pc = .ok (.putfield idx, 3))
    (kk : ∀ (H1 : Heap) (locs1 : List Loc), ga_w (xa_K k) (xa_W k (xa_sI x 1 v)) A s H1 locs1 → W p l e R s m args below meth c H1 locs1 cells slots Q (F0 m (pc + 3) ls rest)) : W p l e R s m args below meth c H locs cells slots Q (F0 m pc ls (.int v :: .ref (xa_a k 0) :: rest)) :=
  ga_put (ty := .int) hC hw cl_NetWires 0 rfl 6 (by decide) hl rfl (by decide +kernel) rfl rfl (Nat.le_of_ble_eq_true rfl) hdg (fun H1 locs1 h => kk H1 locs1 h)
theorem xg_NetWires_partedSet (hC : CallFix p m c cc nL s args ga_T own) (hw : ga_w (xa_K k) (xa_W k x) A s H locs) {v : Int32} (hl : Cond.fieldLink own idx "NetWires" "partedSet" "I" ∈ ga_T) (hdg : decode cc pc = .ok (.getfield idx, 3)) (hv : x.1 2 = v)
    (kk : W p l e R s m args below meth c H locs cells slots Q (F0 m (pc + 3) ls (.int v :: rest))) : W p l e R s m args below meth c H locs cells slots Q (F0 m pc ls (.ref (xa_a k 0) :: rest)) :=
  ga_get hC hw cl_NetWires 0 rfl 7 (by decide) hl (by rw [← hv]; rfl) hdg kk
theorem xp_NetWires_partedSet (hC : CallFix p m c cc nL s args ga_T own) (hw : ga_w (xa_K k) (xa_W k x) A s H locs) {v : Int32} (hl : Cond.fieldLink own idx "NetWires" "partedSet" "I" ∈ ga_T) (hdg : decode cc pc = .ok (.putfield idx, 3))
    (kk : ∀ (H1 : Heap) (locs1 : List Loc), ga_w (xa_K k) (xa_W k (xa_sI x 2 v)) A s H1 locs1 → W p l e R s m args below meth c H1 locs1 cells slots Q (F0 m (pc + 3) ls rest)) : W p l e R s m args below meth c H locs cells slots Q (F0 m pc ls (.int v :: .ref (xa_a k 0) :: rest)) :=
  ga_put (ty := .int) hC hw cl_NetWires 0 rfl 7 (by decide) hl rfl (by decide +kernel) rfl rfl (Nat.le_of_ble_eq_true rfl) hdg (fun H1 locs1 h => kk H1 locs1 h)
theorem xg_NetWires_downSet (hC : CallFix p m c cc nL s args ga_T own) (hw : ga_w (xa_K k) (xa_W k x) A s H locs) {v : Int32} (hl : Cond.fieldLink own idx "NetWires" "downSet" "I" ∈ ga_T) (hdg : decode cc pc = .ok (.getfield idx, 3)) (hv : x.1 3 = v)
    (kk : W p l e R s m args below meth c H locs cells slots Q (F0 m (pc + 3) ls (.int v :: rest))) : W p l e R s m args below meth c H locs cells slots Q (F0 m pc ls (.ref (xa_a k 0) :: rest)) :=
  ga_get hC hw cl_NetWires 0 rfl 8 (by decide) hl (by rw [← hv]; rfl) hdg kk
theorem xp_NetWires_downSet (hC : CallFix p m c cc nL s args ga_T own) (hw : ga_w (xa_K k) (xa_W k x) A s H locs) {v : Int32} (hl : Cond.fieldLink own idx "NetWires" "downSet" "I" ∈ ga_T) (hdg : decode cc pc = .ok (.putfield idx, 3))
    (kk : ∀ (H1 : Heap) (locs1 : List Loc), ga_w (xa_K k) (xa_W k (xa_sI x 3 v)) A s H1 locs1 → W p l e R s m args below meth c H1 locs1 cells slots Q (F0 m (pc + 3) ls rest)) : W p l e R s m args below meth c H locs cells slots Q (F0 m pc ls (.int v :: .ref (xa_a k 0) :: rest)) :=
  ga_put (ty := .int) hC hw cl_NetWires 0 rfl 8 (by decide) hl rfl (by decide +kernel) rfl rfl (Nat.le_of_ble_eq_true rfl) hdg (fun H1 locs1 h => kk H1 locs1 h)
theorem xg_NetWires_everOnWay (hC : CallFix p m c cc nL s args ga_T own) (hw : ga_w (xa_K k) (xa_W k x) A s H locs) {v : Int32} (hl : Cond.fieldLink own idx "NetWires" "everOnWay" "I" ∈ ga_T) (hdg : decode cc pc = .ok (.getfield idx, 3)) (hv : x.1 4 = v)
    (kk : W p l e R s m args below meth c H locs cells slots Q (F0 m (pc + 3) ls (.int v :: rest))) : W p l e R s m args below meth c H locs cells slots Q (F0 m pc ls (.ref (xa_a k 0) :: rest)) :=
  ga_get hC hw cl_NetWires 0 rfl 9 (by decide) hl (by rw [← hv]; rfl) hdg kk
theorem xp_NetWires_everOnWay (hC : CallFix p m c cc nL s args ga_T own) (hw : ga_w (xa_K k) (xa_W k x) A s H locs) {v : Int32} (hl : Cond.fieldLink own idx "NetWires" "everOnWay" "I" ∈ ga_T) (hdg : decode cc pc = .ok (.putfield idx, 3))
    (kk : ∀ (H1 : Heap) (locs1 : List Loc), ga_w (xa_K k) (xa_W k (xa_sI x 4 v)) A s H1 locs1 → W p l e R s m args below meth c H1 locs1 cells slots Q (F0 m (pc + 3) ls rest)) : W p l e R s m args below meth c H locs cells slots Q (F0 m pc ls (.int v :: .ref (xa_a k 0) :: rest)) :=
  ga_put (ty := .int) hC hw cl_NetWires 0 rfl 9 (by decide) hl rfl (by decide +kernel) rfl rfl (Nat.le_of_ble_eq_true rfl) hdg (fun H1 locs1 h => kk H1 locs1 h)
theorem xg_NetWires_lost (hC : CallFix p m c cc nL s args ga_T own) (hw : ga_w (xa_K k) (xa_W k x) A s H locs) {v : Int32} (hl : Cond.fieldLink own idx "NetWires" "lost" "I" ∈ ga_T) (hdg : decode cc pc = .ok (.getfield idx, 3)) (hv : x.1 5 = v)
    (kk : W p l e R s m args below meth c H locs cells slots Q (F0 m (pc + 3) ls (.int v :: rest))) : W p l e R s m args below meth c H locs cells slots Q (F0 m pc ls (.ref (xa_a k 0) :: rest)) :=
  ga_get hC hw cl_NetWires 0 rfl 10 (by decide) hl (by rw [← hv]; rfl) hdg kk
theorem xp_NetWires_lost (hC : CallFix p m c cc nL s args ga_T own) (hw : ga_w (xa_K k) (xa_W k x) A s H locs) {v : Int32} (hl : Cond.fieldLink own idx "NetWires" "lost" "I" ∈ ga_T) (hdg : decode cc pc = .ok (.putfield idx, 3))
    (kk : ∀ (H1 : Heap) (locs1 : List Loc), ga_w (xa_K k) (xa_W k (xa_sI x 5 v)) A s H1 locs1 → W p l e R s m args below meth c H1 locs1 cells slots Q (F0 m (pc + 3) ls rest)) : W p l e R s m args below meth c H locs cells slots Q (F0 m pc ls (.int v :: .ref (xa_a k 0) :: rest)) :=
  ga_put (ty := .int) hC hw cl_NetWires 0 rfl 10 (by decide) hl rfl (by decide +kernel) rfl rfl (Nat.le_of_ble_eq_true rfl) hdg (fun H1 locs1 h => kk H1 locs1 h)
theorem xg_NetWires_arrivedBytes (hC : CallFix p m c cc nL s args ga_T own) (hw : ga_w (xa_K k) (xa_W k x) A s H locs) {v : Nat} (hl : Cond.fieldLink own idx "NetWires" "arrivedBytes" "[B" ∈ ga_T) (hdg : decode cc pc = .ok (.getfield idx, 3)) (hv : xa_B x = v)
    (kk : W p l e R s m args below meth c H locs cells slots Q (F0 m (pc + 3) ls (.ref v :: rest))) : W p l e R s m args below meth c H locs cells slots Q (F0 m pc ls (.ref (xa_a k 0) :: rest)) :=
  ga_get hC hw cl_NetWires 0 rfl 11 (by decide) hl (by rw [← hv]; rfl) hdg kk
theorem xp_NetWires_arrivedBytes (hC : CallFix p m c cc nL s args ga_T own) (hw : ga_w (xa_K k) (xa_W k x) A s H locs) {v : Nat} (hl : Cond.fieldLink own idx "NetWires" "arrivedBytes" "[B" ∈ ga_T) (hdg : decode cc pc = .ok (.putfield idx, 3))
    (kk : ∀ (H1 : Heap) (locs1 : List Loc), ga_w (xa_K k) (xa_W k (xa_sB x v)) A s H1 locs1 → W p l e R s m args below meth c H1 locs1 cells slots Q (F0 m (pc + 3) ls rest)) : W p l e R s m args below meth c H locs cells slots Q (F0 m pc ls (.ref v :: .ref (xa_a k 0) :: rest)) :=
  ga_put (ty := .array .byte) hC hw cl_NetWires 0 rfl 11 (by decide) hl rfl (by decide +kernel) rfl rfl (Nat.le_of_ble_eq_true rfl) hdg (fun H1 locs1 h => kk H1 locs1 h)
theorem xg_Tape_bytes (hC : CallFix p m c cc nL s args ga_T own) (hw : ga_w (xa_K k) (xa_W k x) A s H locs) (hl : Cond.fieldLink own idx "NetWires$Tape" "bytes" "[B" ∈ ga_T) (hdg : decode cc pc = .ok (.getfield idx, 3))
    (kk : W p l e R s m args below meth c H locs cells slots Q (F0 m (pc + 3) ls (.ref (xa_a k 2) :: rest))) : W p l e R s m args below meth c H locs cells slots Q (F0 m pc ls (.ref (xa_a k 1) :: rest)) :=
  ga_get hC hw cl_Tape 1 rfl 0 (by decide) hl rfl hdg kk
theorem xg_Tape_length (hC : CallFix p m c cc nL s args ga_T own) (hw : ga_w (xa_K k) (xa_W k x) A s H locs) {v : Int32} (hl : Cond.fieldLink own idx "NetWires$Tape" "length" "I" ∈ ga_T) (hdg : decode cc pc = .ok (.getfield idx, 3)) (hv : x.1 6 = v)
    (kk : W p l e R s m args below meth c H locs cells slots Q (F0 m (pc + 3) ls (.int v :: rest))) : W p l e R s m args below meth c H locs cells slots Q (F0 m pc ls (.ref (xa_a k 1) :: rest)) :=
  ga_get hC hw cl_Tape 1 rfl 1 (by decide) hl (by rw [← hv]; rfl) hdg kk
theorem xp_Tape_length (hC : CallFix p m c cc nL s args ga_T own) (hw : ga_w (xa_K k) (xa_W k x) A s H locs) {v : Int32} (hl : Cond.fieldLink own idx "NetWires$Tape" "length" "I" ∈ ga_T) (hdg : decode cc pc = .ok (.putfield idx, 3))
    (kk : ∀ (H1 : Heap) (locs1 : List Loc), ga_w (xa_K k) (xa_W k (xa_sI x 6 v)) A s H1 locs1 → W p l e R s m args below meth c H1 locs1 cells slots Q (F0 m (pc + 3) ls rest)) : W p l e R s m args below meth c H locs cells slots Q (F0 m pc ls (.int v :: .ref (xa_a k 1) :: rest)) :=
  ga_put (ty := .int) hC hw cl_Tape 1 rfl 1 (by decide) hl rfl (by decide +kernel) rfl rfl (Nat.le_of_ble_eq_true rfl) hdg (fun H1 locs1 h => kk H1 locs1 h)
theorem xg_Agenda_events (hC : CallFix p m c cc nL s args ga_T own) (hw : ga_w (xa_K k) (xa_W k x) A s H locs) (hl : Cond.fieldLink own idx "NetWires$Agenda" "events" "[LNetWires$Event;" ∈ ga_T) (hdg : decode cc pc = .ok (.getfield idx, 3))
    (kk : W p l e R s m args below meth c H locs cells slots Q (F0 m (pc + 3) ls (.ref (xa_a k 4) :: rest))) : W p l e R s m args below meth c H locs cells slots Q (F0 m pc ls (.ref (xa_a k 3) :: rest)) :=
  ga_get hC hw cl_Agenda 3 rfl 0 (by decide) hl rfl hdg kk
theorem xg_Agenda_size (hC : CallFix p m c cc nL s args ga_T own) (hw : ga_w (xa_K k) (xa_W k x) A s H locs) {v : Int32} (hl : Cond.fieldLink own idx "NetWires$Agenda" "size" "I" ∈ ga_T) (hdg : decode cc pc = .ok (.getfield idx, 3)) (hv : x.1 7 = v)
    (kk : W p l e R s m args below meth c H locs cells slots Q (F0 m (pc + 3) ls (.int v :: rest))) : W p l e R s m args below meth c H locs cells slots Q (F0 m pc ls (.ref (xa_a k 3) :: rest)) :=
  ga_get hC hw cl_Agenda 3 rfl 1 (by decide) hl (by rw [← hv]; rfl) hdg kk
theorem xp_Agenda_size (hC : CallFix p m c cc nL s args ga_T own) (hw : ga_w (xa_K k) (xa_W k x) A s H locs) {v : Int32} (hl : Cond.fieldLink own idx "NetWires$Agenda" "size" "I" ∈ ga_T) (hdg : decode cc pc = .ok (.putfield idx, 3))
    (kk : ∀ (H1 : Heap) (locs1 : List Loc), ga_w (xa_K k) (xa_W k (xa_sI x 7 v)) A s H1 locs1 → W p l e R s m args below meth c H1 locs1 cells slots Q (F0 m (pc + 3) ls rest)) : W p l e R s m args below meth c H locs cells slots Q (F0 m pc ls (.int v :: .ref (xa_a k 3) :: rest)) :=
  ga_put (ty := .int) hC hw cl_Agenda 3 rfl 1 (by decide) hl rfl (by decide +kernel) rfl rfl (Nat.le_of_ble_eq_true rfl) hdg (fun H1 locs1 h => kk H1 locs1 h)
theorem xg_Agenda_messages (hC : CallFix p m c cc nL s args ga_T own) (hw : ga_w (xa_K k) (xa_W k x) A s H locs) {v : Int32} (hl : Cond.fieldLink own idx "NetWires$Agenda" "messages" "I" ∈ ga_T) (hdg : decode cc pc = .ok (.getfield idx, 3)) (hv : x.1 8 = v)
    (kk : W p l e R s m args below meth c H locs cells slots Q (F0 m (pc + 3) ls (.int v :: rest))) : W p l e R s m args below meth c H locs cells slots Q (F0 m pc ls (.ref (xa_a k 3) :: rest)) :=
  ga_get hC hw cl_Agenda 3 rfl 2 (by decide) hl (by rw [← hv]; rfl) hdg kk
theorem xp_Agenda_messages (hC : CallFix p m c cc nL s args ga_T own) (hw : ga_w (xa_K k) (xa_W k x) A s H locs) {v : Int32} (hl : Cond.fieldLink own idx "NetWires$Agenda" "messages" "I" ∈ ga_T) (hdg : decode cc pc = .ok (.putfield idx, 3))
    (kk : ∀ (H1 : Heap) (locs1 : List Loc), ga_w (xa_K k) (xa_W k (xa_sI x 8 v)) A s H1 locs1 → W p l e R s m args below meth c H1 locs1 cells slots Q (F0 m (pc + 3) ls rest)) : W p l e R s m args below meth c H locs cells slots Q (F0 m pc ls (.int v :: .ref (xa_a k 3) :: rest)) :=
  ga_put (ty := .int) hC hw cl_Agenda 3 rfl 2 (by decide) hl rfl (by decide +kernel) rfl rfl (Nat.le_of_ble_eq_true rfl) hdg (fun H1 locs1 h => kk H1 locs1 h)
theorem xg_History_facts (hC : CallFix p m c cc nL s args ga_T own) (hw : ga_w (xa_K k) (xa_W k x) A s H locs) (hl : Cond.fieldLink own idx "NetWires$History" "facts" "[I" ∈ ga_T) (hdg : decode cc pc = .ok (.getfield idx, 3))
    (kk : W p l e R s m args below meth c H locs cells slots Q (F0 m (pc + 3) ls (.ref (xa_a k 6) :: rest))) : W p l e R s m args below meth c H locs cells slots Q (F0 m pc ls (.ref (xa_a k 5) :: rest)) :=
  ga_get hC hw cl_History 5 rfl 0 (by decide) hl rfl hdg kk
theorem xg_History_newest (hC : CallFix p m c cc nL s args ga_T own) (hw : ga_w (xa_K k) (xa_W k x) A s H locs) {v : Int32} (hl : Cond.fieldLink own idx "NetWires$History" "newest" "I" ∈ ga_T) (hdg : decode cc pc = .ok (.getfield idx, 3)) (hv : x.1 9 = v)
    (kk : W p l e R s m args below meth c H locs cells slots Q (F0 m (pc + 3) ls (.int v :: rest))) : W p l e R s m args below meth c H locs cells slots Q (F0 m pc ls (.ref (xa_a k 5) :: rest)) :=
  ga_get hC hw cl_History 5 rfl 1 (by decide) hl (by rw [← hv]; rfl) hdg kk
theorem xp_History_newest (hC : CallFix p m c cc nL s args ga_T own) (hw : ga_w (xa_K k) (xa_W k x) A s H locs) {v : Int32} (hl : Cond.fieldLink own idx "NetWires$History" "newest" "I" ∈ ga_T) (hdg : decode cc pc = .ok (.putfield idx, 3))
    (kk : ∀ (H1 : Heap) (locs1 : List Loc), ga_w (xa_K k) (xa_W k (xa_sI x 9 v)) A s H1 locs1 → W p l e R s m args below meth c H1 locs1 cells slots Q (F0 m (pc + 3) ls rest)) : W p l e R s m args below meth c H locs cells slots Q (F0 m pc ls (.int v :: .ref (xa_a k 5) :: rest)) :=
  ga_put (ty := .int) hC hw cl_History 5 rfl 1 (by decide) hl rfl (by decide +kernel) rfl rfl (Nat.le_of_ble_eq_true rfl) hdg (fun H1 locs1 h => kk H1 locs1 h)
theorem xg_History_kept (hC : CallFix p m c cc nL s args ga_T own) (hw : ga_w (xa_K k) (xa_W k x) A s H locs) {v : Int32} (hl : Cond.fieldLink own idx "NetWires$History" "kept" "I" ∈ ga_T) (hdg : decode cc pc = .ok (.getfield idx, 3)) (hv : x.1 10 = v)
    (kk : W p l e R s m args below meth c H locs cells slots Q (F0 m (pc + 3) ls (.int v :: rest))) : W p l e R s m args below meth c H locs cells slots Q (F0 m pc ls (.ref (xa_a k 5) :: rest)) :=
  ga_get hC hw cl_History 5 rfl 2 (by decide) hl (by rw [← hv]; rfl) hdg kk
theorem xp_History_kept (hC : CallFix p m c cc nL s args ga_T own) (hw : ga_w (xa_K k) (xa_W k x) A s H locs) {v : Int32} (hl : Cond.fieldLink own idx "NetWires$History" "kept" "I" ∈ ga_T) (hdg : decode cc pc = .ok (.putfield idx, 3))
    (kk : ∀ (H1 : Heap) (locs1 : List Loc), ga_w (xa_K k) (xa_W k (xa_sI x 10 v)) A s H1 locs1 → W p l e R s m args below meth c H1 locs1 cells slots Q (F0 m (pc + 3) ls rest)) : W p l e R s m args below meth c H locs cells slots Q (F0 m pc ls (.int v :: .ref (xa_a k 5) :: rest)) :=
  ga_put (ty := .int) hC hw cl_History 5 rfl 2 (by decide) hl rfl (by decide +kernel) rfl rfl (Nat.le_of_ble_eq_true rfl) hdg (fun H1 locs1 h => kk H1 locs1 h)
theorem xg_History_total (hC : CallFix p m c cc nL s args ga_T own) (hw : ga_w (xa_K k) (xa_W k x) A s H locs) {v : Int32} (hl : Cond.fieldLink own idx "NetWires$History" "total" "I" ∈ ga_T) (hdg : decode cc pc = .ok (.getfield idx, 3)) (hv : x.1 11 = v)
    (kk : W p l e R s m args below meth c H locs cells slots Q (F0 m (pc + 3) ls (.int v :: rest))) : W p l e R s m args below meth c H locs cells slots Q (F0 m pc ls (.ref (xa_a k 5) :: rest)) :=
  ga_get hC hw cl_History 5 rfl 3 (by decide) hl (by rw [← hv]; rfl) hdg kk
theorem xp_History_total (hC : CallFix p m c cc nL s args ga_T own) (hw : ga_w (xa_K k) (xa_W k x) A s H locs) {v : Int32} (hl : Cond.fieldLink own idx "NetWires$History" "total" "I" ∈ ga_T) (hdg : decode cc pc = .ok (.putfield idx, 3))
    (kk : ∀ (H1 : Heap) (locs1 : List Loc), ga_w (xa_K k) (xa_W k (xa_sI x 11 v)) A s H1 locs1 → W p l e R s m args below meth c H1 locs1 cells slots Q (F0 m (pc + 3) ls rest)) : W p l e R s m args below meth c H locs cells slots Q (F0 m pc ls (.int v :: .ref (xa_a k 5) :: rest)) :=
  ga_put (ty := .int) hC hw cl_History 5 rfl 3 (by decide) hl rfl (by decide +kernel) rfl rfl (Nat.le_of_ble_eq_true rfl) hdg (fun H1 locs1 h => kk H1 locs1 h)
theorem xg_Noise_loss (hC : CallFix p m c cc nL s args ga_T own) (hw : ga_w (xa_K k) (xa_W k x) A s H locs) {v : Int32} (hl : Cond.fieldLink own idx "NetWires$Noise" "loss" "I" ∈ ga_T) (hdg : decode cc pc = .ok (.getfield idx, 3)) (hv : x.1 12 = v)
    (kk : W p l e R s m args below meth c H locs cells slots Q (F0 m (pc + 3) ls (.int v :: rest))) : W p l e R s m args below meth c H locs cells slots Q (F0 m pc ls (.ref (xa_a k 7) :: rest)) :=
  ga_get hC hw cl_Noise 7 rfl 0 (by decide) hl (by rw [← hv]; rfl) hdg kk
theorem xp_Noise_loss (hC : CallFix p m c cc nL s args ga_T own) (hw : ga_w (xa_K k) (xa_W k x) A s H locs) {v : Int32} (hl : Cond.fieldLink own idx "NetWires$Noise" "loss" "I" ∈ ga_T) (hdg : decode cc pc = .ok (.putfield idx, 3))
    (kk : ∀ (H1 : Heap) (locs1 : List Loc), ga_w (xa_K k) (xa_W k (xa_sI x 12 v)) A s H1 locs1 → W p l e R s m args below meth c H1 locs1 cells slots Q (F0 m (pc + 3) ls rest)) : W p l e R s m args below meth c H locs cells slots Q (F0 m pc ls (.int v :: .ref (xa_a k 7) :: rest)) :=
  ga_put (ty := .int) hC hw cl_Noise 7 rfl 0 (by decide) hl rfl (by decide +kernel) rfl rfl (Nat.le_of_ble_eq_true rfl) hdg (fun H1 locs1 h => kk H1 locs1 h)
theorem xg_Noise_twice (hC : CallFix p m c cc nL s args ga_T own) (hw : ga_w (xa_K k) (xa_W k x) A s H locs) {v : Int32} (hl : Cond.fieldLink own idx "NetWires$Noise" "twice" "I" ∈ ga_T) (hdg : decode cc pc = .ok (.getfield idx, 3)) (hv : x.1 13 = v)
    (kk : W p l e R s m args below meth c H locs cells slots Q (F0 m (pc + 3) ls (.int v :: rest))) : W p l e R s m args below meth c H locs cells slots Q (F0 m pc ls (.ref (xa_a k 7) :: rest)) :=
  ga_get hC hw cl_Noise 7 rfl 1 (by decide) hl (by rw [← hv]; rfl) hdg kk
theorem xp_Noise_twice (hC : CallFix p m c cc nL s args ga_T own) (hw : ga_w (xa_K k) (xa_W k x) A s H locs) {v : Int32} (hl : Cond.fieldLink own idx "NetWires$Noise" "twice" "I" ∈ ga_T) (hdg : decode cc pc = .ok (.putfield idx, 3))
    (kk : ∀ (H1 : Heap) (locs1 : List Loc), ga_w (xa_K k) (xa_W k (xa_sI x 13 v)) A s H1 locs1 → W p l e R s m args below meth c H1 locs1 cells slots Q (F0 m (pc + 3) ls rest)) : W p l e R s m args below meth c H locs cells slots Q (F0 m pc ls (.int v :: .ref (xa_a k 7) :: rest)) :=
  ga_put (ty := .int) hC hw cl_Noise 7 rfl 1 (by decide) hl rfl (by decide +kernel) rfl rfl (Nat.le_of_ble_eq_true rfl) hdg (fun H1 locs1 h => kk H1 locs1 h)
theorem xg_Noise_spread (hC : CallFix p m c cc nL s args ga_T own) (hw : ga_w (xa_K k) (xa_W k x) A s H locs) {v : Int32} (hl : Cond.fieldLink own idx "NetWires$Noise" "spread" "I" ∈ ga_T) (hdg : decode cc pc = .ok (.getfield idx, 3)) (hv : x.1 14 = v)
    (kk : W p l e R s m args below meth c H locs cells slots Q (F0 m (pc + 3) ls (.int v :: rest))) : W p l e R s m args below meth c H locs cells slots Q (F0 m pc ls (.ref (xa_a k 7) :: rest)) :=
  ga_get hC hw cl_Noise 7 rfl 2 (by decide) hl (by rw [← hv]; rfl) hdg kk
theorem xp_Noise_spread (hC : CallFix p m c cc nL s args ga_T own) (hw : ga_w (xa_K k) (xa_W k x) A s H locs) {v : Int32} (hl : Cond.fieldLink own idx "NetWires$Noise" "spread" "I" ∈ ga_T) (hdg : decode cc pc = .ok (.putfield idx, 3))
    (kk : ∀ (H1 : Heap) (locs1 : List Loc), ga_w (xa_K k) (xa_W k (xa_sI x 14 v)) A s H1 locs1 → W p l e R s m args below meth c H1 locs1 cells slots Q (F0 m (pc + 3) ls rest)) : W p l e R s m args below meth c H locs cells slots Q (F0 m pc ls (.int v :: .ref (xa_a k 7) :: rest)) :=
  ga_put (ty := .int) hC hw cl_Noise 7 rfl 2 (by decide) hl rfl (by decide +kernel) rfl rfl (Nat.le_of_ble_eq_true rfl) hdg (fun H1 locs1 h => kk H1 locs1 h)
theorem xg_Noise_draw (hC : CallFix p m c cc nL s args ga_T own) (hw : ga_w (xa_K k) (xa_W k x) A s H locs) {v : Int64} (hl : Cond.fieldLink own idx "NetWires$Noise" "draw" "J" ∈ ga_T) (hdg : decode cc pc = .ok (.getfield idx, 3)) (hv : xa_D x = v)
    (kk : W p l e R s m args below meth c H locs cells slots Q (F0 m (pc + 3) ls (.long v :: rest))) : W p l e R s m args below meth c H locs cells slots Q (F0 m pc ls (.ref (xa_a k 7) :: rest)) :=
  ga_get hC hw cl_Noise 7 rfl 3 (by decide) hl (by rw [← hv]; rfl) hdg kk
theorem xp_Noise_draw (hC : CallFix p m c cc nL s args ga_T own) (hw : ga_w (xa_K k) (xa_W k x) A s H locs) {v : Int64} (hl : Cond.fieldLink own idx "NetWires$Noise" "draw" "J" ∈ ga_T) (hdg : decode cc pc = .ok (.putfield idx, 3))
    (kk : ∀ (H1 : Heap) (locs1 : List Loc), ga_w (xa_K k) (xa_W k (xa_sD x v)) A s H1 locs1 → W p l e R s m args below meth c H1 locs1 cells slots Q (F0 m (pc + 3) ls rest)) : W p l e R s m args below meth c H locs cells slots Q (F0 m pc ls (.long v :: .ref (xa_a k 7) :: rest)) :=
  ga_put (ty := .long) hC hw cl_Noise 7 rfl 3 (by decide) hl rfl (by decide +kernel) rfl rfl (Nat.le_of_ble_eq_true rfl) hdg (fun H1 locs1 h => kk H1 locs1 h)
theorem xe_kind (hC : CallFix p m c cc nL s args ga_T own) (hw : ga_w (xa_K k) (xa_W k x) A s H locs) {a b : Nat} {v : Nat → Int32} (hE : xa_isE (xa_P x) a v b) (hl : Cond.fieldLink own idx "NetWires$Event" "kind" "I" ∈ ga_T) (hdg : decode cc pc = .ok (.getfield idx, 3))
    (kk : W p l e R s m args below meth c H locs cells slots Q (F0 m (pc + 3) ls (.int (v 0) :: rest))) : W p l e R s m args below meth c H locs cells slots Q (F0 m pc ls (.ref a :: rest)) := by
  obtain ⟨q0, hq⟩ := va_pl_get (X := xa_C k x) (f := (xa_P x).2) hE.1
  rw [hE.2] at hq
  exact ga_get hC hw cl_Event q0 hq 0 (by decide) hl rfl hdg kk
theorem xe_endpoint (hC : CallFix p m c cc nL s args ga_T own) (hw : ga_w (xa_K k) (xa_W k x) A s H locs) {a b : Nat} {v : Nat → Int32} (hE : xa_isE (xa_P x) a v b) (hl : Cond.fieldLink own idx "NetWires$Event" "endpoint" "I" ∈ ga_T) (hdg : decode cc pc = .ok (.getfield idx, 3))
    (kk : W p l e R s m args below meth c H locs cells slots Q (F0 m (pc + 3) ls (.int (v 1) :: rest))) : W p l e R s m args below meth c H locs cells slots Q (F0 m pc ls (.ref a :: rest)) := by
  obtain ⟨q0, hq⟩ := va_pl_get (X := xa_C k x) (f := (xa_P x).2) hE.1
  rw [hE.2] at hq
  exact ga_get hC hw cl_Event q0 hq 1 (by decide) hl rfl hdg kk
theorem xe_from (hC : CallFix p m c cc nL s args ga_T own) (hw : ga_w (xa_K k) (xa_W k x) A s H locs) {a b : Nat} {v : Nat → Int32} (hE : xa_isE (xa_P x) a v b) (hl : Cond.fieldLink own idx "NetWires$Event" "from" "I" ∈ ga_T) (hdg : decode cc pc = .ok (.getfield idx, 3))
    (kk : W p l e R s m args below meth c H locs cells slots Q (F0 m (pc + 3) ls (.int (v 2) :: rest))) : W p l e R s m args below meth c H locs cells slots Q (F0 m pc ls (.ref a :: rest)) := by
  obtain ⟨q0, hq⟩ := va_pl_get (X := xa_C k x) (f := (xa_P x).2) hE.1
  rw [hE.2] at hq
  exact ga_get hC hw cl_Event q0 hq 2 (by decide) hl rfl hdg kk
theorem xe_time (hC : CallFix p m c cc nL s args ga_T own) (hw : ga_w (xa_K k) (xa_W k x) A s H locs) {a b : Nat} {v : Nat → Int32} (hE : xa_isE (xa_P x) a v b) (hl : Cond.fieldLink own idx "NetWires$Event" "time" "I" ∈ ga_T) (hdg : decode cc pc = .ok (.getfield idx, 3))
    (kk : W p l e R s m args below meth c H locs cells slots Q (F0 m (pc + 3) ls (.int (v 3) :: rest))) : W p l e R s m args below meth c H locs cells slots Q (F0 m pc ls (.ref a :: rest)) := by
  obtain ⟨q0, hq⟩ := va_pl_get (X := xa_C k x) (f := (xa_P x).2) hE.1
  rw [hE.2] at hq
  exact ga_get hC hw cl_Event q0 hq 3 (by decide) hl rfl hdg kk
theorem xe_number (hC : CallFix p m c cc nL s args ga_T own) (hw : ga_w (xa_K k) (xa_W k x) A s H locs) {a b : Nat} {v : Nat → Int32} (hE : xa_isE (xa_P x) a v b) (hl : Cond.fieldLink own idx "NetWires$Event" "number" "I" ∈ ga_T) (hdg : decode cc pc = .ok (.getfield idx, 3))
    (kk : W p l e R s m args below meth c H locs cells slots Q (F0 m (pc + 3) ls (.int (v 4) :: rest))) : W p l e R s m args below meth c H locs cells slots Q (F0 m pc ls (.ref a :: rest)) := by
  obtain ⟨q0, hq⟩ := va_pl_get (X := xa_C k x) (f := (xa_P x).2) hE.1
  rw [hE.2] at hq
  exact ga_get hC hw cl_Event q0 hq 4 (by decide) hl rfl hdg kk
theorem xe_bytes (hC : CallFix p m c cc nL s args ga_T own) (hw : ga_w (xa_K k) (xa_W k x) A s H locs) {a b : Nat} {v : Nat → Int32} (hE : xa_isE (xa_P x) a v b) (hl : Cond.fieldLink own idx "NetWires$Event" "bytes" "[B" ∈ ga_T) (hdg : decode cc pc = .ok (.getfield idx, 3))
    (kk : W p l e R s m args below meth c H locs cells slots Q (F0 m (pc + 3) ls (.ref b :: rest))) : W p l e R s m args below meth c H locs cells slots Q (F0 m pc ls (.ref a :: rest)) := by
  obtain ⟨q0, hq⟩ := va_pl_get (X := xa_C k x) (f := (xa_P x).2) hE.1
  rw [hE.2] at hq
  exact ga_get hC hw cl_Event q0 hq 5 (by decide) hl rfl hdg kk
theorem xr_tape (hC : CallFix p m c cc nL s args ga_T own) (hw : ga_w (xa_K k) (xa_W k x) A s H locs) {i v : Int32} (hin : vp_in i 2048) (hdg : decode cc pc = .ok (.bastore, 1))
    (kk : ∀ (H1 : Heap) (locs1 : List Loc), ga_w (xa_K k) (xa_W k (xa_sT x (upd (xa_T x) i.toNatClampNeg (vp_nar .byte v)))) A s H1 locs1 → W p l e R s m args below meth c H1 locs1 cells slots Q (F0 m (pc + 1) ls rest)) : W p l e R s m args below meth c H locs cells slots Q (F0 m pc ls (.int v :: .int i :: .ref (xa_a k 2) :: rest)) :=
  ga_bast hC hw 2 0 rfl rfl hin hdg (fun H1 locs1 h => kk H1 locs1 h)
theorem xr_facts (hC : CallFix p m c cc nL s args ga_T own) (hw : ga_w (xa_K k) (xa_W k x) A s H locs) {i v : Int32} (hin : vp_in i 128) (hdg : decode cc pc = .ok (.iaload, 1)) (hv : xa_F x i.toNatClampNeg = v)
    (kk : W p l e R s m args below meth c H locs cells slots Q (F0 m (pc + 1) ls (.int v :: rest))) : W p l e R s m args below meth c H locs cells slots Q (F0 m pc ls (.int i :: .ref (xa_a k 6) :: rest)) :=
  ga_iald hC hw 6 1 rfl rfl hin hdg (by rw [← hv] at kk; exact kk)
theorem xs_facts (hC : CallFix p m c cc nL s args ga_T own) (hw : ga_w (xa_K k) (xa_W k x) A s H locs) {i v : Int32} (hin : vp_in i 128) (hdg : decode cc pc = .ok (.iastore, 1))
    (kk : ∀ (H1 : Heap) (locs1 : List Loc), ga_w (xa_K k) (xa_W k (xa_sF x (upd (xa_F x) i.toNatClampNeg v))) A s H1 locs1 → W p l e R s m args below meth c H1 locs1 cells slots Q (F0 m (pc + 1) ls rest)) : W p l e R s m args below meth c H locs cells slots Q (F0 m pc ls (.int v :: .int i :: .ref (xa_a k 6) :: rest)) :=
  ga_iast hC hw 6 1 rfl rfl hin hdg (fun H1 locs1 h => kk H1 locs1 h)
theorem xr_delays (hC : CallFix p m c cc nL s args ga_T own) (hw : ga_w (xa_K k) (xa_W k x) A s H locs) {i v : Int32} (hin : vp_in i 256) (hdg : decode cc pc = .ok (.iaload, 1)) (hv : xa_L x i.toNatClampNeg = v)
    (kk : W p l e R s m args below meth c H locs cells slots Q (F0 m (pc + 1) ls (.int v :: rest))) : W p l e R s m args below meth c H locs cells slots Q (F0 m pc ls (.int i :: .ref (xa_a k 8) :: rest)) :=
  ga_iald hC hw 8 1 rfl rfl hin hdg (by rw [← hv] at kk; exact kk)
theorem xs_delays (hC : CallFix p m c cc nL s args ga_T own) (hw : ga_w (xa_K k) (xa_W k x) A s H locs) {i v : Int32} (hin : vp_in i 256) (hdg : decode cc pc = .ok (.iastore, 1))
    (kk : ∀ (H1 : Heap) (locs1 : List Loc), ga_w (xa_K k) (xa_W k (xa_sL x (upd (xa_L x) i.toNatClampNeg v))) A s H1 locs1 → W p l e R s m args below meth c H1 locs1 cells slots Q (F0 m (pc + 1) ls rest)) : W p l e R s m args below meth c H locs cells slots Q (F0 m pc ls (.int v :: .int i :: .ref (xa_a k 8) :: rest)) :=
  ga_iast hC hw 8 1 rfl rfl hin hdg (fun H1 locs1 h => kk H1 locs1 h)
theorem xr_events (hC : CallFix p m c cc nL s args ga_T own) (hw : ga_w (xa_K k) (xa_W k x) A s H locs) {i : Int32} {r : Option Nat} (hin : vp_in i 232) (hdg : decode cc pc = .ok (.aaload, 1)) (hv : xa_E x i.toNatClampNeg = r)
    (kk : W p l e R s m args below meth c H locs cells slots Q (F0 m (pc + 1) ls (va_rf r :: rest))) : W p l e R s m args below meth c H locs cells slots Q (F0 m pc ls (.int i :: .ref (xa_a k 4) :: rest)) :=
  ga_aald hC hw 4 2 rfl rfl hin hdg (by rw [← hv] at kk; exact kk)
theorem xs_events (hC : CallFix p m c cc nL s args ga_T own) (hw : ga_w (xa_K k) (xa_W k x) A s H locs) {i : Int32} {a b : Nat} {v : Nat → Int32} (hE : xa_isE (xa_P x) a v b) (hin : vp_in i 232) (hdg : decode cc pc = .ok (.aastore, 1))
    (kk : ∀ (H1 : Heap) (locs1 : List Loc), ga_w (xa_K k) (xa_W k (xa_sE x (va_up (xa_E x) i.toNatClampNeg (some a)))) A s H1 locs1 → W p l e R s m args below meth c H1 locs1 cells slots Q (F0 m (pc + 1) ls rest)) : W p l e R s m args below meth c H locs cells slots Q (F0 m pc ls (.ref a :: .int i :: .ref (xa_a k 4) :: rest)) := by
  obtain ⟨q0, hq⟩ := va_pl_get (X := xa_C k x) (f := (xa_P x).2) hE.1
  rw [hE.2] at hq
  exact ga_aast (r := (R_Event, F_Event, 6)) hC hw 4 2 q0 5 rfl rfl hq rfl hin hdg (fun H1 locs1 h => kk H1 locs1 h)
theorem xs_eventsN (hC : CallFix p m c cc nL s args ga_T own) (hw : ga_w (xa_K k) (xa_W k x) A s H locs) {i : Int32} (hin : vp_in i 232) (hdg : decode cc pc = .ok (.aastore, 1))
    (kk : ∀ (H1 : Heap) (locs1 : List Loc), ga_w (xa_K k) (xa_W k (xa_sE x (va_up (xa_E x) i.toNatClampNeg none))) A s H1 locs1 → W p l e R s m args below meth c H1 locs1 cells slots Q (F0 m (pc + 1) ls rest)) : W p l e R s m args below meth c H locs cells slots Q (F0 m pc ls (.null :: .int i :: .ref (xa_a k 4) :: rest)) :=
  ga_aastN hC hw 4 2 rfl rfl hin hdg (fun H1 locs1 h => kk H1 locs1 h)
/-- the length of a row of bytes -/
theorem xr_len (hC : CallFix p m c cc nL s args ga_T own) (hw : ga_w (xa_K k) (xa_W k x) A s H locs) {b n : Nat} {f : Nat → Int32} {v : Int32} (hB : xa_isB k (xa_P x) b n f) (hdg : decode cc pc = .ok (.arraylength, 1)) (hv : nI n = v)
    (kk : W p l e R s m args below meth c H locs cells slots Q (F0 m (pc + 1) ls (.int v :: rest))) : W p l e R s m args below meth c H locs cells slots Q (F0 m pc ls (.ref b :: rest)) := by
  rcases hB with ⟨h1, h2⟩ | ⟨rfl, rfl⟩
  · obtain ⟨q0, hq⟩ := va_pl_get (X := xa_C k x) (f := (xa_P x).2) h1
    rw [h2] at hq
    exact ga_alen hC hw q0 0 hq rfl hv hdg kk
  · exact va_tlen hC.1 hC.2.1 hw.2.2.2.2.2.1.2.1 hw.2.2.1 hv hdg kk
theorem xr_byte (hC : CallFix p m c cc nL s args ga_T own) (hw : ga_w (xa_K k) (xa_W k x) A s H locs) {b n : Nat} {f : Nat → Int32} {i v : Int32} (hB : xa_isB k (xa_P x) b n f) (hin : vp_in i n) (hdg : decode cc pc = .ok (.baload, 1)) (hv : f i.toNatClampNeg = v)
    (kk : W p l e R s m args below meth c H locs cells slots Q (F0 m (pc + 1) ls (.int v :: rest))) : W p l e R s m args below meth c H locs cells slots Q (F0 m pc ls (.int i :: .ref b :: rest)) := by
  rcases hB with ⟨h1, h2⟩ | ⟨rfl, rfl⟩
  · obtain ⟨q0, hq⟩ := va_pl_get (X := xa_C k x) (f := (xa_P x).2) h1
    rw [h2] at hq
    exact ga_bald hC hw q0 0 hq rfl hin hdg (by rw [← hv] at kk; exact kk)
  · exact absurd (vp_in_iff.mp hin) (by omega)
/-- NO_BYTES -/
theorem xg_NO_BYTES (hC : CallFix p m c cc nL s args ga_T own) (hw : ga_w (xa_K k) (xa_W k x) A s H locs) (hl : Cond.fieldLink own idx "NetWires" "NO_BYTES" "[B" ∈ ga_T) (hdg : decode cc pc = .ok (.getstatic idx, 3))
    (kk : W p l e R s m args below meth c H locs cells slots Q (F0 m (pc + 3) ls (.ref (xa_a k 9) :: rest))) : W p l e R s m args below meth c H locs cells slots Q (F0 m pc ls rest) :=
  va_gets hC.1 hC.2.1 hw.2.2.2.2.2.1.1 hw.2.2.1 hC.2.2.2.1 (hC.2.2.2.2 _ hl) (fun _ h => h) hdg kk
theorem xg_NO_BYTES_N (hC : CallFix p m c cc nL s args ga_T "NetWires$Tape") (hw : ga_w (xa_K k) (xa_W k x) A s H locs) (hdg : decode cc pc = .ok (.getstatic 23, 3))
    (kk : W p l e R s m args below meth c H locs cells slots Q (F0 m (pc + 3) ls (.ref (xa_a k 9) :: rest))) : W p l e R s m args below meth c H locs cells slots Q (F0 m pc ls rest) :=
  va_getsN hC.1 hC.2.1 hw.2.2.2.2.2.1.1 hw.2.2.1 hC.2.2.2.1 ((hw.2.2.2.2.2.1.2.2.2.2.1 (.fieldLinkNest "NetWires$Tape" 23 "NetWires" "NO_BYTES" "[B" "NetWires") (by decide +kernel)).use rfl) (fun _ h => h) hdg kk
end XW
