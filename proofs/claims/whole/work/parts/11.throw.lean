/-! throw new E("text") in NetWires: the words, and one row for each of the three classes -/
def ga_nm : List String := ["java/lang/RuntimeException", "java/lang/Exception"]
theorem th_IAE : ∀ w ∈ (vx_atS "NetWires" 77 ga_IAE ga_nm).filter goodWord, w ∈ ga_T := by
  intro w hw
  have h : (vx_atS "NetWires" 77 ga_IAE ga_nm).filter goodWord = [8, 227, 236, 240, 243, 245, 228, 229, 23, 24, 230, 235, 241, 261, 217, 262, 219, 263, 221, 231, 233, 223, 257, 258, 260, 223, 248, 249, 250, 251, 251, 252, 253, 254, 254, 255, 256, 257, 247, 206, 214, 215, 216, 218, 220, 222, 226, 225, 224].filterMap (fun i => tables_1[i]?) := by decide +kernel
  have g := (List.mem_filter.mp hw).2
  rw [h] at hw
  obtain ⟨i, -, hi⟩ := List.mem_filterMap.mp hw
  exact ga_tb hi g
theorem th2_IAE : ∀ w ∈ (vx_atS "NetWires" 77 ga_IAE ga_nm).filter (fun w => !goodWord w), w ∈ ga_N := by decide +kernel
theorem th3_IAE : (Cond.classLink "NetWires" 73 ga_IAE :: Cond.initialized ga_IAE :: vx_atS "NetWires" 77 ga_IAE ga_nm).all vx_ot = true := by decide +kernel
theorem th4_IAE : Cond.initialized ga_IAE ∈ ga_T := ga_tb (i := 11) (by decide +kernel) rfl
theorem ga_thIAE {p : Program} {l : Launch} {e : Env} {R : Room} {s : State} {m : MethodId} {args : Array Value} {below : List Frame} {meth : Method} {c : Code} {H : Heap} {locs : List Loc} {cells slots : Nat} {cc : ByteArray} {pc nL mc ms sz is : Nat} {ls : Array Slot} {rest : List Value} {D : va_G} {tys : List (ClassId × FieldType)} {nb : Nat} {S : Type} {wx : S → va_W} {ws0 : va_W} {u : S} {tx : String} {px : String → S → Prop} {Qc : Array Value → State → Outcome → State → Prop}
    (hst : l.stackTraces = false) (hC : CallFix p m c cc nL s args ga_T "NetWires") (hT : ∀ x ∈ c.exceptionTable.toList, False) (hlocks : meth.locks = false) (hw : ga_w (D, tys, ga_stat nb) (wx u) (va_A ws0 sz) s H locs) (hls : ls.size = nL) (hs9 : ("NetWires", is, tx) ∈ ga_S) (hp : px ga_IAE u)
    (d0 : decode cc pc = .ok (.new 73, 3)) (d3 : decode cc (pc + 3) = .ok (.dup, 1)) (d4 : decode cc (pc + 4) = .ok (.ldc is, 2)) (d6 : decode cc (pc + 6) = .ok (.invokespecial 77, 3)) (d9 : decode cc (pc + 9) = .ok (.athrow, 1))
    (hRf : 5 < R.frames) (hRl : (rest.map fun v => v.category).sum + 82 ≤ R.locals) (hRc : cells + 1 ≤ R.cells) (hRs : slots + 6 ≤ R.slots) (hc : cells + 1 ≤ mc) (hs : slots + 6 ≤ ms) :
    W p l e R s m args below meth c H locs cells slots (vx_MQ below Qc (ga_XC (D, tys, ga_stat nb) ws0 sz wx px) args s mc ms (va_A ws0 sz)) (F0 m pc ls rest) := by
  obtain ⟨hx, hb, hml, hown, hts⟩ := hC
  obtain ⟨hP, hD, hS, hK, hA, hSt, hg⟩ := hw
  have hSt : ga_stat nb (va_A ws0 sz) s s.heap := hSt
  obtain ⟨h1, h2, h3, h4, h5, h6, h7, h8⟩ := hSt
  obtain ⟨sa, hsa⟩ := h6 _ hs9
  refine vx_throwS (names := ga_nm) (A := va_A ws0 sz) hx hb hst hown (by decide +kernel) (by decide +kernel) (hts _ kl_NetWires_73) (hts _ th4_IAE) hsa (vx_hat (fun w h => hts w (th_IAE w h)) th2_IAE (fun w h => (h5 w h).use (ga_N_tab h))) (fun w h => List.all_eq_true.mp th3_IAE w h) h3 h4 hS (by rw [hml]; exact hls) d0 d3 d4 d6 d9 (fun x hx => absurd (hT x hx) id) hRf hRl hRc hRs hlocks ?_ hS.2.2 hc hs
  intro t _ hle hq
  refine ⟨u, trivial, ⟨hp, hP.kept (fun j q h => hq q.1 (hP j q h).lt), hD⟩, Nat.le_trans hS.1 hle, fun q h1 h2 => ?_⟩
  rw [hq q (Nat.lt_of_lt_of_le h1 hS.1)]
  exact hS.2.1 q h1 h2
theorem th_ISE : ∀ w ∈ (vx_atS "NetWires" 88 ga_ISE ga_nm).filter goodWord, w ∈ ga_T := by
  intro w hw
  have h : (vx_atS "NetWires" 88 ga_ISE ga_nm).filter goodWord = [8, 227, 236, 240, 243, 245, 228, 229, 23, 24, 230, 235, 241, 261, 217, 262, 219, 263, 221, 231, 233, 223, 257, 258, 260, 223, 287, 288, 289, 251, 251, 252, 253, 254, 254, 255, 256, 257, 286, 277, 279, 238, 280, 281, 282, 283, 226, 225, 284].filterMap (fun i => tables_1[i]?) := by decide +kernel
  have g := (List.mem_filter.mp hw).2
  rw [h] at hw
  obtain ⟨i, -, hi⟩ := List.mem_filterMap.mp hw
  exact ga_tb hi g
theorem th2_ISE : ∀ w ∈ (vx_atS "NetWires" 88 ga_ISE ga_nm).filter (fun w => !goodWord w), w ∈ ga_N := by decide +kernel
theorem th3_ISE : (Cond.classLink "NetWires" 84 ga_ISE :: Cond.initialized ga_ISE :: vx_atS "NetWires" 88 ga_ISE ga_nm).all vx_ot = true := by decide +kernel
theorem th4_ISE : Cond.initialized ga_ISE ∈ ga_T := ga_tb (i := 12) (by decide +kernel) rfl
theorem ga_thISE {p : Program} {l : Launch} {e : Env} {R : Room} {s : State} {m : MethodId} {args : Array Value} {below : List Frame} {meth : Method} {c : Code} {H : Heap} {locs : List Loc} {cells slots : Nat} {cc : ByteArray} {pc nL mc ms sz is : Nat} {ls : Array Slot} {rest : List Value} {D : va_G} {tys : List (ClassId × FieldType)} {nb : Nat} {S : Type} {wx : S → va_W} {ws0 : va_W} {u : S} {tx : String} {px : String → S → Prop} {Qc : Array Value → State → Outcome → State → Prop}
    (hst : l.stackTraces = false) (hC : CallFix p m c cc nL s args ga_T "NetWires") (hT : ∀ x ∈ c.exceptionTable.toList, False) (hlocks : meth.locks = false) (hw : ga_w (D, tys, ga_stat nb) (wx u) (va_A ws0 sz) s H locs) (hls : ls.size = nL) (hs9 : ("NetWires", is, tx) ∈ ga_S) (hp : px ga_ISE u)
    (d0 : decode cc pc = .ok (.new 84, 3)) (d3 : decode cc (pc + 3) = .ok (.dup, 1)) (d4 : decode cc (pc + 4) = .ok (.ldc is, 2)) (d6 : decode cc (pc + 6) = .ok (.invokespecial 88, 3)) (d9 : decode cc (pc + 9) = .ok (.athrow, 1))
    (hRf : 5 < R.frames) (hRl : (rest.map fun v => v.category).sum + 82 ≤ R.locals) (hRc : cells + 1 ≤ R.cells) (hRs : slots + 6 ≤ R.slots) (hc : cells + 1 ≤ mc) (hs : slots + 6 ≤ ms) :
    W p l e R s m args below meth c H locs cells slots (vx_MQ below Qc (ga_XC (D, tys, ga_stat nb) ws0 sz wx px) args s mc ms (va_A ws0 sz)) (F0 m pc ls rest) := by
  obtain ⟨hx, hb, hml, hown, hts⟩ := hC
  obtain ⟨hP, hD, hS, hK, hA, hSt, hg⟩ := hw
  have hSt : ga_stat nb (va_A ws0 sz) s s.heap := hSt
  obtain ⟨h1, h2, h3, h4, h5, h6, h7, h8⟩ := hSt
  obtain ⟨sa, hsa⟩ := h6 _ hs9
  refine vx_throwS (names := ga_nm) (A := va_A ws0 sz) hx hb hst hown (by decide +kernel) (by decide +kernel) (hts _ kl_NetWires_84) (hts _ th4_ISE) hsa (vx_hat (fun w h => hts w (th_ISE w h)) th2_ISE (fun w h => (h5 w h).use (ga_N_tab h))) (fun w h => List.all_eq_true.mp th3_ISE w h) h3 h4 hS (by rw [hml]; exact hls) d0 d3 d4 d6 d9 (fun x hx => absurd (hT x hx) id) hRf hRl hRc hRs hlocks ?_ hS.2.2 hc hs
  intro t _ hle hq
  refine ⟨u, trivial, ⟨hp, hP.kept (fun j q h => hq q.1 (hP j q h).lt), hD⟩, Nat.le_trans hS.1 hle, fun q h1 h2 => ?_⟩
  rw [hq q (Nat.lt_of_lt_of_le h1 hS.1)]
  exact hS.2.1 q h1 h2
theorem th_IOB : ∀ w ∈ (vx_atS "NetWires" 195 ga_IOB ga_nm).filter goodWord, w ∈ ga_T := by
  intro w hw
  have h : (vx_atS "NetWires" 195 ga_IOB ga_nm).filter goodWord = [8, 227, 236, 240, 243, 245, 228, 229, 23, 24, 230, 235, 241, 261, 217, 262, 219, 263, 221, 231, 233, 223, 257, 258, 260, 223, 343, 344, 345, 251, 251, 252, 253, 254, 254, 255, 256, 257, 342, 333, 335, 239, 336, 337, 338, 339, 226, 225, 340].filterMap (fun i => tables_1[i]?) := by decide +kernel
  have g := (List.mem_filter.mp hw).2
  rw [h] at hw
  obtain ⟨i, -, hi⟩ := List.mem_filterMap.mp hw
  exact ga_tb hi g
theorem th2_IOB : ∀ w ∈ (vx_atS "NetWires" 195 ga_IOB ga_nm).filter (fun w => !goodWord w), w ∈ ga_N := by decide +kernel
theorem th3_IOB : (Cond.classLink "NetWires" 191 ga_IOB :: Cond.initialized ga_IOB :: vx_atS "NetWires" 195 ga_IOB ga_nm).all vx_ot = true := by decide +kernel
theorem th4_IOB : Cond.initialized ga_IOB ∈ ga_T := ga_tb (i := 15) (by decide +kernel) rfl
theorem ga_thIOB {p : Program} {l : Launch} {e : Env} {R : Room} {s : State} {m : MethodId} {args : Array Value} {below : List Frame} {meth : Method} {c : Code} {H : Heap} {locs : List Loc} {cells slots : Nat} {cc : ByteArray} {pc nL mc ms sz is : Nat} {ls : Array Slot} {rest : List Value} {D : va_G} {tys : List (ClassId × FieldType)} {nb : Nat} {S : Type} {wx : S → va_W} {ws0 : va_W} {u : S} {tx : String} {px : String → S → Prop} {Qc : Array Value → State → Outcome → State → Prop}
    (hst : l.stackTraces = false) (hC : CallFix p m c cc nL s args ga_T "NetWires") (hT : ∀ x ∈ c.exceptionTable.toList, False) (hlocks : meth.locks = false) (hw : ga_w (D, tys, ga_stat nb) (wx u) (va_A ws0 sz) s H locs) (hls : ls.size = nL) (hs9 : ("NetWires", is, tx) ∈ ga_S) (hp : px ga_IOB u)
    (d0 : decode cc pc = .ok (.new 191, 3)) (d3 : decode cc (pc + 3) = .ok (.dup, 1)) (d4 : decode cc (pc + 4) = .ok (.ldc is, 2)) (d6 : decode cc (pc + 6) = .ok (.invokespecial 195, 3)) (d9 : decode cc (pc + 9) = .ok (.athrow, 1))
    (hRf : 5 < R.frames) (hRl : (rest.map fun v => v.category).sum + 82 ≤ R.locals) (hRc : cells + 1 ≤ R.cells) (hRs : slots + 6 ≤ R.slots) (hc : cells + 1 ≤ mc) (hs : slots + 6 ≤ ms) :
    W p l e R s m args below meth c H locs cells slots (vx_MQ below Qc (ga_XC (D, tys, ga_stat nb) ws0 sz wx px) args s mc ms (va_A ws0 sz)) (F0 m pc ls rest) := by
  obtain ⟨hx, hb, hml, hown, hts⟩ := hC
  obtain ⟨hP, hD, hS, hK, hA, hSt, hg⟩ := hw
  have hSt : ga_stat nb (va_A ws0 sz) s s.heap := hSt
  obtain ⟨h1, h2, h3, h4, h5, h6, h7, h8⟩ := hSt
  obtain ⟨sa, hsa⟩ := h6 _ hs9
  refine vx_throwS (names := ga_nm) (A := va_A ws0 sz) hx hb hst hown (by decide +kernel) (by decide +kernel) (hts _ kl_NetWires_191) (hts _ th4_IOB) hsa (vx_hat (fun w h => hts w (th_IOB w h)) th2_IOB (fun w h => (h5 w h).use (ga_N_tab h))) (fun w h => List.all_eq_true.mp th3_IOB w h) h3 h4 hS (by rw [hml]; exact hls) d0 d3 d4 d6 d9 (fun x hx => absurd (hT x hx) id) hRf hRl hRc hRs hlocks ?_ hS.2.2 hc hs
  intro t _ hle hq
  refine ⟨u, trivial, ⟨hp, hP.kept (fun j q h => hq q.1 (hP j q h).lt), hD⟩, Nat.le_trans hS.1 hle, fun q h1 h2 => ?_⟩
  rw [hq q (Nat.lt_of_lt_of_le h1 hS.1)]
  exact hS.2.1 q h1 h2
