/-! the words that every method stands on: the good ones of the tables -/
def ga_T : List Cond := lw_tbl.filter goodWord
theorem ga_Tgood : ∀ w ∈ ga_T, (w.onTables && w.keeps) = true ∨ ∃ ty, w = .arrayClass ty := fun w h => good_of_word (List.mem_filter.mp h).2
theorem ga_tb {w : Cond} {i : Nat} (h : tables_1[i]? = some w) (g : goodWord w = true) : w ∈ ga_T := List.mem_filter.mpr ⟨List.mem_append_right _ (List.mem_of_getElem? h), g⟩
theorem ga_sl {w : Cond} {i : Nat} (h : (k2_sels lw_privs)[i]? = some w) (g : goodWord w = true) : w ∈ ga_T := List.mem_filter.mpr ⟨List.mem_append_left _ (List.mem_of_getElem? h), g⟩
def R_NetWires : String := "NetWires"
def F_NetWires : u_T := fun k => match k with
  | 0 => ("NetWires", "tape", "LNetWires$Tape;", true)
  | 1 => ("NetWires", "agenda", "LNetWires$Agenda;", true)
  | 2 => ("NetWires", "history", "LNetWires$History;", true)
  | 3 => ("NetWires", "disturbance", "LNetWires$Noise;", true)
  | 4 => ("NetWires", "delays", "[I", true)
  | 5 => ("NetWires", "now", "I", false)
  | 6 => ("NetWires", "nextNumber", "I", false)
  | 7 => ("NetWires", "partedSet", "I", false)
  | 8 => ("NetWires", "downSet", "I", false)
  | 9 => ("NetWires", "everOnWay", "I", false)
  | 10 => ("NetWires", "lost", "I", false)
  | _ => ("NetWires", "arrivedBytes", "[B", false)
def t_NetWires : Nat → FieldType := fun k => match k with
  | 0 => .object "NetWires$Tape"
  | 1 => .object "NetWires$Agenda"
  | 2 => .object "NetWires$History"
  | 3 => .object "NetWires$Noise"
  | 4 => .array .int
  | 5 => .int
  | 6 => .int
  | 7 => .int
  | 8 => .int
  | 9 => .int
  | 10 => .int
  | _ => .array .byte
theorem n_NetWires : ∀ a, a < 12 → ∀ b, b < 12 → a ≠ b → (F_NetWires a).2.1 ≠ (F_NetWires b).2.1 := by decide +kernel
theorem t_NetWires_ok : ∀ k, k < 12 → parseFieldDescriptor (F_NetWires k).2.2.1 = some (t_NetWires k) := by decide +kernel
theorem i_NetWires : ∀ w ∈ u_ws R_NetWires F_NetWires 12, w ∈ ga_T := by
  intro w hw
  have h : u_ws R_NetWires F_NetWires 12 = [119, 121, 123, 125, 127, 129, 131, 133, 135, 137, 139, 141].filterMap (fun i => tables_1[i]?) := by decide +kernel
  have g : (u_ws R_NetWires F_NetWires 12).all goodWord = true := by decide +kernel
  have h2 := hw
  rw [h] at h2
  obtain ⟨i, -, hi⟩ := List.mem_filterMap.mp h2
  exact ga_tb hi (List.all_eq_true.mp g w hw)
def R_Tape : String := "NetWires$Tape"
def F_Tape : u_T := fun k => match k with
  | 0 => ("NetWires$Tape", "bytes", "[B", true)
  | _ => ("NetWires$Tape", "length", "I", false)
def t_Tape : Nat → FieldType := fun k => match k with
  | 0 => .array .byte
  | _ => .int
theorem n_Tape : ∀ a, a < 2 → ∀ b, b < 2 → a ≠ b → (F_Tape a).2.1 ≠ (F_Tape b).2.1 := by decide +kernel
theorem t_Tape_ok : ∀ k, k < 2 → parseFieldDescriptor (F_Tape k).2.2.1 = some (t_Tape k) := by decide +kernel
theorem i_Tape : ∀ w ∈ u_ws R_Tape F_Tape 2, w ∈ ga_T := by
  intro w hw
  have h : u_ws R_Tape F_Tape 2 = [34, 36].filterMap (fun i => tables_1[i]?) := by decide +kernel
  have g : (u_ws R_Tape F_Tape 2).all goodWord = true := by decide +kernel
  have h2 := hw
  rw [h] at h2
  obtain ⟨i, -, hi⟩ := List.mem_filterMap.mp h2
  exact ga_tb hi (List.all_eq_true.mp g w hw)
def R_Agenda : String := "NetWires$Agenda"
def F_Agenda : u_T := fun k => match k with
  | 0 => ("NetWires$Agenda", "events", "[LNetWires$Event;", true)
  | 1 => ("NetWires$Agenda", "size", "I", false)
  | _ => ("NetWires$Agenda", "messages", "I", false)
def t_Agenda : Nat → FieldType := fun k => match k with
  | 0 => .array (.object "NetWires$Event")
  | 1 => .int
  | _ => .int
theorem n_Agenda : ∀ a, a < 3 → ∀ b, b < 3 → a ≠ b → (F_Agenda a).2.1 ≠ (F_Agenda b).2.1 := by decide +kernel
theorem t_Agenda_ok : ∀ k, k < 3 → parseFieldDescriptor (F_Agenda k).2.2.1 = some (t_Agenda k) := by decide +kernel
theorem i_Agenda : ∀ w ∈ u_ws R_Agenda F_Agenda 3, w ∈ ga_T := by
  intro w hw
  have h : u_ws R_Agenda F_Agenda 3 = [52, 54, 56].filterMap (fun i => tables_1[i]?) := by decide +kernel
  have g : (u_ws R_Agenda F_Agenda 3).all goodWord = true := by decide +kernel
  have h2 := hw
  rw [h] at h2
  obtain ⟨i, -, hi⟩ := List.mem_filterMap.mp h2
  exact ga_tb hi (List.all_eq_true.mp g w hw)
def R_History : String := "NetWires$History"
def F_History : u_T := fun k => match k with
  | 0 => ("NetWires$History", "facts", "[I", true)
  | 1 => ("NetWires$History", "newest", "I", false)
  | 2 => ("NetWires$History", "kept", "I", false)
  | _ => ("NetWires$History", "total", "I", false)
def t_History : Nat → FieldType := fun k => match k with
  | 0 => .array .int
  | 1 => .int
  | 2 => .int
  | _ => .int
theorem n_History : ∀ a, a < 4 → ∀ b, b < 4 → a ≠ b → (F_History a).2.1 ≠ (F_History b).2.1 := by decide +kernel
theorem t_History_ok : ∀ k, k < 4 → parseFieldDescriptor (F_History k).2.2.1 = some (t_History k) := by decide +kernel
theorem i_History : ∀ w ∈ u_ws R_History F_History 4, w ∈ ga_T := by
  intro w hw
  have h : u_ws R_History F_History 4 = [70, 72, 74, 76].filterMap (fun i => tables_1[i]?) := by decide +kernel
  have g : (u_ws R_History F_History 4).all goodWord = true := by decide +kernel
  have h2 := hw
  rw [h] at h2
  obtain ⟨i, -, hi⟩ := List.mem_filterMap.mp h2
  exact ga_tb hi (List.all_eq_true.mp g w hw)
def R_Noise : String := "NetWires$Noise"
def F_Noise : u_T := fun k => match k with
  | 0 => ("NetWires$Noise", "loss", "I", false)
  | 1 => ("NetWires$Noise", "twice", "I", false)
  | 2 => ("NetWires$Noise", "spread", "I", false)
  | _ => ("NetWires$Noise", "draw", "J", false)
def t_Noise : Nat → FieldType := fun k => match k with
  | 0 => .int
  | 1 => .int
  | 2 => .int
  | _ => .long
theorem n_Noise : ∀ a, a < 4 → ∀ b, b < 4 → a ≠ b → (F_Noise a).2.1 ≠ (F_Noise b).2.1 := by decide +kernel
theorem t_Noise_ok : ∀ k, k < 4 → parseFieldDescriptor (F_Noise k).2.2.1 = some (t_Noise k) := by decide +kernel
theorem i_Noise : ∀ w ∈ u_ws R_Noise F_Noise 4, w ∈ ga_T := by
  intro w hw
  have h : u_ws R_Noise F_Noise 4 = [93, 95, 97, 99].filterMap (fun i => tables_1[i]?) := by decide +kernel
  have g : (u_ws R_Noise F_Noise 4).all goodWord = true := by decide +kernel
  have h2 := hw
  rw [h] at h2
  obtain ⟨i, -, hi⟩ := List.mem_filterMap.mp h2
  exact ga_tb hi (List.all_eq_true.mp g w hw)
def R_Event : String := "NetWires$Event"
def F_Event : u_T := fun k => match k with
  | 0 => ("NetWires$Event", "kind", "I", true)
  | 1 => ("NetWires$Event", "endpoint", "I", true)
  | 2 => ("NetWires$Event", "from", "I", true)
  | 3 => ("NetWires$Event", "time", "I", true)
  | 4 => ("NetWires$Event", "number", "I", true)
  | _ => ("NetWires$Event", "bytes", "[B", true)
def t_Event : Nat → FieldType := fun k => match k with
  | 0 => .int
  | 1 => .int
  | 2 => .int
  | 3 => .int
  | 4 => .int
  | _ => .array .byte
theorem n_Event : ∀ a, a < 6 → ∀ b, b < 6 → a ≠ b → (F_Event a).2.1 ≠ (F_Event b).2.1 := by decide +kernel
theorem t_Event_ok : ∀ k, k < 6 → parseFieldDescriptor (F_Event k).2.2.1 = some (t_Event k) := by decide +kernel
theorem i_Event : ∀ w ∈ u_ws R_Event F_Event 6, w ∈ ga_T := by
  intro w hw
  have h : u_ws R_Event F_Event 6 = [401, 403, 405, 407, 409, 411].filterMap (fun i => tables_1[i]?) := by decide +kernel
  have g : (u_ws R_Event F_Event 6).all goodWord = true := by decide +kernel
  have h2 := hw
  rw [h] at h2
  obtain ⟨i, -, hi⟩ := List.mem_filterMap.mp h2
  exact ga_tb hi (List.all_eq_true.mp g w hw)
def R_M : String := "NetWiresModel"
def F_M : u_T := fun k => match k with
  | 0 => ("NetWiresModel", "thrown", "I", false)
  | 1 => ("NetWiresModel", "now", "I", false)
  | 2 => ("NetWiresModel", "made", "I", false)
  | 3 => ("NetWiresModel", "times", "[I", true)
  | 4 => ("NetWiresModel", "sorts", "[I", true)
  | 5 => ("NetWiresModel", "whose", "[I", true)
  | 6 => ("NetWiresModel", "froms", "[I", true)
  | 7 => ("NetWiresModel", "begins", "[I", true)
  | 8 => ("NetWiresModel", "sizes", "[I", true)
  | 9 => ("NetWiresModel", "there", "[Z", true)
  | 10 => ("NetWiresModel", "used", "I", false)
  | 11 => ("NetWiresModel", "said", "[I", true)
  | 12 => ("NetWiresModel", "tape", "I", false)
  | 13 => ("NetWiresModel", "fed", "[I", true)
  | 14 => ("NetWiresModel", "delays", "[I", true)
  | 15 => ("NetWiresModel", "parted", "I", false)
  | 16 => ("NetWiresModel", "down", "I", false)
  | 17 => ("NetWiresModel", "loss", "I", false)
  | 18 => ("NetWiresModel", "twice", "I", false)
  | 19 => ("NetWiresModel", "spread", "I", false)
  | 20 => ("NetWiresModel", "draw", "J", false)
  | 21 => ("NetWiresModel", "onTheWay", "I", false)
  | 22 => ("NetWiresModel", "sent", "I", false)
  | 23 => ("NetWiresModel", "lost", "I", false)
  | 24 => ("NetWiresModel", "done", "I", false)
  | 25 => ("NetWiresModel", "codes", "[I", true)
  | 26 => ("NetWiresModel", "order", "[I", true)
  | _ => ("NetWiresModel", "arrived", "I", false)
def t_M : Nat → FieldType := fun k => match k with
  | 0 => .int
  | 1 => .int
  | 2 => .int
  | 3 => .array .int
  | 4 => .array .int
  | 5 => .array .int
  | 6 => .array .int
  | 7 => .array .int
  | 8 => .array .int
  | 9 => .array .boolean
  | 10 => .int
  | 11 => .array .int
  | 12 => .int
  | 13 => .array .int
  | 14 => .array .int
  | 15 => .int
  | 16 => .int
  | 17 => .int
  | 18 => .int
  | 19 => .int
  | 20 => .long
  | 21 => .int
  | 22 => .int
  | 23 => .int
  | 24 => .int
  | 25 => .array .int
  | 26 => .array .int
  | _ => .int
theorem n_M : ∀ a, a < 28 → ∀ b, b < 28 → a ≠ b → (F_M a).2.1 ≠ (F_M b).2.1 := by decide +kernel
theorem t_M_ok : ∀ k, k < 28 → parseFieldDescriptor (F_M k).2.2.1 = some (t_M k) := by decide +kernel
theorem i_M : ∀ w ∈ u_ws R_M F_M 28, w ∈ ga_T := by
  intro w hw
  have h : u_ws R_M F_M 28 = [582, 584, 586, 588, 590, 592, 594, 596, 598, 600, 602, 604, 606, 608, 610, 612, 614, 616, 618, 620, 622, 624, 626, 628, 630, 632, 634, 636].filterMap (fun i => tables_1[i]?) := by decide +kernel
  have g : (u_ws R_M F_M 28).all goodWord = true := by decide +kernel
  have h2 := hw
  rw [h] at h2
  obtain ⟨i, -, hi⟩ := List.mem_filterMap.mp h2
  exact ga_tb hi (List.all_eq_true.mp g w hw)
abbrev classes : List vw_C := [(R_NetWires, F_NetWires, 12), (R_Tape, F_Tape, 2), (R_Agenda, F_Agenda, 3), (R_History, F_History, 4), (R_Noise, F_Noise, 4), (R_Event, F_Event, 6), (R_M, F_M, 28)]
/-- a class of the list: its words, its fields' types, their names apart -/
def ga_Cl (ci : Nat) (C : String) (T : u_T) (N : Nat) : Prop :=
  classes[ci]? = some (C, T, N) ∧ (∀ w ∈ u_ws C T N, w ∈ ga_T) ∧ (∃ ty : Nat → FieldType, ∀ k, k < N → parseFieldDescriptor (T k).2.2.1 = some (ty k)) ∧ (∀ a, a < N → ∀ b, b < N → a ≠ b → (T a).2.1 ≠ (T b).2.1)
theorem cl_NetWires : ga_Cl 0 "NetWires" F_NetWires 12 := ⟨rfl, i_NetWires, ⟨t_NetWires, t_NetWires_ok⟩, n_NetWires⟩
theorem cl_Tape : ga_Cl 1 "NetWires$Tape" F_Tape 2 := ⟨rfl, i_Tape, ⟨t_Tape, t_Tape_ok⟩, n_Tape⟩
theorem cl_Agenda : ga_Cl 2 "NetWires$Agenda" F_Agenda 3 := ⟨rfl, i_Agenda, ⟨t_Agenda, t_Agenda_ok⟩, n_Agenda⟩
theorem cl_History : ga_Cl 3 "NetWires$History" F_History 4 := ⟨rfl, i_History, ⟨t_History, t_History_ok⟩, n_History⟩
theorem cl_Noise : ga_Cl 4 "NetWires$Noise" F_Noise 4 := ⟨rfl, i_Noise, ⟨t_Noise, t_Noise_ok⟩, n_Noise⟩
theorem cl_Event : ga_Cl 5 "NetWires$Event" F_Event 6 := ⟨rfl, i_Event, ⟨t_Event, t_Event_ok⟩, n_Event⟩
theorem cl_M : ga_Cl 6 "NetWiresModel" F_M 28 := ⟨rfl, i_M, ⟨t_M, t_M_ok⟩, n_M⟩
/-- what the calls of a method need of it -/
def ga_M (y : MethodName) (bytes : ByteArray) (maxL : Nat) (ret : Option FieldType) (n : Nat) : Prop :=
  (Cond.instanceMethod y ∈ ga_T ∧ Cond.selects y.cls y y ∈ ga_T ∧ Cond.initialized y.cls ∈ ga_T ∧ Cond.code y bytes maxL ret ∈ ga_T) ∧ (y.cls ≠ "java/lang/invoke/MethodHandle" ∧ y.cls ≠ "java/lang/invoke/VarHandle" ∧ (parseMethodDescriptor y.desc).map (fun d => d.parameters.length) = some n)
def ga_Ms (y : MethodName) (bytes : ByteArray) (maxL : Nat) (ret : Option FieldType) (n : Nat) : Prop :=
  (Cond.static y ∈ ga_T ∧ Cond.initialized y.cls ∈ ga_T ∧ Cond.code y bytes maxL ret ∈ ga_T) ∧ (y.cls ≠ "java/lang/invoke/MethodHandle" ∧ y.cls ≠ "java/lang/invoke/VarHandle" ∧ (parseMethodDescriptor y.desc).map (fun d => d.parameters.length) = some n)
def ga_Mi (y : MethodName) (bytes : ByteArray) (maxL n : Nat) : Prop :=
  (Cond.instanceMethod y ∈ ga_T ∧ Cond.initialized y.cls ∈ ga_T ∧ Cond.code y bytes maxL none ∈ ga_T ∧ y.name = "<init>") ∧ (y.cls ≠ "java/lang/invoke/MethodHandle" ∧ y.cls ≠ "java/lang/invoke/VarHandle" ∧ (parseMethodDescriptor y.desc).map (fun d => d.parameters.length) = some n)
def ga_Mw (y : MethodName) (bytes : ByteArray) (maxL : Nat) (ret : Option FieldType) (hh : List (Nat × Nat × Nat × Nat)) (n : Nat) : Prop :=
  (Cond.static y ∈ ga_T ∧ Cond.initialized y.cls ∈ ga_T ∧ Cond.codeWith y bytes maxL ret hh ∈ ga_T) ∧ (y.cls ≠ "java/lang/invoke/MethodHandle" ∧ y.cls ≠ "java/lang/invoke/VarHandle" ∧ (parseMethodDescriptor y.desc).map (fun d => d.parameters.length) = some n)
theorem in_objectInit : Cond.instanceMethod objectInit ∈ ga_T := ga_tb (i := 23) (by decide +kernel) rfl
theorem co_objectInit : Cond.code objectInit ⟨#[0xb1]⟩ 1 none ∈ ga_T := ga_tb (i := 24) rfl rfl
theorem ini_NetWires : Cond.initialized "NetWires" ∈ ga_T := ga_tb (i := 1) (by decide +kernel) rfl
theorem in_NetWires : Cond.instantiable "NetWires" 12 ∈ ga_T := ga_tb (i := 18) (by decide +kernel) rfl
theorem ini_Tape : Cond.initialized "NetWires$Tape" ∈ ga_T := ga_tb (i := 2) (by decide +kernel) rfl
theorem in_Tape : Cond.instantiable "NetWires$Tape" 2 ∈ ga_T := ga_tb (i := 26) (by decide +kernel) rfl
theorem ini_Agenda : Cond.initialized "NetWires$Agenda" ∈ ga_T := ga_tb (i := 3) (by decide +kernel) rfl
theorem in_Agenda : Cond.instantiable "NetWires$Agenda" 3 ∈ ga_T := ga_tb (i := 41) (by decide +kernel) rfl
theorem ini_History : Cond.initialized "NetWires$History" ∈ ga_T := ga_tb (i := 4) (by decide +kernel) rfl
theorem in_History : Cond.instantiable "NetWires$History" 4 ∈ ga_T := ga_tb (i := 60) (by decide +kernel) rfl
theorem ini_Noise : Cond.initialized "NetWires$Noise" ∈ ga_T := ga_tb (i := 5) (by decide +kernel) rfl
theorem in_Noise : Cond.instantiable "NetWires$Noise" 4 ∈ ga_T := ga_tb (i := 81) (by decide +kernel) rfl
theorem ini_Event : Cond.initialized "NetWires$Event" ∈ ga_T := ga_tb (i := 16) (by decide +kernel) rfl
theorem in_Event : Cond.instantiable "NetWires$Event" 6 ∈ ga_T := ga_tb (i := 374) (by decide +kernel) rfl
theorem ini_M : Cond.initialized "NetWiresModel" ∈ ga_T := ga_tb (i := 7) (by decide +kernel) rfl
theorem in_M : Cond.instantiable "NetWiresModel" 28 ∈ ga_T := ga_tb (i := 549) (by decide +kernel) rfl
