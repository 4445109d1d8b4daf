abbrev b_NetWires_init : ByteArray := prog_1_method_1_code
def y_NetWires_init : MethodName := ⟨"NetWires", "<init>", "()V"⟩
set_option maxRecDepth 20000 in
theorem m_NetWires_init : ga_Mi y_NetWires_init b_NetWires_init 1 0 := ⟨⟨ga_tb (i := 20) (by decide +kernel) rfl, ga_tb (i := 1) (by decide +kernel) rfl, ga_tb (i := 21) rfl rfl, rfl⟩, ⟨by decide +kernel, by decide +kernel, by decide +kernel⟩⟩
abbrev b_Tape_init : ByteArray := prog_6_method_1_code
def y_Tape_init : MethodName := ⟨"NetWires$Tape", "<init>", "()V"⟩
set_option maxRecDepth 20000 in
theorem m_Tape_init : ga_Mi y_Tape_init b_Tape_init 1 0 := ⟨⟨ga_tb (i := 28) (by decide +kernel) rfl, ga_tb (i := 2) (by decide +kernel) rfl, ga_tb (i := 29) rfl rfl, rfl⟩, ⟨by decide +kernel, by decide +kernel, by decide +kernel⟩⟩
abbrev b_Agenda_init : ByteArray := prog_2_method_1_code
def y_Agenda_init : MethodName := ⟨"NetWires$Agenda", "<init>", "()V"⟩
set_option maxRecDepth 20000 in
theorem m_Agenda_init : ga_Mi y_Agenda_init b_Agenda_init 1 0 := ⟨⟨ga_tb (i := 43) (by decide +kernel) rfl, ga_tb (i := 3) (by decide +kernel) rfl, ga_tb (i := 44) rfl rfl, rfl⟩, ⟨by decide +kernel, by decide +kernel, by decide +kernel⟩⟩
abbrev b_History_init : ByteArray := prog_4_method_1_code
def y_History_init : MethodName := ⟨"NetWires$History", "<init>", "()V"⟩
set_option maxRecDepth 20000 in
theorem m_History_init : ga_Mi y_History_init b_History_init 1 0 := ⟨⟨ga_tb (i := 62) (by decide +kernel) rfl, ga_tb (i := 4) (by decide +kernel) rfl, ga_tb (i := 63) rfl rfl, rfl⟩, ⟨by decide +kernel, by decide +kernel, by decide +kernel⟩⟩
abbrev b_Noise_init : ByteArray := prog_5_method_1_code
def y_Noise_init : MethodName := ⟨"NetWires$Noise", "<init>", "()V"⟩
set_option maxRecDepth 20000 in
theorem m_Noise_init : ga_Mi y_Noise_init b_Noise_init 1 0 := ⟨⟨ga_tb (i := 83) (by decide +kernel) rfl, ga_tb (i := 5) (by decide +kernel) rfl, ga_tb (i := 84) rfl rfl, rfl⟩, ⟨by decide +kernel, by decide +kernel, by decide +kernel⟩⟩
abbrev b_J_fill : ByteArray := prog_19_method_103_code
def y_J_fill : MethodName := ⟨"java/util/Arrays", "fill", "([II)V"⟩
set_option maxRecDepth 20000 in
theorem m_J_fill : ga_Ms y_J_fill b_J_fill 4 none 2 := ⟨⟨ga_tb (i := 103) (by decide +kernel) rfl, ga_tb (i := 6) (by decide +kernel) rfl, ga_tb (i := 104) rfl rfl⟩, ⟨by decide +kernel, by decide +kernel, by decide +kernel⟩⟩
abbrev b_NetWires_step : ByteArray := prog_1_method_8_code
def y_NetWires_step : MethodName := ⟨"NetWires", "step", "()I"⟩
set_option maxRecDepth 20000 in
theorem m_NetWires_step : ga_M y_NetWires_step b_NetWires_step 2 (some .int) 0 := ⟨⟨ga_tb (i := 145) (by decide +kernel) rfl, ga_tb (i := 146) (by decide +kernel) rfl, ga_tb (i := 1) (by decide +kernel) rfl, ga_tb (i := 147) rfl rfl⟩, ⟨by decide +kernel, by decide +kernel, by decide +kernel⟩⟩
abbrev b_Agenda_takeAt : ByteArray := prog_2_method_4_code
def y_Agenda_takeAt : MethodName := ⟨"NetWires$Agenda", "takeAt", "(I)LNetWires$Event;"⟩
set_option maxRecDepth 20000 in
theorem m_Agenda_takeAt : ga_M y_Agenda_takeAt b_Agenda_takeAt 4 (some (.object "NetWires$Event")) 1 := ⟨⟨ga_tb (i := 149) (by decide +kernel) rfl, ga_tb (i := 150) (by decide +kernel) rfl, ga_tb (i := 3) (by decide +kernel) rfl, ga_tb (i := 151) rfl rfl⟩, ⟨by decide +kernel, by decide +kernel, by decide +kernel⟩⟩
abbrev b_Agenda_at : ByteArray := prog_2_method_2_code
def y_Agenda_at : MethodName := ⟨"NetWires$Agenda", "at", "(I)LNetWires$Event;"⟩
set_option maxRecDepth 20000 in
theorem m_Agenda_at : ga_M y_Agenda_at b_Agenda_at 2 (some (.object "NetWires$Event")) 1 := ⟨⟨ga_tb (i := 153) (by decide +kernel) rfl, ga_tb (i := 154) (by decide +kernel) rfl, ga_tb (i := 3) (by decide +kernel) rfl, ga_tb (i := 155) rfl rfl⟩, ⟨by decide +kernel, by decide +kernel, by decide +kernel⟩⟩
abbrev b_NetWires_letHappen : ByteArray := prog_1_method_35_code
def y_NetWires_letHappen : MethodName := ⟨"NetWires", "letHappen", "(LNetWires$Event;)I"⟩
set_option maxRecDepth 20000 in
theorem m_NetWires_letHappen : ga_M y_NetWires_letHappen b_NetWires_letHappen 4 (some .int) 1 := ⟨⟨ga_tb (i := 158) (by decide +kernel) rfl, ga_sl (i := 0) (by decide +kernel) rfl, ga_tb (i := 1) (by decide +kernel) rfl, ga_tb (i := 159) rfl rfl⟩, ⟨by decide +kernel, by decide +kernel, by decide +kernel⟩⟩
abbrev b_NetWires_receive : ByteArray := prog_1_method_36_code
def y_NetWires_receive : MethodName := ⟨"NetWires", "receive", "(LNetWires$Event;)I"⟩
set_option maxRecDepth 20000 in
theorem m_NetWires_receive : ga_M y_NetWires_receive b_NetWires_receive 2 (some .int) 1 := ⟨⟨ga_tb (i := 162) (by decide +kernel) rfl, ga_sl (i := 1) (by decide +kernel) rfl, ga_tb (i := 1) (by decide +kernel) rfl, ga_tb (i := 163) rfl rfl⟩, ⟨by decide +kernel, by decide +kernel, by decide +kernel⟩⟩
abbrev b_NetWires_areParted : ByteArray := prog_1_method_28_code
def y_NetWires_areParted : MethodName := ⟨"NetWires", "areParted", "(II)Z"⟩
set_option maxRecDepth 20000 in
theorem m_NetWires_areParted : ga_M y_NetWires_areParted b_NetWires_areParted 3 (some .boolean) 2 := ⟨⟨ga_tb (i := 166) (by decide +kernel) rfl, ga_sl (i := 2) (by decide +kernel) rfl, ga_tb (i := 1) (by decide +kernel) rfl, ga_tb (i := 167) rfl rfl⟩, ⟨by decide +kernel, by decide +kernel, by decide +kernel⟩⟩
abbrev b_NetWires_isIn : ByteArray := prog_1_method_25_code
def y_NetWires_isIn : MethodName := ⟨"NetWires", "isIn", "(II)Z"⟩
set_option maxRecDepth 20000 in
theorem m_NetWires_isIn : ga_Ms y_NetWires_isIn b_NetWires_isIn 2 (some .boolean) 2 := ⟨⟨ga_tb (i := 169) (by decide +kernel) rfl, ga_tb (i := 1) (by decide +kernel) rfl, ga_tb (i := 170) rfl rfl⟩, ⟨by decide +kernel, by decide +kernel, by decide +kernel⟩⟩
abbrev b_History_remember : ByteArray := prog_4_method_2_code
def y_History_remember : MethodName := ⟨"NetWires$History", "remember", "(ILNetWires$Event;)V"⟩
set_option maxRecDepth 20000 in
theorem m_History_remember : ga_M y_History_remember b_History_remember 4 none 2 := ⟨⟨ga_tb (i := 172) (by decide +kernel) rfl, ga_tb (i := 173) (by decide +kernel) rfl, ga_tb (i := 4) (by decide +kernel) rfl, ga_tb (i := 174) rfl rfl⟩, ⟨by decide +kernel, by decide +kernel, by decide +kernel⟩⟩
abbrev b_NetWires_message : ByteArray := prog_1_method_15_code
def y_NetWires_message : MethodName := ⟨"NetWires", "message", "(II)I"⟩
set_option maxRecDepth 20000 in
theorem m_NetWires_message : ga_M y_NetWires_message b_NetWires_message 4 (some .int) 2 := ⟨⟨ga_tb (i := 176) (by decide +kernel) rfl, ga_tb (i := 177) (by decide +kernel) rfl, ga_tb (i := 1) (by decide +kernel) rfl, ga_tb (i := 178) rfl rfl⟩, ⟨by decide +kernel, by decide +kernel, by decide +kernel⟩⟩
abbrev b_Agenda_placeOfMessage : ByteArray := prog_2_method_5_code
def y_Agenda_placeOfMessage : MethodName := ⟨"NetWires$Agenda", "placeOfMessage", "(I)I"⟩
set_option maxRecDepth 20000 in
theorem m_Agenda_placeOfMessage : ga_M y_Agenda_placeOfMessage b_Agenda_placeOfMessage 5 (some .int) 1 := ⟨⟨ga_tb (i := 180) (by decide +kernel) rfl, ga_tb (i := 181) (by decide +kernel) rfl, ga_tb (i := 3) (by decide +kernel) rfl, ga_tb (i := 182) rfl rfl⟩, ⟨by decide +kernel, by decide +kernel, by decide +kernel⟩⟩
abbrev b_NetWires_happened : ByteArray := prog_1_method_17_code
def y_NetWires_happened : MethodName := ⟨"NetWires", "happened", "(II)I"⟩
set_option maxRecDepth 20000 in
theorem m_NetWires_happened : ga_M y_NetWires_happened b_NetWires_happened 3 (some .int) 2 := ⟨⟨ga_tb (i := 185) (by decide +kernel) rfl, ga_tb (i := 186) (by decide +kernel) rfl, ga_tb (i := 1) (by decide +kernel) rfl, ga_tb (i := 187) rfl rfl⟩, ⟨by decide +kernel, by decide +kernel, by decide +kernel⟩⟩
abbrev b_History_fact : ByteArray := prog_4_method_3_code
def y_History_fact : MethodName := ⟨"NetWires$History", "fact", "(II)I"⟩
set_option maxRecDepth 20000 in
theorem m_History_fact : ga_M y_History_fact b_History_fact 4 (some .int) 2 := ⟨⟨ga_tb (i := 189) (by decide +kernel) rfl, ga_tb (i := 190) (by decide +kernel) rfl, ga_tb (i := 4) (by decide +kernel) rfl, ga_tb (i := 191) rfl rfl⟩, ⟨by decide +kernel, by decide +kernel, by decide +kernel⟩⟩
abbrev b_NetWires_count : ByteArray := prog_1_method_20_code
def y_NetWires_count : MethodName := ⟨"NetWires", "count", "(I)I"⟩
set_option maxRecDepth 20000 in
theorem m_NetWires_count : ga_M y_NetWires_count b_NetWires_count 2 (some .int) 1 := ⟨⟨ga_tb (i := 193) (by decide +kernel) rfl, ga_tb (i := 194) (by decide +kernel) rfl, ga_tb (i := 1) (by decide +kernel) rfl, ga_tb (i := 195) rfl rfl⟩, ⟨by decide +kernel, by decide +kernel, by decide +kernel⟩⟩
abbrev b_L_feed : ByteArray := method_3_code
def y_L_feed : MethodName := ⟨"NetWiresLaw", "feed", "(LNetWires;JI[J)I"⟩
abbrev hh_L_feed : List (Nat × Nat × Nat × Nat) := [(0, 11, 14, 13), (0, 11, 18, 15)]
set_option maxRecDepth 20000 in
theorem m_L_feed : ga_Mw y_L_feed b_L_feed 6 (some .int) hh_L_feed 4 := ⟨⟨ga_tb (i := 197) (by decide +kernel) rfl, ga_tb (i := 0) (by decide +kernel) rfl, ga_tb (i := 198) rfl rfl⟩, ⟨by decide +kernel, by decide +kernel, by decide +kernel⟩⟩
abbrev b_NetWires_feed : ByteArray := prog_1_method_2_code
def y_NetWires_feed : MethodName := ⟨"NetWires", "feed", "(JI)I"⟩
set_option maxRecDepth 20000 in
theorem m_NetWires_feed : ga_M y_NetWires_feed b_NetWires_feed 5 (some .int) 2 := ⟨⟨ga_tb (i := 202) (by decide +kernel) rfl, ga_tb (i := 203) (by decide +kernel) rfl, ga_tb (i := 1) (by decide +kernel) rfl, ga_tb (i := 204) rfl rfl⟩, ⟨by decide +kernel, by decide +kernel, by decide +kernel⟩⟩
abbrev b_Tape_hasRoomFor : ByteArray := prog_6_method_2_code
def y_Tape_hasRoomFor : MethodName := ⟨"NetWires$Tape", "hasRoomFor", "(I)Z"⟩
set_option maxRecDepth 20000 in
theorem m_Tape_hasRoomFor : ga_M y_Tape_hasRoomFor b_Tape_hasRoomFor 2 (some .boolean) 1 := ⟨⟨ga_tb (i := 273) (by decide +kernel) rfl, ga_tb (i := 274) (by decide +kernel) rfl, ga_tb (i := 2) (by decide +kernel) rfl, ga_tb (i := 275) rfl rfl⟩, ⟨by decide +kernel, by decide +kernel, by decide +kernel⟩⟩
abbrev b_Tape_append : ByteArray := prog_6_method_3_code
def y_Tape_append : MethodName := ⟨"NetWires$Tape", "append", "(B)V"⟩
set_option maxRecDepth 20000 in
theorem m_Tape_append : ga_M y_Tape_append b_Tape_append 2 none 1 := ⟨⟨ga_tb (i := 293) (by decide +kernel) rfl, ga_tb (i := 294) (by decide +kernel) rfl, ga_tb (i := 2) (by decide +kernel) rfl, ga_tb (i := 295) rfl rfl⟩, ⟨by decide +kernel, by decide +kernel, by decide +kernel⟩⟩
abbrev b_L_send : ByteArray := method_4_code
def y_L_send : MethodName := ⟨"NetWiresLaw", "send", "(LNetWires;II[J)I"⟩
abbrev hh_L_send : List (Nat × Nat × Nat × Nat) := [(0, 10, 13, 21)]
set_option maxRecDepth 20000 in
theorem m_L_send : ga_Mw y_L_send b_L_send 5 (some .int) hh_L_send 4 := ⟨⟨ga_tb (i := 298) (by decide +kernel) rfl, ga_tb (i := 0) (by decide +kernel) rfl, ga_tb (i := 299) rfl rfl⟩, ⟨by decide +kernel, by decide +kernel, by decide +kernel⟩⟩
abbrev b_NetWires_send : ByteArray := prog_1_method_3_code
def y_NetWires_send : MethodName := ⟨"NetWires", "send", "(II)I"⟩
set_option maxRecDepth 20000 in
theorem m_NetWires_send : ga_M y_NetWires_send b_NetWires_send 4 (some .int) 2 := ⟨⟨ga_tb (i := 302) (by decide +kernel) rfl, ga_tb (i := 303) (by decide +kernel) rfl, ga_tb (i := 1) (by decide +kernel) rfl, ga_tb (i := 304) rfl rfl⟩, ⟨by decide +kernel, by decide +kernel, by decide +kernel⟩⟩
abbrev b_Tape_takeAll : ByteArray := prog_6_method_4_code
def y_Tape_takeAll : MethodName := ⟨"NetWires$Tape", "takeAll", "()[B"⟩
set_option maxRecDepth 20000 in
theorem m_Tape_takeAll : ga_M y_Tape_takeAll b_Tape_takeAll 2 (some (.array .byte)) 0 := ⟨⟨ga_tb (i := 306) (by decide +kernel) rfl, ga_tb (i := 307) (by decide +kernel) rfl, ga_tb (i := 2) (by decide +kernel) rfl, ga_tb (i := 308) rfl rfl⟩, ⟨by decide +kernel, by decide +kernel, by decide +kernel⟩⟩
abbrev b_J_copyOf : ByteArray := prog_19_method_121_code
def y_J_copyOf : MethodName := ⟨"java/util/Arrays", "copyOf", "([BI)[B"⟩
set_option maxRecDepth 20000 in
theorem m_J_copyOf : ga_Ms y_J_copyOf b_J_copyOf 3 (some (.array .byte)) 2 := ⟨⟨ga_tb (i := 311) (by decide +kernel) rfl, ga_tb (i := 6) (by decide +kernel) rfl, ga_tb (i := 312) rfl rfl⟩, ⟨by decide +kernel, by decide +kernel, by decide +kernel⟩⟩
abbrev b_NetWires_demandEndpoint : ByteArray := prog_1_method_22_code
def y_NetWires_demandEndpoint : MethodName := ⟨"NetWires", "demandEndpoint", "(I)V"⟩
set_option maxRecDepth 20000 in
theorem m_NetWires_demandEndpoint : ga_Ms y_NetWires_demandEndpoint b_NetWires_demandEndpoint 1 none 1 := ⟨⟨ga_tb (i := 327) (by decide +kernel) rfl, ga_tb (i := 1) (by decide +kernel) rfl, ga_tb (i := 328) rfl rfl⟩, ⟨by decide +kernel, by decide +kernel, by decide +kernel⟩⟩
abbrev b_NetWires_isWithin : ByteArray := prog_1_method_21_code
def y_NetWires_isWithin : MethodName := ⟨"NetWires", "isWithin", "(III)Z"⟩
set_option maxRecDepth 20000 in
theorem m_NetWires_isWithin : ga_Ms y_NetWires_isWithin b_NetWires_isWithin 3 (some .boolean) 3 := ⟨⟨ga_tb (i := 330) (by decide +kernel) rfl, ga_tb (i := 1) (by decide +kernel) rfl, ga_tb (i := 331) rfl rfl⟩, ⟨by decide +kernel, by decide +kernel, by decide +kernel⟩⟩
abbrev b_Noise_isOn : ByteArray := prog_5_method_3_code
def y_Noise_isOn : MethodName := ⟨"NetWires$Noise", "isOn", "()Z"⟩
set_option maxRecDepth 20000 in
theorem m_Noise_isOn : ga_M y_Noise_isOn b_Noise_isOn 1 (some .boolean) 0 := ⟨⟨ga_tb (i := 349) (by decide +kernel) rfl, ga_tb (i := 350) (by decide +kernel) rfl, ga_tb (i := 5) (by decide +kernel) rfl, ga_tb (i := 351) rfl rfl⟩, ⟨by decide +kernel, by decide +kernel, by decide +kernel⟩⟩
abbrev b_NetWires_launchThroughNoise : ByteArray := prog_1_method_30_code
def y_NetWires_launchThroughNoise : MethodName := ⟨"NetWires", "launchThroughNoise", "(II[B)I"⟩
set_option maxRecDepth 20000 in
theorem m_NetWires_launchThroughNoise : ga_M y_NetWires_launchThroughNoise b_NetWires_launchThroughNoise 8 (some .int) 3 := ⟨⟨ga_tb (i := 354) (by decide +kernel) rfl, ga_sl (i := 4) (by decide +kernel) rfl, ga_tb (i := 1) (by decide +kernel) rfl, ga_tb (i := 355) rfl rfl⟩, ⟨by decide +kernel, by decide +kernel, by decide +kernel⟩⟩
abbrev b_Noise_drawBelow : ByteArray := prog_5_method_4_code
def y_Noise_drawBelow : MethodName := ⟨"NetWires$Noise", "drawBelow", "(I)I"⟩
set_option maxRecDepth 20000 in
theorem m_Noise_drawBelow : ga_M y_Noise_drawBelow b_Noise_drawBelow 2 (some .int) 1 := ⟨⟨ga_tb (i := 357) (by decide +kernel) rfl, ga_tb (i := 358) (by decide +kernel) rfl, ga_tb (i := 5) (by decide +kernel) rfl, ga_tb (i := 359) rfl rfl⟩, ⟨by decide +kernel, by decide +kernel, by decide +kernel⟩⟩
abbrev b_NetWires_launch : ByteArray := prog_1_method_31_code
def y_NetWires_launch : MethodName := ⟨"NetWires", "launch", "(III[B)I"⟩
set_option maxRecDepth 20000 in
theorem m_NetWires_launch : ga_M y_NetWires_launch b_NetWires_launch 5 (some .int) 4 := ⟨⟨ga_tb (i := 364) (by decide +kernel) rfl, ga_sl (i := 5) (by decide +kernel) rfl, ga_tb (i := 1) (by decide +kernel) rfl, ga_tb (i := 365) rfl rfl⟩, ⟨by decide +kernel, by decide +kernel, by decide +kernel⟩⟩
abbrev b_NetWires_linkOf : ByteArray := prog_1_method_26_code
def y_NetWires_linkOf : MethodName := ⟨"NetWires", "linkOf", "(II)I"⟩
set_option maxRecDepth 20000 in
theorem m_NetWires_linkOf : ga_Ms y_NetWires_linkOf b_NetWires_linkOf 2 (some .int) 2 := ⟨⟨ga_tb (i := 367) (by decide +kernel) rfl, ga_tb (i := 1) (by decide +kernel) rfl, ga_tb (i := 368) rfl rfl⟩, ⟨by decide +kernel, by decide +kernel, by decide +kernel⟩⟩
abbrev b_NetWires_addMessage : ByteArray := prog_1_method_32_code
def y_NetWires_addMessage : MethodName := ⟨"NetWires", "addMessage", "(III[B)V"⟩
set_option maxRecDepth 20000 in
theorem m_NetWires_addMessage : ga_M y_NetWires_addMessage b_NetWires_addMessage 5 none 4 := ⟨⟨ga_tb (i := 371) (by decide +kernel) rfl, ga_sl (i := 6) (by decide +kernel) rfl, ga_tb (i := 1) (by decide +kernel) rfl, ga_tb (i := 372) rfl rfl⟩, ⟨by decide +kernel, by decide +kernel, by decide +kernel⟩⟩
abbrev b_NetWires_takeNumber : ByteArray := prog_1_method_29_code
def y_NetWires_takeNumber : MethodName := ⟨"NetWires", "takeNumber", "()I"⟩
set_option maxRecDepth 20000 in
theorem m_NetWires_takeNumber : ga_M y_NetWires_takeNumber b_NetWires_takeNumber 2 (some .int) 0 := ⟨⟨ga_tb (i := 377) (by decide +kernel) rfl, ga_sl (i := 7) (by decide +kernel) rfl, ga_tb (i := 1) (by decide +kernel) rfl, ga_tb (i := 378) rfl rfl⟩, ⟨by decide +kernel, by decide +kernel, by decide +kernel⟩⟩
abbrev b_Event_init : ByteArray := prog_3_method_1_code
def y_Event_init : MethodName := ⟨"NetWires$Event", "<init>", "(IIIII[B)V"⟩
set_option maxRecDepth 20000 in
theorem m_Event_init : ga_Mi y_Event_init b_Event_init 7 6 := ⟨⟨ga_tb (i := 380) (by decide +kernel) rfl, ga_tb (i := 16) (by decide +kernel) rfl, ga_tb (i := 381) rfl rfl, rfl⟩, ⟨by decide +kernel, by decide +kernel, by decide +kernel⟩⟩
abbrev b_Agenda_insert : ByteArray := prog_2_method_3_code
def y_Agenda_insert : MethodName := ⟨"NetWires$Agenda", "insert", "(LNetWires$Event;)V"⟩
set_option maxRecDepth 20000 in
theorem m_Agenda_insert : ga_M y_Agenda_insert b_Agenda_insert 3 none 1 := ⟨⟨ga_tb (i := 415) (by decide +kernel) rfl, ga_tb (i := 416) (by decide +kernel) rfl, ga_tb (i := 3) (by decide +kernel) rfl, ga_tb (i := 417) rfl rfl⟩, ⟨by decide +kernel, by decide +kernel, by decide +kernel⟩⟩
abbrev b_Agenda_isAfter : ByteArray := prog_2_method_7_code
def y_Agenda_isAfter : MethodName := ⟨"NetWires$Agenda", "isAfter", "(II)Z"⟩
set_option maxRecDepth 20000 in
theorem m_Agenda_isAfter : ga_M y_Agenda_isAfter b_Agenda_isAfter 4 (some .boolean) 2 := ⟨⟨ga_tb (i := 419) (by decide +kernel) rfl, ga_tb (i := 420) (by decide +kernel) rfl, ga_tb (i := 3) (by decide +kernel) rfl, ga_tb (i := 421) rfl rfl⟩, ⟨by decide +kernel, by decide +kernel, by decide +kernel⟩⟩
abbrev b_L_alarm : ByteArray := method_5_code
def y_L_alarm : MethodName := ⟨"NetWiresLaw", "alarm", "(LNetWires;II[J)I"⟩
abbrev hh_L_alarm : List (Nat × Nat × Nat × Nat) := [(0, 17, 20, 21), (0, 17, 24, 13)]
set_option maxRecDepth 20000 in
theorem m_L_alarm : ga_Mw y_L_alarm b_L_alarm 5 (some .int) hh_L_alarm 4 := ⟨⟨ga_tb (i := 423) (by decide +kernel) rfl, ga_tb (i := 0) (by decide +kernel) rfl, ga_tb (i := 424) rfl rfl⟩, ⟨by decide +kernel, by decide +kernel, by decide +kernel⟩⟩
abbrev b_NetWires_alarm : ByteArray := prog_1_method_4_code
def y_NetWires_alarm : MethodName := ⟨"NetWires", "alarm", "(II)Z"⟩
set_option maxRecDepth 20000 in
theorem m_NetWires_alarm : ga_M y_NetWires_alarm b_NetWires_alarm 3 (some .boolean) 2 := ⟨⟨ga_tb (i := 426) (by decide +kernel) rfl, ga_tb (i := 427) (by decide +kernel) rfl, ga_tb (i := 1) (by decide +kernel) rfl, ga_tb (i := 428) rfl rfl⟩, ⟨by decide +kernel, by decide +kernel, by decide +kernel⟩⟩
abbrev b_NetWires_demandTicks : ByteArray := prog_1_method_23_code
def y_NetWires_demandTicks : MethodName := ⟨"NetWires", "demandTicks", "(II)V"⟩
set_option maxRecDepth 20000 in
theorem m_NetWires_demandTicks : ga_Ms y_NetWires_demandTicks b_NetWires_demandTicks 2 none 2 := ⟨⟨ga_tb (i := 431) (by decide +kernel) rfl, ga_tb (i := 1) (by decide +kernel) rfl, ga_tb (i := 432) rfl rfl⟩, ⟨by decide +kernel, by decide +kernel, by decide +kernel⟩⟩
abbrev b_NetWires_setTimer : ByteArray := prog_1_method_33_code
def y_NetWires_setTimer : MethodName := ⟨"NetWires", "setTimer", "(III)Z"⟩
set_option maxRecDepth 20000 in
theorem m_NetWires_setTimer : ga_M y_NetWires_setTimer b_NetWires_setTimer 5 (some .boolean) 3 := ⟨⟨ga_tb (i := 436) (by decide +kernel) rfl, ga_sl (i := 8) (by decide +kernel) rfl, ga_tb (i := 1) (by decide +kernel) rfl, ga_tb (i := 437) rfl rfl⟩, ⟨by decide +kernel, by decide +kernel, by decide +kernel⟩⟩
abbrev b_NetWires_dropTimer : ByteArray := prog_1_method_34_code
def y_NetWires_dropTimer : MethodName := ⟨"NetWires", "dropTimer", "(II)Z"⟩
set_option maxRecDepth 20000 in
theorem m_NetWires_dropTimer : ga_M y_NetWires_dropTimer b_NetWires_dropTimer 3 (some .boolean) 2 := ⟨⟨ga_tb (i := 440) (by decide +kernel) rfl, ga_sl (i := 9) (by decide +kernel) rfl, ga_tb (i := 1) (by decide +kernel) rfl, ga_tb (i := 441) rfl rfl⟩, ⟨by decide +kernel, by decide +kernel, by decide +kernel⟩⟩
abbrev b_Agenda_placeOfTimer : ByteArray := prog_2_method_6_code
def y_Agenda_placeOfTimer : MethodName := ⟨"NetWires$Agenda", "placeOfTimer", "(II)I"⟩
set_option maxRecDepth 20000 in
theorem m_Agenda_placeOfTimer : ga_M y_Agenda_placeOfTimer b_Agenda_placeOfTimer 5 (some .int) 2 := ⟨⟨ga_tb (i := 443) (by decide +kernel) rfl, ga_tb (i := 444) (by decide +kernel) rfl, ga_tb (i := 3) (by decide +kernel) rfl, ga_tb (i := 445) rfl rfl⟩, ⟨by decide +kernel, by decide +kernel, by decide +kernel⟩⟩
abbrev b_L_noAlarm : ByteArray := method_6_code
def y_L_noAlarm : MethodName := ⟨"NetWiresLaw", "noAlarm", "(LNetWires;I[J)I"⟩
abbrev hh_L_noAlarm : List (Nat × Nat × Nat × Nat) := [(0, 16, 19, 21)]
set_option maxRecDepth 20000 in
theorem m_L_noAlarm : ga_Mw y_L_noAlarm b_L_noAlarm 4 (some .int) hh_L_noAlarm 3 := ⟨⟨ga_tb (i := 447) (by decide +kernel) rfl, ga_tb (i := 0) (by decide +kernel) rfl, ga_tb (i := 448) rfl rfl⟩, ⟨by decide +kernel, by decide +kernel, by decide +kernel⟩⟩
abbrev b_NetWires_noAlarm : ByteArray := prog_1_method_5_code
def y_NetWires_noAlarm : MethodName := ⟨"NetWires", "noAlarm", "(I)Z"⟩
set_option maxRecDepth 20000 in
theorem m_NetWires_noAlarm : ga_M y_NetWires_noAlarm b_NetWires_noAlarm 2 (some .boolean) 1 := ⟨⟨ga_tb (i := 450) (by decide +kernel) rfl, ga_tb (i := 451) (by decide +kernel) rfl, ga_tb (i := 1) (by decide +kernel) rfl, ga_tb (i := 452) rfl rfl⟩, ⟨by decide +kernel, by decide +kernel, by decide +kernel⟩⟩
abbrev b_L_sync : ByteArray := method_7_code
def y_L_sync : MethodName := ⟨"NetWiresLaw", "sync", "(LNetWires;II[J)I"⟩
abbrev hh_L_sync : List (Nat × Nat × Nat × Nat) := [(0, 17, 20, 21), (0, 17, 24, 13)]
set_option maxRecDepth 20000 in
theorem m_L_sync : ga_Mw y_L_sync b_L_sync 5 (some .int) hh_L_sync 4 := ⟨⟨ga_tb (i := 454) (by decide +kernel) rfl, ga_tb (i := 0) (by decide +kernel) rfl, ga_tb (i := 455) rfl rfl⟩, ⟨by decide +kernel, by decide +kernel, by decide +kernel⟩⟩
abbrev b_NetWires_sync : ByteArray := prog_1_method_6_code
def y_NetWires_sync : MethodName := ⟨"NetWires", "sync", "(II)Z"⟩
set_option maxRecDepth 20000 in
theorem m_NetWires_sync : ga_M y_NetWires_sync b_NetWires_sync 3 (some .boolean) 2 := ⟨⟨ga_tb (i := 457) (by decide +kernel) rfl, ga_tb (i := 458) (by decide +kernel) rfl, ga_tb (i := 1) (by decide +kernel) rfl, ga_tb (i := 459) rfl rfl⟩, ⟨by decide +kernel, by decide +kernel, by decide +kernel⟩⟩
abbrev b_L_noSync : ByteArray := method_8_code
def y_L_noSync : MethodName := ⟨"NetWiresLaw", "noSync", "(LNetWires;I[J)I"⟩
abbrev hh_L_noSync : List (Nat × Nat × Nat × Nat) := [(0, 16, 19, 21)]
set_option maxRecDepth 20000 in
theorem m_L_noSync : ga_Mw y_L_noSync b_L_noSync 4 (some .int) hh_L_noSync 3 := ⟨⟨ga_tb (i := 461) (by decide +kernel) rfl, ga_tb (i := 0) (by decide +kernel) rfl, ga_tb (i := 462) rfl rfl⟩, ⟨by decide +kernel, by decide +kernel, by decide +kernel⟩⟩
abbrev b_NetWires_noSync : ByteArray := prog_1_method_7_code
def y_NetWires_noSync : MethodName := ⟨"NetWires", "noSync", "(I)Z"⟩
set_option maxRecDepth 20000 in
theorem m_NetWires_noSync : ga_M y_NetWires_noSync b_NetWires_noSync 2 (some .boolean) 1 := ⟨⟨ga_tb (i := 464) (by decide +kernel) rfl, ga_tb (i := 465) (by decide +kernel) rfl, ga_tb (i := 1) (by decide +kernel) rfl, ga_tb (i := 466) rfl rfl⟩, ⟨by decide +kernel, by decide +kernel, by decide +kernel⟩⟩
abbrev b_L_run : ByteArray := method_9_code
def y_L_run : MethodName := ⟨"NetWiresLaw", "run", "(LNetWires;I[J)I"⟩
abbrev hh_L_run : List (Nat × Nat × Nat × Nat) := [(0, 9, 12, 13)]
set_option maxRecDepth 20000 in
theorem m_L_run : ga_Mw y_L_run b_L_run 4 (some .int) hh_L_run 3 := ⟨⟨ga_tb (i := 468) (by decide +kernel) rfl, ga_tb (i := 0) (by decide +kernel) rfl, ga_tb (i := 469) rfl rfl⟩, ⟨by decide +kernel, by decide +kernel, by decide +kernel⟩⟩
abbrev b_NetWires_run : ByteArray := prog_1_method_9_code
def y_NetWires_run : MethodName := ⟨"NetWires", "run", "(I)I"⟩
set_option maxRecDepth 20000 in
theorem m_NetWires_run : ga_M y_NetWires_run b_NetWires_run 5 (some .int) 1 := ⟨⟨ga_tb (i := 471) (by decide +kernel) rfl, ga_tb (i := 472) (by decide +kernel) rfl, ga_tb (i := 1) (by decide +kernel) rfl, ga_tb (i := 473) rfl rfl⟩, ⟨by decide +kernel, by decide +kernel, by decide +kernel⟩⟩
abbrev b_L_delay : ByteArray := method_10_code
def y_L_delay : MethodName := ⟨"NetWiresLaw", "delay", "(LNetWires;III[J)I"⟩
abbrev hh_L_delay : List (Nat × Nat × Nat × Nat) := [(0, 12, 15, 21), (0, 12, 19, 13)]
set_option maxRecDepth 20000 in
theorem m_L_delay : ga_Mw y_L_delay b_L_delay 6 (some .int) hh_L_delay 5 := ⟨⟨ga_tb (i := 476) (by decide +kernel) rfl, ga_tb (i := 0) (by decide +kernel) rfl, ga_tb (i := 477) rfl rfl⟩, ⟨by decide +kernel, by decide +kernel, by decide +kernel⟩⟩
abbrev b_NetWires_delay : ByteArray := prog_1_method_10_code
def y_NetWires_delay : MethodName := ⟨"NetWires", "delay", "(III)I"⟩
set_option maxRecDepth 20000 in
theorem m_NetWires_delay : ga_M y_NetWires_delay b_NetWires_delay 6 (some .int) 3 := ⟨⟨ga_tb (i := 479) (by decide +kernel) rfl, ga_tb (i := 480) (by decide +kernel) rfl, ga_tb (i := 1) (by decide +kernel) rfl, ga_tb (i := 481) rfl rfl⟩, ⟨by decide +kernel, by decide +kernel, by decide +kernel⟩⟩
abbrev b_L_part : ByteArray := method_11_code
def y_L_part : MethodName := ⟨"NetWiresLaw", "part", "(LNetWires;I[J)I"⟩
abbrev hh_L_part : List (Nat × Nat × Nat × Nat) := [(0, 9, 12, 13)]
set_option maxRecDepth 20000 in
theorem m_L_part : ga_Mw y_L_part b_L_part 4 (some .int) hh_L_part 3 := ⟨⟨ga_tb (i := 483) (by decide +kernel) rfl, ga_tb (i := 0) (by decide +kernel) rfl, ga_tb (i := 484) rfl rfl⟩, ⟨by decide +kernel, by decide +kernel, by decide +kernel⟩⟩
abbrev b_NetWires_part : ByteArray := prog_1_method_11_code
def y_NetWires_part : MethodName := ⟨"NetWires", "part", "(I)I"⟩
set_option maxRecDepth 20000 in
theorem m_NetWires_part : ga_M y_NetWires_part b_NetWires_part 3 (some .int) 1 := ⟨⟨ga_tb (i := 486) (by decide +kernel) rfl, ga_tb (i := 487) (by decide +kernel) rfl, ga_tb (i := 1) (by decide +kernel) rfl, ga_tb (i := 488) rfl rfl⟩, ⟨by decide +kernel, by decide +kernel, by decide +kernel⟩⟩
abbrev b_NetWires_demandSet : ByteArray := prog_1_method_24_code
def y_NetWires_demandSet : MethodName := ⟨"NetWires", "demandSet", "(I)V"⟩
set_option maxRecDepth 20000 in
theorem m_NetWires_demandSet : ga_Ms y_NetWires_demandSet b_NetWires_demandSet 1 none 1 := ⟨⟨ga_tb (i := 490) (by decide +kernel) rfl, ga_tb (i := 1) (by decide +kernel) rfl, ga_tb (i := 491) rfl rfl⟩, ⟨by decide +kernel, by decide +kernel, by decide +kernel⟩⟩
abbrev b_L_down : ByteArray := method_12_code
def y_L_down : MethodName := ⟨"NetWiresLaw", "down", "(LNetWires;I[J)I"⟩
abbrev hh_L_down : List (Nat × Nat × Nat × Nat) := [(0, 9, 12, 13)]
set_option maxRecDepth 20000 in
theorem m_L_down : ga_Mw y_L_down b_L_down 4 (some .int) hh_L_down 3 := ⟨⟨ga_tb (i := 495) (by decide +kernel) rfl, ga_tb (i := 0) (by decide +kernel) rfl, ga_tb (i := 496) rfl rfl⟩, ⟨by decide +kernel, by decide +kernel, by decide +kernel⟩⟩
abbrev b_NetWires_down : ByteArray := prog_1_method_12_code
def y_NetWires_down : MethodName := ⟨"NetWires", "down", "(I)I"⟩
set_option maxRecDepth 20000 in
theorem m_NetWires_down : ga_M y_NetWires_down b_NetWires_down 3 (some .int) 1 := ⟨⟨ga_tb (i := 498) (by decide +kernel) rfl, ga_tb (i := 499) (by decide +kernel) rfl, ga_tb (i := 1) (by decide +kernel) rfl, ga_tb (i := 500) rfl rfl⟩, ⟨by decide +kernel, by decide +kernel, by decide +kernel⟩⟩
abbrev b_L_noise : ByteArray := method_13_code
def y_L_noise : MethodName := ⟨"NetWiresLaw", "noise", "(LNetWires;IIIJ)I"⟩
abbrev hh_L_noise : List (Nat × Nat × Nat × Nat) := [(0, 9, 12, 13)]
set_option maxRecDepth 20000 in
theorem m_L_noise : ga_Mw y_L_noise b_L_noise 7 (some .int) hh_L_noise 5 := ⟨⟨ga_tb (i := 502) (by decide +kernel) rfl, ga_tb (i := 0) (by decide +kernel) rfl, ga_tb (i := 503) rfl rfl⟩, ⟨by decide +kernel, by decide +kernel, by decide +kernel⟩⟩
abbrev b_NetWires_noise : ByteArray := prog_1_method_13_code
def y_NetWires_noise : MethodName := ⟨"NetWires", "noise", "(IIIJ)V"⟩
set_option maxRecDepth 20000 in
theorem m_NetWires_noise : ga_M y_NetWires_noise b_NetWires_noise 6 none 4 := ⟨⟨ga_tb (i := 505) (by decide +kernel) rfl, ga_tb (i := 506) (by decide +kernel) rfl, ga_tb (i := 1) (by decide +kernel) rfl, ga_tb (i := 507) rfl rfl⟩, ⟨by decide +kernel, by decide +kernel, by decide +kernel⟩⟩
abbrev b_Noise_set : ByteArray := prog_5_method_2_code
def y_Noise_set : MethodName := ⟨"NetWires$Noise", "set", "(IIIJ)V"⟩
set_option maxRecDepth 20000 in
theorem m_Noise_set : ga_M y_Noise_set b_Noise_set 6 none 4 := ⟨⟨ga_tb (i := 510) (by decide +kernel) rfl, ga_tb (i := 511) (by decide +kernel) rfl, ga_tb (i := 5) (by decide +kernel) rfl, ga_tb (i := 512) rfl rfl⟩, ⟨by decide +kernel, by decide +kernel, by decide +kernel⟩⟩
abbrev b_L_meddle : ByteArray := method_14_code
def y_L_meddle : MethodName := ⟨"NetWiresLaw", "meddle", "(LNetWires;III[J)I"⟩
abbrev hh_L_meddle : List (Nat × Nat × Nat × Nat) := [(0, 19, 22, 13)]
set_option maxRecDepth 20000 in
theorem m_L_meddle : ga_Mw y_L_meddle b_L_meddle 6 (some .int) hh_L_meddle 5 := ⟨⟨ga_tb (i := 514) (by decide +kernel) rfl, ga_tb (i := 0) (by decide +kernel) rfl, ga_tb (i := 515) rfl rfl⟩, ⟨by decide +kernel, by decide +kernel, by decide +kernel⟩⟩
abbrev b_NetWires_meddle : ByteArray := prog_1_method_14_code
def y_NetWires_meddle : MethodName := ⟨"NetWires", "meddle", "(III)Z"⟩
set_option maxRecDepth 20000 in
theorem m_NetWires_meddle : ga_M y_NetWires_meddle b_NetWires_meddle 6 (some .boolean) 3 := ⟨⟨ga_tb (i := 517) (by decide +kernel) rfl, ga_tb (i := 518) (by decide +kernel) rfl, ga_tb (i := 1) (by decide +kernel) rfl, ga_tb (i := 519) rfl rfl⟩, ⟨by decide +kernel, by decide +kernel, by decide +kernel⟩⟩
abbrev b_NetWires_canMeddle : ByteArray := prog_1_method_27_code
def y_NetWires_canMeddle : MethodName := ⟨"NetWires", "canMeddle", "(II)Z"⟩
set_option maxRecDepth 20000 in
theorem m_NetWires_canMeddle : ga_Ms y_NetWires_canMeddle b_NetWires_canMeddle 2 (some .boolean) 2 := ⟨⟨ga_tb (i := 521) (by decide +kernel) rfl, ga_tb (i := 1) (by decide +kernel) rfl, ga_tb (i := 522) rfl rfl⟩, ⟨by decide +kernel, by decide +kernel, by decide +kernel⟩⟩
abbrev b_L_messageAt : ByteArray := method_15_code
def y_L_messageAt : MethodName := ⟨"NetWiresLaw", "messageAt", "(LNetWires;II[J)I"⟩
abbrev hh_L_messageAt : List (Nat × Nat × Nat × Nat) := [(0, 10, 13, 21)]
set_option maxRecDepth 20000 in
theorem m_L_messageAt : ga_Mw y_L_messageAt b_L_messageAt 5 (some .int) hh_L_messageAt 4 := ⟨⟨ga_tb (i := 525) (by decide +kernel) rfl, ga_tb (i := 0) (by decide +kernel) rfl, ga_tb (i := 526) rfl rfl⟩, ⟨by decide +kernel, by decide +kernel, by decide +kernel⟩⟩
abbrev b_NetWires_messageAt : ByteArray := prog_1_method_16_code
def y_NetWires_messageAt : MethodName := ⟨"NetWires", "messageAt", "(II)I"⟩
set_option maxRecDepth 20000 in
theorem m_NetWires_messageAt : ga_M y_NetWires_messageAt b_NetWires_messageAt 4 (some .int) 2 := ⟨⟨ga_tb (i := 528) (by decide +kernel) rfl, ga_tb (i := 529) (by decide +kernel) rfl, ga_tb (i := 1) (by decide +kernel) rfl, ga_tb (i := 530) rfl rfl⟩, ⟨by decide +kernel, by decide +kernel, by decide +kernel⟩⟩
abbrev b_L_byteAt : ByteArray := method_16_code
def y_L_byteAt : MethodName := ⟨"NetWiresLaw", "byteAt", "(LNetWires;I[J)I"⟩
abbrev hh_L_byteAt : List (Nat × Nat × Nat × Nat) := [(0, 9, 12, 21)]
set_option maxRecDepth 20000 in
theorem m_L_byteAt : ga_Mw y_L_byteAt b_L_byteAt 4 (some .int) hh_L_byteAt 3 := ⟨⟨ga_tb (i := 534) (by decide +kernel) rfl, ga_tb (i := 0) (by decide +kernel) rfl, ga_tb (i := 535) rfl rfl⟩, ⟨by decide +kernel, by decide +kernel, by decide +kernel⟩⟩
abbrev b_NetWires_byteAt : ByteArray := prog_1_method_18_code
def y_NetWires_byteAt : MethodName := ⟨"NetWires", "byteAt", "(I)I"⟩
set_option maxRecDepth 20000 in
theorem m_NetWires_byteAt : ga_M y_NetWires_byteAt b_NetWires_byteAt 2 (some .int) 1 := ⟨⟨ga_tb (i := 537) (by decide +kernel) rfl, ga_tb (i := 538) (by decide +kernel) rfl, ga_tb (i := 1) (by decide +kernel) rfl, ga_tb (i := 539) rfl rfl⟩, ⟨by decide +kernel, by decide +kernel, by decide +kernel⟩⟩
abbrev b_L_when : ByteArray := method_17_code
def y_L_when : MethodName := ⟨"NetWiresLaw", "when", "(LNetWires;II[J)I"⟩
abbrev hh_L_when : List (Nat × Nat × Nat × Nat) := [(0, 10, 13, 21)]
set_option maxRecDepth 20000 in
theorem m_L_when : ga_Mw y_L_when b_L_when 5 (some .int) hh_L_when 4 := ⟨⟨ga_tb (i := 541) (by decide +kernel) rfl, ga_tb (i := 0) (by decide +kernel) rfl, ga_tb (i := 542) rfl rfl⟩, ⟨by decide +kernel, by decide +kernel, by decide +kernel⟩⟩
abbrev b_NetWires_when : ByteArray := prog_1_method_19_code
def y_NetWires_when : MethodName := ⟨"NetWires", "when", "(II)I"⟩
set_option maxRecDepth 20000 in
theorem m_NetWires_when : ga_M y_NetWires_when b_NetWires_when 4 (some .int) 2 := ⟨⟨ga_tb (i := 544) (by decide +kernel) rfl, ga_tb (i := 545) (by decide +kernel) rfl, ga_tb (i := 1) (by decide +kernel) rfl, ga_tb (i := 546) rfl rfl⟩, ⟨by decide +kernel, by decide +kernel, by decide +kernel⟩⟩
abbrev b_M_init : ByteArray := prog_8_method_1_code
def y_M_init : MethodName := ⟨"NetWiresModel", "<init>", "()V"⟩
set_option maxRecDepth 20000 in
theorem m_M_init : ga_Mi y_M_init b_M_init 2 0 := ⟨⟨ga_tb (i := 551) (by decide +kernel) rfl, ga_tb (i := 7) (by decide +kernel) rfl, ga_tb (i := 552) rfl rfl, rfl⟩, ⟨by decide +kernel, by decide +kernel, by decide +kernel⟩⟩
abbrev b_M_thrown : ByteArray := prog_8_method_2_code
def y_M_thrown : MethodName := ⟨"NetWiresModel", "thrown", "()I"⟩
set_option maxRecDepth 20000 in
theorem m_M_thrown : ga_M y_M_thrown b_M_thrown 1 (some .int) 0 := ⟨⟨ga_tb (i := 641) (by decide +kernel) rfl, ga_tb (i := 642) (by decide +kernel) rfl, ga_tb (i := 7) (by decide +kernel) rfl, ga_tb (i := 643) rfl rfl⟩, ⟨by decide +kernel, by decide +kernel, by decide +kernel⟩⟩
abbrev b_M_feed : ByteArray := prog_8_method_6_code
def y_M_feed : MethodName := ⟨"NetWiresModel", "feed", "(JI)I"⟩
set_option maxRecDepth 20000 in
theorem m_M_feed : ga_M y_M_feed b_M_feed 5 (some .int) 2 := ⟨⟨ga_tb (i := 645) (by decide +kernel) rfl, ga_tb (i := 646) (by decide +kernel) rfl, ga_tb (i := 7) (by decide +kernel) rfl, ga_tb (i := 647) rfl rfl⟩, ⟨by decide +kernel, by decide +kernel, by decide +kernel⟩⟩
abbrev b_M_within : ByteArray := prog_8_method_4_code
def y_M_within : MethodName := ⟨"NetWiresModel", "within", "(III)Z"⟩
set_option maxRecDepth 20000 in
theorem m_M_within : ga_Ms y_M_within b_M_within 3 (some .boolean) 3 := ⟨⟨ga_tb (i := 649) (by decide +kernel) rfl, ga_tb (i := 7) (by decide +kernel) rfl, ga_tb (i := 650) rfl rfl⟩, ⟨by decide +kernel, by decide +kernel, by decide +kernel⟩⟩
abbrev b_M_fail : ByteArray := prog_8_method_3_code
def y_M_fail : MethodName := ⟨"NetWiresModel", "fail", "(I)I"⟩
set_option maxRecDepth 20000 in
theorem m_M_fail : ga_M y_M_fail b_M_fail 2 (some .int) 1 := ⟨⟨ga_tb (i := 653) (by decide +kernel) rfl, ga_sl (i := 10) (by decide +kernel) rfl, ga_tb (i := 7) (by decide +kernel) rfl, ga_tb (i := 654) rfl rfl⟩, ⟨by decide +kernel, by decide +kernel, by decide +kernel⟩⟩
abbrev b_M_alarm : ByteArray := prog_8_method_14_code
def y_M_alarm : MethodName := ⟨"NetWiresModel", "alarm", "(II)Z"⟩
set_option maxRecDepth 20000 in
theorem m_M_alarm : ga_M y_M_alarm b_M_alarm 3 (some .boolean) 2 := ⟨⟨ga_tb (i := 657) (by decide +kernel) rfl, ga_tb (i := 658) (by decide +kernel) rfl, ga_tb (i := 7) (by decide +kernel) rfl, ga_tb (i := 659) rfl rfl⟩, ⟨by decide +kernel, by decide +kernel, by decide +kernel⟩⟩
abbrev b_M_set : ByteArray := prog_8_method_12_code
def y_M_set : MethodName := ⟨"NetWiresModel", "set", "(III)Z"⟩
set_option maxRecDepth 20000 in
theorem m_M_set : ga_M y_M_set b_M_set 5 (some .boolean) 3 := ⟨⟨ga_tb (i := 662) (by decide +kernel) rfl, ga_sl (i := 11) (by decide +kernel) rfl, ga_tb (i := 7) (by decide +kernel) rfl, ga_tb (i := 663) rfl rfl⟩, ⟨by decide +kernel, by decide +kernel, by decide +kernel⟩⟩
abbrev b_M_isEnd : ByteArray := prog_8_method_5_code
def y_M_isEnd : MethodName := ⟨"NetWiresModel", "isEnd", "(I)Z"⟩
set_option maxRecDepth 20000 in
theorem m_M_isEnd : ga_Ms y_M_isEnd b_M_isEnd 1 (some .boolean) 1 := ⟨⟨ga_tb (i := 665) (by decide +kernel) rfl, ga_tb (i := 7) (by decide +kernel) rfl, ga_tb (i := 666) rfl rfl⟩, ⟨by decide +kernel, by decide +kernel, by decide +kernel⟩⟩
abbrev b_M_drop : ByteArray := prog_8_method_11_code
def y_M_drop : MethodName := ⟨"NetWiresModel", "drop", "(II)Z"⟩
set_option maxRecDepth 20000 in
theorem m_M_drop : ga_M y_M_drop b_M_drop 4 (some .boolean) 2 := ⟨⟨ga_tb (i := 670) (by decide +kernel) rfl, ga_sl (i := 12) (by decide +kernel) rfl, ga_tb (i := 7) (by decide +kernel) rfl, ga_tb (i := 671) rfl rfl⟩, ⟨by decide +kernel, by decide +kernel, by decide +kernel⟩⟩
abbrev b_M_find : ByteArray := prog_8_method_10_code
def y_M_find : MethodName := ⟨"NetWiresModel", "find", "(II)I"⟩
set_option maxRecDepth 20000 in
theorem m_M_find : ga_M y_M_find b_M_find 5 (some .int) 2 := ⟨⟨ga_tb (i := 674) (by decide +kernel) rfl, ga_sl (i := 13) (by decide +kernel) rfl, ga_tb (i := 7) (by decide +kernel) rfl, ga_tb (i := 675) rfl rfl⟩, ⟨by decide +kernel, by decide +kernel, by decide +kernel⟩⟩
abbrev b_M_event : ByteArray := prog_8_method_7_code
def y_M_event : MethodName := ⟨"NetWiresModel", "event", "(IIII)I"⟩
set_option maxRecDepth 20000 in
theorem m_M_event : ga_M y_M_event b_M_event 5 (some .int) 4 := ⟨⟨ga_tb (i := 678) (by decide +kernel) rfl, ga_sl (i := 14) (by decide +kernel) rfl, ga_tb (i := 7) (by decide +kernel) rfl, ga_tb (i := 679) rfl rfl⟩, ⟨by decide +kernel, by decide +kernel, by decide +kernel⟩⟩
abbrev b_M_noAlarm : ByteArray := prog_8_method_15_code
def y_M_noAlarm : MethodName := ⟨"NetWiresModel", "noAlarm", "(I)Z"⟩
set_option maxRecDepth 20000 in
theorem m_M_noAlarm : ga_M y_M_noAlarm b_M_noAlarm 2 (some .boolean) 1 := ⟨⟨ga_tb (i := 681) (by decide +kernel) rfl, ga_tb (i := 682) (by decide +kernel) rfl, ga_tb (i := 7) (by decide +kernel) rfl, ga_tb (i := 683) rfl rfl⟩, ⟨by decide +kernel, by decide +kernel, by decide +kernel⟩⟩
abbrev b_M_unset : ByteArray := prog_8_method_13_code
def y_M_unset : MethodName := ⟨"NetWiresModel", "unset", "(II)Z"⟩
set_option maxRecDepth 20000 in
theorem m_M_unset : ga_M y_M_unset b_M_unset 3 (some .boolean) 2 := ⟨⟨ga_tb (i := 686) (by decide +kernel) rfl, ga_sl (i := 15) (by decide +kernel) rfl, ga_tb (i := 7) (by decide +kernel) rfl, ga_tb (i := 687) rfl rfl⟩, ⟨by decide +kernel, by decide +kernel, by decide +kernel⟩⟩
abbrev b_M_sync : ByteArray := prog_8_method_16_code
def y_M_sync : MethodName := ⟨"NetWiresModel", "sync", "(II)Z"⟩
set_option maxRecDepth 20000 in
theorem m_M_sync : ga_M y_M_sync b_M_sync 3 (some .boolean) 2 := ⟨⟨ga_tb (i := 689) (by decide +kernel) rfl, ga_tb (i := 690) (by decide +kernel) rfl, ga_tb (i := 7) (by decide +kernel) rfl, ga_tb (i := 691) rfl rfl⟩, ⟨by decide +kernel, by decide +kernel, by decide +kernel⟩⟩
abbrev b_M_noSync : ByteArray := prog_8_method_17_code
def y_M_noSync : MethodName := ⟨"NetWiresModel", "noSync", "(I)Z"⟩
set_option maxRecDepth 20000 in
theorem m_M_noSync : ga_M y_M_noSync b_M_noSync 2 (some .boolean) 1 := ⟨⟨ga_tb (i := 693) (by decide +kernel) rfl, ga_tb (i := 694) (by decide +kernel) rfl, ga_tb (i := 7) (by decide +kernel) rfl, ga_tb (i := 695) rfl rfl⟩, ⟨by decide +kernel, by decide +kernel, by decide +kernel⟩⟩
abbrev b_M_send : ByteArray := prog_8_method_21_code
def y_M_send : MethodName := ⟨"NetWiresModel", "send", "(II)I"⟩
set_option maxRecDepth 20000 in
theorem m_M_send : ga_M y_M_send b_M_send 10 (some .int) 2 := ⟨⟨ga_tb (i := 697) (by decide +kernel) rfl, ga_tb (i := 698) (by decide +kernel) rfl, ga_tb (i := 7) (by decide +kernel) rfl, ga_tb (i := 699) rfl rfl⟩, ⟨by decide +kernel, by decide +kernel, by decide +kernel⟩⟩
abbrev b_M_areParted : ByteArray := prog_8_method_19_code
def y_M_areParted : MethodName := ⟨"NetWiresModel", "areParted", "(II)Z"⟩
set_option maxRecDepth 20000 in
theorem m_M_areParted : ga_M y_M_areParted b_M_areParted 3 (some .boolean) 2 := ⟨⟨ga_tb (i := 702) (by decide +kernel) rfl, ga_sl (i := 16) (by decide +kernel) rfl, ga_tb (i := 7) (by decide +kernel) rfl, ga_tb (i := 703) rfl rfl⟩, ⟨by decide +kernel, by decide +kernel, by decide +kernel⟩⟩
abbrev b_M_drawn : ByteArray := prog_8_method_18_code
def y_M_drawn : MethodName := ⟨"NetWiresModel", "drawn", "(I)I"⟩
set_option maxRecDepth 20000 in
theorem m_M_drawn : ga_M y_M_drawn b_M_drawn 2 (some .int) 1 := ⟨⟨ga_tb (i := 706) (by decide +kernel) rfl, ga_sl (i := 17) (by decide +kernel) rfl, ga_tb (i := 7) (by decide +kernel) rfl, ga_tb (i := 707) rfl rfl⟩, ⟨by decide +kernel, by decide +kernel, by decide +kernel⟩⟩
abbrev b_M_go : ByteArray := prog_8_method_20_code
def y_M_go : MethodName := ⟨"NetWiresModel", "go", "(IIIII)Z"⟩
set_option maxRecDepth 20000 in
theorem m_M_go : ga_M y_M_go b_M_go 7 (some .boolean) 5 := ⟨⟨ga_tb (i := 712) (by decide +kernel) rfl, ga_sl (i := 18) (by decide +kernel) rfl, ga_tb (i := 7) (by decide +kernel) rfl, ga_tb (i := 713) rfl rfl⟩, ⟨by decide +kernel, by decide +kernel, by decide +kernel⟩⟩
abbrev b_M_meddle : ByteArray := prog_8_method_22_code
def y_M_meddle : MethodName := ⟨"NetWiresModel", "meddle", "(III)Z"⟩
set_option maxRecDepth 20000 in
theorem m_M_meddle : ga_M y_M_meddle b_M_meddle 6 (some .boolean) 3 := ⟨⟨ga_tb (i := 715) (by decide +kernel) rfl, ga_tb (i := 716) (by decide +kernel) rfl, ga_tb (i := 7) (by decide +kernel) rfl, ga_tb (i := 717) rfl rfl⟩, ⟨by decide +kernel, by decide +kernel, by decide +kernel⟩⟩
abbrev b_M_nth : ByteArray := prog_8_method_8_code
def y_M_nth : MethodName := ⟨"NetWiresModel", "nth", "(IZ)I"⟩
set_option maxRecDepth 20000 in
theorem m_M_nth : ga_M y_M_nth b_M_nth 7 (some .int) 2 := ⟨⟨ga_tb (i := 720) (by decide +kernel) rfl, ga_sl (i := 19) (by decide +kernel) rfl, ga_tb (i := 7) (by decide +kernel) rfl, ga_tb (i := 721) rfl rfl⟩, ⟨by decide +kernel, by decide +kernel, by decide +kernel⟩⟩
abbrev b_M_step : ByteArray := prog_8_method_24_code
def y_M_step : MethodName := ⟨"NetWiresModel", "step", "()I"⟩
set_option maxRecDepth 20000 in
theorem m_M_step : ga_M y_M_step b_M_step 2 (some .int) 0 := ⟨⟨ga_tb (i := 723) (by decide +kernel) rfl, ga_tb (i := 724) (by decide +kernel) rfl, ga_tb (i := 7) (by decide +kernel) rfl, ga_tb (i := 725) rfl rfl⟩, ⟨by decide +kernel, by decide +kernel, by decide +kernel⟩⟩
abbrev b_M_least : ByteArray := prog_8_method_9_code
def y_M_least : MethodName := ⟨"NetWiresModel", "least", "()I"⟩
set_option maxRecDepth 20000 in
theorem m_M_least : ga_M y_M_least b_M_least 3 (some .int) 0 := ⟨⟨ga_tb (i := 728) (by decide +kernel) rfl, ga_sl (i := 20) (by decide +kernel) rfl, ga_tb (i := 7) (by decide +kernel) rfl, ga_tb (i := 729) rfl rfl⟩, ⟨by decide +kernel, by decide +kernel, by decide +kernel⟩⟩
abbrev b_M_happen : ByteArray := prog_8_method_23_code
def y_M_happen : MethodName := ⟨"NetWiresModel", "happen", "(I)I"⟩
set_option maxRecDepth 20000 in
theorem m_M_happen : ga_M y_M_happen b_M_happen 4 (some .int) 1 := ⟨⟨ga_tb (i := 732) (by decide +kernel) rfl, ga_sl (i := 21) (by decide +kernel) rfl, ga_tb (i := 7) (by decide +kernel) rfl, ga_tb (i := 733) rfl rfl⟩, ⟨by decide +kernel, by decide +kernel, by decide +kernel⟩⟩
abbrev b_M_run : ByteArray := prog_8_method_25_code
def y_M_run : MethodName := ⟨"NetWiresModel", "run", "(I)I"⟩
set_option maxRecDepth 20000 in
theorem m_M_run : ga_M y_M_run b_M_run 5 (some .int) 1 := ⟨⟨ga_tb (i := 735) (by decide +kernel) rfl, ga_tb (i := 736) (by decide +kernel) rfl, ga_tb (i := 7) (by decide +kernel) rfl, ga_tb (i := 737) rfl rfl⟩, ⟨by decide +kernel, by decide +kernel, by decide +kernel⟩⟩
abbrev b_M_delay : ByteArray := prog_8_method_26_code
def y_M_delay : MethodName := ⟨"NetWiresModel", "delay", "(III)I"⟩
set_option maxRecDepth 20000 in
theorem m_M_delay : ga_M y_M_delay b_M_delay 5 (some .int) 3 := ⟨⟨ga_tb (i := 739) (by decide +kernel) rfl, ga_tb (i := 740) (by decide +kernel) rfl, ga_tb (i := 7) (by decide +kernel) rfl, ga_tb (i := 741) rfl rfl⟩, ⟨by decide +kernel, by decide +kernel, by decide +kernel⟩⟩
abbrev b_M_part : ByteArray := prog_8_method_27_code
def y_M_part : MethodName := ⟨"NetWiresModel", "part", "(I)I"⟩
set_option maxRecDepth 20000 in
theorem m_M_part : ga_M y_M_part b_M_part 3 (some .int) 1 := ⟨⟨ga_tb (i := 743) (by decide +kernel) rfl, ga_tb (i := 744) (by decide +kernel) rfl, ga_tb (i := 7) (by decide +kernel) rfl, ga_tb (i := 745) rfl rfl⟩, ⟨by decide +kernel, by decide +kernel, by decide +kernel⟩⟩
abbrev b_M_down : ByteArray := prog_8_method_28_code
def y_M_down : MethodName := ⟨"NetWiresModel", "down", "(I)I"⟩
set_option maxRecDepth 20000 in
theorem m_M_down : ga_M y_M_down b_M_down 3 (some .int) 1 := ⟨⟨ga_tb (i := 748) (by decide +kernel) rfl, ga_tb (i := 749) (by decide +kernel) rfl, ga_tb (i := 7) (by decide +kernel) rfl, ga_tb (i := 750) rfl rfl⟩, ⟨by decide +kernel, by decide +kernel, by decide +kernel⟩⟩
abbrev b_M_noise : ByteArray := prog_8_method_29_code
def y_M_noise : MethodName := ⟨"NetWiresModel", "noise", "(IIIJ)V"⟩
set_option maxRecDepth 20000 in
theorem m_M_noise : ga_M y_M_noise b_M_noise 6 none 4 := ⟨⟨ga_tb (i := 752) (by decide +kernel) rfl, ga_tb (i := 753) (by decide +kernel) rfl, ga_tb (i := 7) (by decide +kernel) rfl, ga_tb (i := 754) rfl rfl⟩, ⟨by decide +kernel, by decide +kernel, by decide +kernel⟩⟩
abbrev b_M_message : ByteArray := prog_8_method_30_code
def y_M_message : MethodName := ⟨"NetWiresModel", "message", "(II)I"⟩
set_option maxRecDepth 20000 in
theorem m_M_message : ga_M y_M_message b_M_message 4 (some .int) 2 := ⟨⟨ga_tb (i := 756) (by decide +kernel) rfl, ga_tb (i := 757) (by decide +kernel) rfl, ga_tb (i := 7) (by decide +kernel) rfl, ga_tb (i := 758) rfl rfl⟩, ⟨by decide +kernel, by decide +kernel, by decide +kernel⟩⟩
abbrev b_M_messageAt : ByteArray := prog_8_method_31_code
def y_M_messageAt : MethodName := ⟨"NetWiresModel", "messageAt", "(II)I"⟩
set_option maxRecDepth 20000 in
theorem m_M_messageAt : ga_M y_M_messageAt b_M_messageAt 4 (some .int) 2 := ⟨⟨ga_tb (i := 760) (by decide +kernel) rfl, ga_tb (i := 761) (by decide +kernel) rfl, ga_tb (i := 7) (by decide +kernel) rfl, ga_tb (i := 762) rfl rfl⟩, ⟨by decide +kernel, by decide +kernel, by decide +kernel⟩⟩
abbrev b_M_happened : ByteArray := prog_8_method_32_code
def y_M_happened : MethodName := ⟨"NetWiresModel", "happened", "(II)I"⟩
set_option maxRecDepth 20000 in
theorem m_M_happened : ga_M y_M_happened b_M_happened 5 (some .int) 2 := ⟨⟨ga_tb (i := 764) (by decide +kernel) rfl, ga_tb (i := 765) (by decide +kernel) rfl, ga_tb (i := 7) (by decide +kernel) rfl, ga_tb (i := 766) rfl rfl⟩, ⟨by decide +kernel, by decide +kernel, by decide +kernel⟩⟩
abbrev b_M_byteAt : ByteArray := prog_8_method_33_code
def y_M_byteAt : MethodName := ⟨"NetWiresModel", "byteAt", "(I)I"⟩
set_option maxRecDepth 20000 in
theorem m_M_byteAt : ga_M y_M_byteAt b_M_byteAt 2 (some .int) 1 := ⟨⟨ga_tb (i := 768) (by decide +kernel) rfl, ga_tb (i := 769) (by decide +kernel) rfl, ga_tb (i := 7) (by decide +kernel) rfl, ga_tb (i := 770) rfl rfl⟩, ⟨by decide +kernel, by decide +kernel, by decide +kernel⟩⟩
abbrev b_M_when : ByteArray := prog_8_method_34_code
def y_M_when : MethodName := ⟨"NetWiresModel", "when", "(II)I"⟩
set_option maxRecDepth 20000 in
theorem m_M_when : ga_M y_M_when b_M_when 4 (some .int) 2 := ⟨⟨ga_tb (i := 772) (by decide +kernel) rfl, ga_tb (i := 773) (by decide +kernel) rfl, ga_tb (i := 7) (by decide +kernel) rfl, ga_tb (i := 774) rfl rfl⟩, ⟨by decide +kernel, by decide +kernel, by decide +kernel⟩⟩
abbrev b_M_count : ByteArray := prog_8_method_35_code
def y_M_count : MethodName := ⟨"NetWiresModel", "count", "(I)I"⟩
set_option maxRecDepth 20000 in
theorem m_M_count : ga_M y_M_count b_M_count 2 (some .int) 1 := ⟨⟨ga_tb (i := 776) (by decide +kernel) rfl, ga_tb (i := 777) (by decide +kernel) rfl, ga_tb (i := 7) (by decide +kernel) rfl, ga_tb (i := 778) rfl rfl⟩, ⟨by decide +kernel, by decide +kernel, by decide +kernel⟩⟩
theorem kl_L_8 : Cond.classLink "NetWiresLaw" 8 "NetWires" ∈ ga_T := ga_tb (i := 17) (by decide +kernel) rfl
theorem ml_L_68 : Cond.methodLink "NetWiresLaw" 68 y_NetWires_init ∈ ga_T := ga_tb (i := 19) (by decide +kernel) rfl
theorem ml_NetWires_3 : Cond.methodLink "NetWires" 3 objectInit ∈ ga_T := ga_tb (i := 22) (by decide +kernel) rfl
theorem kl_NetWires_9 : Cond.classLink "NetWires" 9 "NetWires$Tape" ∈ ga_T := ga_tb (i := 25) (by decide +kernel) rfl
theorem ml_NetWires_11 : Cond.methodLink "NetWires" 11 y_Tape_init ∈ ga_T := ga_tb (i := 27) (by decide +kernel) rfl
theorem ml_Tape_3 : Cond.methodLink "NetWires$Tape" 3 objectInit ∈ ga_T := ga_tb (i := 30) (by decide +kernel) rfl
theorem fl_Tape_9 : Cond.fieldLink "NetWires$Tape" 9 "NetWires$Tape" "bytes" "[B" ∈ ga_T := ga_tb (i := 31) (by decide +kernel) rfl
theorem fl_Tape_15 : Cond.fieldLink "NetWires$Tape" 15 "NetWires$Tape" "length" "I" ∈ ga_T := ga_tb (i := 32) (by decide +kernel) rfl
theorem fl_NetWires_93 : Cond.fieldLink "NetWires" 93 "NetWires$Tape" "length" "I" ∈ ga_T := ga_tb (i := 33) (by decide +kernel) rfl
theorem kl_NetWires_16 : Cond.classLink "NetWires" 16 "NetWires$Agenda" ∈ ga_T := ga_tb (i := 40) (by decide +kernel) rfl
theorem ml_NetWires_18 : Cond.methodLink "NetWires" 18 y_Agenda_init ∈ ga_T := ga_tb (i := 42) (by decide +kernel) rfl
theorem ml_Agenda_3 : Cond.methodLink "NetWires$Agenda" 3 objectInit ∈ ga_T := ga_tb (i := 45) (by decide +kernel) rfl
theorem kl_Agenda_9 : Cond.classLink "NetWires$Agenda" 9 "NetWires$Event" ∈ ga_T := ga_tb (i := 46) (by decide +kernel) rfl
theorem fl_Agenda_11 : Cond.fieldLink "NetWires$Agenda" 11 "NetWires$Agenda" "events" "[LNetWires$Event;" ∈ ga_T := ga_tb (i := 48) (by decide +kernel) rfl
theorem fl_Agenda_17 : Cond.fieldLink "NetWires$Agenda" 17 "NetWires$Agenda" "size" "I" ∈ ga_T := ga_tb (i := 49) (by decide +kernel) rfl
theorem fl_Agenda_21 : Cond.fieldLink "NetWires$Agenda" 21 "NetWires$Agenda" "messages" "I" ∈ ga_T := ga_tb (i := 50) (by decide +kernel) rfl
theorem fl_NetWires_206 : Cond.fieldLink "NetWires" 206 "NetWires$Agenda" "messages" "I" ∈ ga_T := ga_tb (i := 51) (by decide +kernel) rfl
theorem kl_NetWires_23 : Cond.classLink "NetWires" 23 "NetWires$History" ∈ ga_T := ga_tb (i := 59) (by decide +kernel) rfl
theorem ml_NetWires_25 : Cond.methodLink "NetWires" 25 y_History_init ∈ ga_T := ga_tb (i := 61) (by decide +kernel) rfl
theorem ml_History_3 : Cond.methodLink "NetWires$History" 3 objectInit ∈ ga_T := ga_tb (i := 64) (by decide +kernel) rfl
theorem fl_History_9 : Cond.fieldLink "NetWires$History" 9 "NetWires$History" "facts" "[I" ∈ ga_T := ga_tb (i := 65) (by decide +kernel) rfl
theorem fl_History_15 : Cond.fieldLink "NetWires$History" 15 "NetWires$History" "newest" "I" ∈ ga_T := ga_tb (i := 66) (by decide +kernel) rfl
theorem fl_History_19 : Cond.fieldLink "NetWires$History" 19 "NetWires$History" "kept" "I" ∈ ga_T := ga_tb (i := 67) (by decide +kernel) rfl
theorem fl_History_22 : Cond.fieldLink "NetWires$History" 22 "NetWires$History" "total" "I" ∈ ga_T := ga_tb (i := 68) (by decide +kernel) rfl
theorem fl_NetWires_209 : Cond.fieldLink "NetWires" 209 "NetWires$History" "total" "I" ∈ ga_T := ga_tb (i := 69) (by decide +kernel) rfl
theorem kl_NetWires_30 : Cond.classLink "NetWires" 30 "NetWires$Noise" ∈ ga_T := ga_tb (i := 80) (by decide +kernel) rfl
theorem ml_NetWires_32 : Cond.methodLink "NetWires" 32 y_Noise_init ∈ ga_T := ga_tb (i := 82) (by decide +kernel) rfl
theorem ml_Noise_1 : Cond.methodLink "NetWires$Noise" 1 objectInit ∈ ga_T := ga_tb (i := 85) (by decide +kernel) rfl
theorem fl_Noise_7 : Cond.fieldLink "NetWires$Noise" 7 "NetWires$Noise" "loss" "I" ∈ ga_T := ga_tb (i := 86) (by decide +kernel) rfl
theorem fl_NetWires_225 : Cond.fieldLink "NetWires" 225 "NetWires$Noise" "loss" "I" ∈ ga_T := ga_tb (i := 87) (by decide +kernel) rfl
theorem fl_Noise_13 : Cond.fieldLink "NetWires$Noise" 13 "NetWires$Noise" "twice" "I" ∈ ga_T := ga_tb (i := 88) (by decide +kernel) rfl
theorem fl_NetWires_228 : Cond.fieldLink "NetWires" 228 "NetWires$Noise" "twice" "I" ∈ ga_T := ga_tb (i := 89) (by decide +kernel) rfl
theorem fl_Noise_16 : Cond.fieldLink "NetWires$Noise" 16 "NetWires$Noise" "spread" "I" ∈ ga_T := ga_tb (i := 90) (by decide +kernel) rfl
theorem fl_NetWires_231 : Cond.fieldLink "NetWires" 231 "NetWires$Noise" "spread" "I" ∈ ga_T := ga_tb (i := 91) (by decide +kernel) rfl
theorem fl_Noise_19 : Cond.fieldLink "NetWires$Noise" 19 "NetWires$Noise" "draw" "J" ∈ ga_T := ga_tb (i := 92) (by decide +kernel) rfl
theorem ml_NetWires_41 : Cond.methodLink "NetWires" 41 y_J_fill ∈ ga_T := ga_tb (i := 102) (by decide +kernel) rfl
theorem fl_NetWires_66 : Cond.fieldLink "NetWires" 66 "NetWires" "NO_BYTES" "[B" ∈ ga_T := ga_tb (i := 105) (by decide +kernel) rfl
theorem fl_NetWires_12 : Cond.fieldLink "NetWires" 12 "NetWires" "tape" "LNetWires$Tape;" ∈ ga_T := ga_tb (i := 107) (by decide +kernel) rfl
theorem fl_NetWires_19 : Cond.fieldLink "NetWires" 19 "NetWires" "agenda" "LNetWires$Agenda;" ∈ ga_T := ga_tb (i := 108) (by decide +kernel) rfl
theorem fl_NetWires_26 : Cond.fieldLink "NetWires" 26 "NetWires" "history" "LNetWires$History;" ∈ ga_T := ga_tb (i := 109) (by decide +kernel) rfl
theorem fl_NetWires_33 : Cond.fieldLink "NetWires" 33 "NetWires" "disturbance" "LNetWires$Noise;" ∈ ga_T := ga_tb (i := 110) (by decide +kernel) rfl
theorem fl_NetWires_37 : Cond.fieldLink "NetWires" 37 "NetWires" "delays" "[I" ∈ ga_T := ga_tb (i := 111) (by decide +kernel) rfl
theorem fl_NetWires_47 : Cond.fieldLink "NetWires" 47 "NetWires" "now" "I" ∈ ga_T := ga_tb (i := 112) (by decide +kernel) rfl
theorem fl_NetWires_51 : Cond.fieldLink "NetWires" 51 "NetWires" "nextNumber" "I" ∈ ga_T := ga_tb (i := 113) (by decide +kernel) rfl
theorem fl_NetWires_54 : Cond.fieldLink "NetWires" 54 "NetWires" "partedSet" "I" ∈ ga_T := ga_tb (i := 114) (by decide +kernel) rfl
theorem fl_NetWires_57 : Cond.fieldLink "NetWires" 57 "NetWires" "downSet" "I" ∈ ga_T := ga_tb (i := 115) (by decide +kernel) rfl
theorem fl_NetWires_60 : Cond.fieldLink "NetWires" 60 "NetWires" "everOnWay" "I" ∈ ga_T := ga_tb (i := 116) (by decide +kernel) rfl
theorem fl_NetWires_63 : Cond.fieldLink "NetWires" 63 "NetWires" "lost" "I" ∈ ga_T := ga_tb (i := 117) (by decide +kernel) rfl
theorem fl_NetWires_70 : Cond.fieldLink "NetWires" 70 "NetWires" "arrivedBytes" "[B" ∈ ga_T := ga_tb (i := 118) (by decide +kernel) rfl
theorem ml_L_101 : Cond.methodLink "NetWiresLaw" 101 y_NetWires_step ∈ ga_T := ga_tb (i := 144) (by decide +kernel) rfl
theorem ml_NetWires_132 : Cond.methodLink "NetWires" 132 y_Agenda_takeAt ∈ ga_T := ga_tb (i := 148) (by decide +kernel) rfl
theorem ml_Agenda_34 : Cond.methodLink "NetWires$Agenda" 34 y_Agenda_at ∈ ga_T := ga_tb (i := 152) (by decide +kernel) rfl
theorem ml_NetWires_136 : Cond.methodLink "NetWires" 136 y_NetWires_letHappen ∈ ga_T := ga_tb (i := 156) (by decide +kernel) rfl
theorem ml_NetWires_248 : Cond.methodLink "NetWires" 248 y_NetWires_receive ∈ ga_T := ga_tb (i := 160) (by decide +kernel) rfl
theorem ml_NetWires_104 : Cond.methodLink "NetWires" 104 y_NetWires_areParted ∈ ga_T := ga_tb (i := 164) (by decide +kernel) rfl
theorem ml_NetWires_219 : Cond.methodLink "NetWires" 219 y_NetWires_isIn ∈ ga_T := ga_tb (i := 168) (by decide +kernel) rfl
theorem ml_NetWires_251 : Cond.methodLink "NetWires" 251 y_History_remember ∈ ga_T := ga_tb (i := 171) (by decide +kernel) rfl
theorem ml_L_125 : Cond.methodLink "NetWiresLaw" 125 y_NetWires_message ∈ ga_T := ga_tb (i := 175) (by decide +kernel) rfl
theorem ml_NetWires_171 : Cond.methodLink "NetWires" 171 y_Agenda_placeOfMessage ∈ ga_T := ga_tb (i := 179) (by decide +kernel) rfl
theorem ml_NetWires_145 : Cond.methodLink "NetWires" 145 y_Agenda_at ∈ ga_T := ga_tb (i := 183) (by decide +kernel) rfl
theorem ml_L_132 : Cond.methodLink "NetWiresLaw" 132 y_NetWires_happened ∈ ga_T := ga_tb (i := 184) (by decide +kernel) rfl
theorem ml_NetWires_198 : Cond.methodLink "NetWires" 198 y_History_fact ∈ ga_T := ga_tb (i := 188) (by decide +kernel) rfl
theorem ml_L_142 : Cond.methodLink "NetWiresLaw" 142 y_NetWires_count ∈ ga_T := ga_tb (i := 192) (by decide +kernel) rfl
theorem ml_L_74 : Cond.methodLink "NetWiresLaw" 74 y_L_feed ∈ ga_T := ga_tb (i := 196) (by decide +kernel) rfl
theorem kl_L_13 : Cond.classLink "NetWiresLaw" 13 "java/lang/IllegalArgumentException" ∈ ga_T := ga_tb (i := 199) (by decide +kernel) rfl
theorem kl_L_15 : Cond.classLink "NetWiresLaw" 15 "java/lang/IllegalStateException" ∈ ga_T := ga_tb (i := 200) (by decide +kernel) rfl
theorem ml_L_7 : Cond.methodLink "NetWiresLaw" 7 y_NetWires_feed ∈ ga_T := ga_tb (i := 201) (by decide +kernel) rfl
theorem kl_NetWires_73 : Cond.classLink "NetWires" 73 "java/lang/IllegalArgumentException" ∈ ga_T := ga_tb (i := 205) (by decide +kernel) rfl
theorem ml_NetWires_77 : Cond.methodLink "NetWires" 77 ⟨"java/lang/IllegalArgumentException", "<init>", "(Ljava/lang/String;)V"⟩ ∈ ga_T := ga_tb (i := 247) (by decide +kernel) rfl
theorem ml_NetWires_80 : Cond.methodLink "NetWires" 80 y_Tape_hasRoomFor ∈ ga_T := ga_tb (i := 272) (by decide +kernel) rfl
theorem kl_NetWires_84 : Cond.classLink "NetWires" 84 "java/lang/IllegalStateException" ∈ ga_T := ga_tb (i := 276) (by decide +kernel) rfl
theorem ml_NetWires_88 : Cond.methodLink "NetWires" 88 ⟨"java/lang/IllegalStateException", "<init>", "(Ljava/lang/String;)V"⟩ ∈ ga_T := ga_tb (i := 286) (by decide +kernel) rfl
theorem ml_NetWires_89 : Cond.methodLink "NetWires" 89 y_Tape_append ∈ ga_T := ga_tb (i := 292) (by decide +kernel) rfl
theorem ml_Tape_19 : Cond.methodLink "NetWires$Tape" 19 y_Tape_hasRoomFor ∈ ga_T := ga_tb (i := 296) (by decide +kernel) rfl
theorem ml_L_84 : Cond.methodLink "NetWiresLaw" 84 y_L_send ∈ ga_T := ga_tb (i := 297) (by decide +kernel) rfl
theorem kl_L_21 : Cond.classLink "NetWiresLaw" 21 "java/lang/IndexOutOfBoundsException" ∈ ga_T := ga_tb (i := 300) (by decide +kernel) rfl
theorem ml_L_17 : Cond.methodLink "NetWiresLaw" 17 y_NetWires_send ∈ ga_T := ga_tb (i := 301) (by decide +kernel) rfl
theorem ml_NetWires_96 : Cond.methodLink "NetWires" 96 y_Tape_takeAll ∈ ga_T := ga_tb (i := 305) (by decide +kernel) rfl
theorem ml_Tape_26 : Cond.methodLink "NetWires$Tape" 26 y_J_copyOf ∈ ga_T := ga_tb (i := 310) (by decide +kernel) rfl
theorem ml_J_310 : Cond.methodLink "java/util/Arrays" 310 ⟨"[B", "clone", "()Ljava/lang/Object;"⟩ ∈ ga_T := ga_tb (i := 313) (by decide +kernel) rfl
theorem kl_J_311 : Cond.classLink "java/util/Arrays" 311 "[B" ∈ ga_T := ga_tb (i := 319) (by decide +kernel) rfl
theorem ml_J_304 : Cond.methodLink "java/util/Arrays" 304 ⟨"java/lang/Math", "min", "(II)I"⟩ ∈ ga_T := ga_tb (i := 320) (by decide +kernel) rfl
theorem ml_J_150 : Cond.methodLink "java/util/Arrays" 150 ⟨"java/lang/System", "arraycopy", "(Ljava/lang/Object;ILjava/lang/Object;II)V"⟩ ∈ ga_T := ga_tb (i := 323) (by decide +kernel) rfl
theorem ml_NetWires_100 : Cond.methodLink "NetWires" 100 y_NetWires_demandEndpoint ∈ ga_T := ga_tb (i := 326) (by decide +kernel) rfl
theorem ml_NetWires_140 : Cond.methodLink "NetWires" 140 y_NetWires_isWithin ∈ ga_T := ga_tb (i := 329) (by decide +kernel) rfl
theorem kl_NetWires_191 : Cond.classLink "NetWires" 191 "java/lang/IndexOutOfBoundsException" ∈ ga_T := ga_tb (i := 332) (by decide +kernel) rfl
theorem ml_NetWires_195 : Cond.methodLink "NetWires" 195 ⟨"java/lang/IndexOutOfBoundsException", "<init>", "(Ljava/lang/String;)V"⟩ ∈ ga_T := ga_tb (i := 342) (by decide +kernel) rfl
theorem ml_NetWires_108 : Cond.methodLink "NetWires" 108 y_Noise_isOn ∈ ga_T := ga_tb (i := 348) (by decide +kernel) rfl
theorem ml_NetWires_112 : Cond.methodLink "NetWires" 112 y_NetWires_launchThroughNoise ∈ ga_T := ga_tb (i := 352) (by decide +kernel) rfl
theorem ml_NetWires_222 : Cond.methodLink "NetWires" 222 y_Noise_drawBelow ∈ ga_T := ga_tb (i := 356) (by decide +kernel) rfl
theorem kc_Noise_23 : Cond.constantLong "NetWires$Noise" 23 6364136223846793005 ∈ ga_T := ga_tb (i := 360) (by decide +kernel) rfl
theorem kc_Noise_25 : Cond.constantLong "NetWires$Noise" 25 1442695040888963407 ∈ ga_T := ga_tb (i := 361) (by decide +kernel) rfl
theorem ml_NetWires_116 : Cond.methodLink "NetWires" 116 y_NetWires_launch ∈ ga_T := ga_tb (i := 362) (by decide +kernel) rfl
theorem ml_NetWires_153 : Cond.methodLink "NetWires" 153 y_NetWires_linkOf ∈ ga_T := ga_tb (i := 366) (by decide +kernel) rfl
theorem ml_NetWires_184 : Cond.methodLink "NetWires" 184 y_NetWires_addMessage ∈ ga_T := ga_tb (i := 369) (by decide +kernel) rfl
theorem kl_NetWires_149 : Cond.classLink "NetWires" 149 "NetWires$Event" ∈ ga_T := ga_tb (i := 373) (by decide +kernel) rfl
theorem ml_NetWires_234 : Cond.methodLink "NetWires" 234 y_NetWires_takeNumber ∈ ga_T := ga_tb (i := 375) (by decide +kernel) rfl
theorem ml_NetWires_238 : Cond.methodLink "NetWires" 238 y_Event_init ∈ ga_T := ga_tb (i := 379) (by decide +kernel) rfl
theorem ml_Event_1 : Cond.methodLink "NetWires$Event" 1 objectInit ∈ ga_T := ga_tb (i := 382) (by decide +kernel) rfl
theorem fl_Event_7 : Cond.fieldLink "NetWires$Event" 7 "NetWires$Event" "kind" "I" ∈ ga_T := ga_tb (i := 383) (by decide +kernel) rfl
theorem fl_Agenda_31 : Cond.fieldLink "NetWires$Agenda" 31 "NetWires$Event" "kind" "I" ∈ ga_T := ga_tb (i := 384) (by decide +kernel) rfl
theorem fl_NetWires_245 : Cond.fieldLink "NetWires" 245 "NetWires$Event" "kind" "I" ∈ ga_T := ga_tb (i := 385) (by decide +kernel) rfl
theorem fl_Event_13 : Cond.fieldLink "NetWires$Event" 13 "NetWires$Event" "endpoint" "I" ∈ ga_T := ga_tb (i := 386) (by decide +kernel) rfl
theorem fl_Agenda_38 : Cond.fieldLink "NetWires$Agenda" 38 "NetWires$Event" "endpoint" "I" ∈ ga_T := ga_tb (i := 387) (by decide +kernel) rfl
theorem fl_NetWires_178 : Cond.fieldLink "NetWires" 178 "NetWires$Event" "endpoint" "I" ∈ ga_T := ga_tb (i := 388) (by decide +kernel) rfl
theorem fl_Event_16 : Cond.fieldLink "NetWires$Event" 16 "NetWires$Event" "from" "I" ∈ ga_T := ga_tb (i := 389) (by decide +kernel) rfl
theorem fl_History_33 : Cond.fieldLink "NetWires$History" 33 "NetWires$Event" "from" "I" ∈ ga_T := ga_tb (i := 390) (by decide +kernel) rfl
theorem fl_NetWires_175 : Cond.fieldLink "NetWires" 175 "NetWires$Event" "from" "I" ∈ ga_T := ga_tb (i := 391) (by decide +kernel) rfl
theorem fl_Event_19 : Cond.fieldLink "NetWires$Event" 19 "NetWires$Event" "time" "I" ∈ ga_T := ga_tb (i := 392) (by decide +kernel) rfl
theorem fl_History_25 : Cond.fieldLink "NetWires$History" 25 "NetWires$Event" "time" "I" ∈ ga_T := ga_tb (i := 393) (by decide +kernel) rfl
theorem fl_Agenda_24 : Cond.fieldLink "NetWires$Agenda" 24 "NetWires$Event" "time" "I" ∈ ga_T := ga_tb (i := 394) (by decide +kernel) rfl
theorem fl_NetWires_148 : Cond.fieldLink "NetWires" 148 "NetWires$Event" "time" "I" ∈ ga_T := ga_tb (i := 395) (by decide +kernel) rfl
theorem fl_Event_22 : Cond.fieldLink "NetWires$Event" 22 "NetWires$Event" "number" "I" ∈ ga_T := ga_tb (i := 396) (by decide +kernel) rfl
theorem fl_History_30 : Cond.fieldLink "NetWires$History" 30 "NetWires$Event" "number" "I" ∈ ga_T := ga_tb (i := 397) (by decide +kernel) rfl
theorem fl_NetWires_188 : Cond.fieldLink "NetWires" 188 "NetWires$Event" "number" "I" ∈ ga_T := ga_tb (i := 398) (by decide +kernel) rfl
theorem fl_Event_25 : Cond.fieldLink "NetWires$Event" 25 "NetWires$Event" "bytes" "[B" ∈ ga_T := ga_tb (i := 399) (by decide +kernel) rfl
theorem fl_NetWires_181 : Cond.fieldLink "NetWires" 181 "NetWires$Event" "bytes" "[B" ∈ ga_T := ga_tb (i := 400) (by decide +kernel) rfl
theorem ml_NetWires_241 : Cond.methodLink "NetWires" 241 y_Agenda_insert ∈ ga_T := ga_tb (i := 414) (by decide +kernel) rfl
theorem ml_Agenda_27 : Cond.methodLink "NetWires$Agenda" 27 y_Agenda_isAfter ∈ ga_T := ga_tb (i := 418) (by decide +kernel) rfl
theorem ml_L_88 : Cond.methodLink "NetWiresLaw" 88 y_L_alarm ∈ ga_T := ga_tb (i := 422) (by decide +kernel) rfl
theorem ml_L_23 : Cond.methodLink "NetWiresLaw" 23 y_NetWires_alarm ∈ ga_T := ga_tb (i := 425) (by decide +kernel) rfl
theorem kc_NetWires_120 : Cond.constant "NetWires" 120 100000 ∈ ga_T := ga_tb (i := 429) (by decide +kernel) rfl
theorem ml_NetWires_121 : Cond.methodLink "NetWires" 121 y_NetWires_demandTicks ∈ ga_T := ga_tb (i := 430) (by decide +kernel) rfl
theorem ml_NetWires_125 : Cond.methodLink "NetWires" 125 y_NetWires_setTimer ∈ ga_T := ga_tb (i := 434) (by decide +kernel) rfl
theorem ml_NetWires_129 : Cond.methodLink "NetWires" 129 y_NetWires_dropTimer ∈ ga_T := ga_tb (i := 438) (by decide +kernel) rfl
theorem ml_NetWires_203 : Cond.methodLink "NetWires" 203 y_Agenda_placeOfTimer ∈ ga_T := ga_tb (i := 442) (by decide +kernel) rfl
theorem ml_L_91 : Cond.methodLink "NetWiresLaw" 91 y_L_noAlarm ∈ ga_T := ga_tb (i := 446) (by decide +kernel) rfl
theorem ml_L_27 : Cond.methodLink "NetWiresLaw" 27 y_NetWires_noAlarm ∈ ga_T := ga_tb (i := 449) (by decide +kernel) rfl
theorem ml_L_95 : Cond.methodLink "NetWiresLaw" 95 y_L_sync ∈ ga_T := ga_tb (i := 453) (by decide +kernel) rfl
theorem ml_L_31 : Cond.methodLink "NetWiresLaw" 31 y_NetWires_sync ∈ ga_T := ga_tb (i := 456) (by decide +kernel) rfl
theorem ml_L_98 : Cond.methodLink "NetWiresLaw" 98 y_L_noSync ∈ ga_T := ga_tb (i := 460) (by decide +kernel) rfl
theorem ml_L_34 : Cond.methodLink "NetWiresLaw" 34 y_NetWires_noSync ∈ ga_T := ga_tb (i := 463) (by decide +kernel) rfl
theorem ml_L_105 : Cond.methodLink "NetWiresLaw" 105 y_L_run ∈ ga_T := ga_tb (i := 467) (by decide +kernel) rfl
theorem ml_L_37 : Cond.methodLink "NetWiresLaw" 37 y_NetWires_run ∈ ga_T := ga_tb (i := 470) (by decide +kernel) rfl
theorem ml_L_108 : Cond.methodLink "NetWiresLaw" 108 y_L_delay ∈ ga_T := ga_tb (i := 475) (by decide +kernel) rfl
theorem ml_L_41 : Cond.methodLink "NetWiresLaw" 41 y_NetWires_delay ∈ ga_T := ga_tb (i := 478) (by decide +kernel) rfl
theorem ml_L_112 : Cond.methodLink "NetWiresLaw" 112 y_L_part ∈ ga_T := ga_tb (i := 482) (by decide +kernel) rfl
theorem ml_L_45 : Cond.methodLink "NetWiresLaw" 45 y_NetWires_part ∈ ga_T := ga_tb (i := 485) (by decide +kernel) rfl
theorem ml_NetWires_157 : Cond.methodLink "NetWires" 157 y_NetWires_demandSet ∈ ga_T := ga_tb (i := 489) (by decide +kernel) rfl
theorem kc_NetWires_216 : Cond.constant "NetWires" 216 65535 ∈ ga_T := ga_tb (i := 492) (by decide +kernel) rfl
theorem ml_L_115 : Cond.methodLink "NetWiresLaw" 115 y_L_down ∈ ga_T := ga_tb (i := 494) (by decide +kernel) rfl
theorem ml_L_48 : Cond.methodLink "NetWiresLaw" 48 y_NetWires_down ∈ ga_T := ga_tb (i := 497) (by decide +kernel) rfl
theorem ml_L_118 : Cond.methodLink "NetWiresLaw" 118 y_L_noise ∈ ga_T := ga_tb (i := 501) (by decide +kernel) rfl
theorem ml_L_51 : Cond.methodLink "NetWiresLaw" 51 y_NetWires_noise ∈ ga_T := ga_tb (i := 504) (by decide +kernel) rfl
theorem ml_NetWires_162 : Cond.methodLink "NetWires" 162 y_Noise_set ∈ ga_T := ga_tb (i := 509) (by decide +kernel) rfl
theorem ml_L_122 : Cond.methodLink "NetWiresLaw" 122 y_L_meddle ∈ ga_T := ga_tb (i := 513) (by decide +kernel) rfl
theorem ml_L_55 : Cond.methodLink "NetWiresLaw" 55 y_NetWires_meddle ∈ ga_T := ga_tb (i := 516) (by decide +kernel) rfl
theorem ml_NetWires_166 : Cond.methodLink "NetWires" 166 y_NetWires_canMeddle ∈ ga_T := ga_tb (i := 520) (by decide +kernel) rfl
theorem ml_L_129 : Cond.methodLink "NetWiresLaw" 129 y_L_messageAt ∈ ga_T := ga_tb (i := 524) (by decide +kernel) rfl
theorem ml_L_59 : Cond.methodLink "NetWiresLaw" 59 y_NetWires_messageAt ∈ ga_T := ga_tb (i := 527) (by decide +kernel) rfl
theorem ml_L_136 : Cond.methodLink "NetWiresLaw" 136 y_L_byteAt ∈ ga_T := ga_tb (i := 533) (by decide +kernel) rfl
theorem ml_L_62 : Cond.methodLink "NetWiresLaw" 62 y_NetWires_byteAt ∈ ga_T := ga_tb (i := 536) (by decide +kernel) rfl
theorem ml_L_139 : Cond.methodLink "NetWiresLaw" 139 y_L_when ∈ ga_T := ga_tb (i := 540) (by decide +kernel) rfl
theorem ml_L_65 : Cond.methodLink "NetWiresLaw" 65 y_NetWires_when ∈ ga_T := ga_tb (i := 543) (by decide +kernel) rfl
theorem kl_L_69 : Cond.classLink "NetWiresLaw" 69 "NetWiresModel" ∈ ga_T := ga_tb (i := 548) (by decide +kernel) rfl
theorem ml_L_71 : Cond.methodLink "NetWiresLaw" 71 y_M_init ∈ ga_T := ga_tb (i := 550) (by decide +kernel) rfl
theorem ml_M_1 : Cond.methodLink "NetWiresModel" 1 objectInit ∈ ga_T := ga_tb (i := 553) (by decide +kernel) rfl
theorem fl_M_51 : Cond.fieldLink "NetWiresModel" 51 "NetWiresModel" "thrown" "I" ∈ ga_T := ga_tb (i := 554) (by decide +kernel) rfl
theorem fl_M_83 : Cond.fieldLink "NetWiresModel" 83 "NetWiresModel" "now" "I" ∈ ga_T := ga_tb (i := 555) (by decide +kernel) rfl
theorem fl_M_67 : Cond.fieldLink "NetWiresModel" 67 "NetWiresModel" "made" "I" ∈ ga_T := ga_tb (i := 556) (by decide +kernel) rfl
theorem fl_M_7 : Cond.fieldLink "NetWiresModel" 7 "NetWiresModel" "times" "[I" ∈ ga_T := ga_tb (i := 557) (by decide +kernel) rfl
theorem fl_M_13 : Cond.fieldLink "NetWiresModel" 13 "NetWiresModel" "sorts" "[I" ∈ ga_T := ga_tb (i := 558) (by decide +kernel) rfl
theorem fl_M_16 : Cond.fieldLink "NetWiresModel" 16 "NetWiresModel" "whose" "[I" ∈ ga_T := ga_tb (i := 559) (by decide +kernel) rfl
theorem fl_M_19 : Cond.fieldLink "NetWiresModel" 19 "NetWiresModel" "froms" "[I" ∈ ga_T := ga_tb (i := 560) (by decide +kernel) rfl
theorem fl_M_22 : Cond.fieldLink "NetWiresModel" 22 "NetWiresModel" "begins" "[I" ∈ ga_T := ga_tb (i := 561) (by decide +kernel) rfl
theorem fl_M_25 : Cond.fieldLink "NetWiresModel" 25 "NetWiresModel" "sizes" "[I" ∈ ga_T := ga_tb (i := 562) (by decide +kernel) rfl
theorem fl_M_28 : Cond.fieldLink "NetWiresModel" 28 "NetWiresModel" "there" "[Z" ∈ ga_T := ga_tb (i := 563) (by decide +kernel) rfl
theorem fl_M_116 : Cond.fieldLink "NetWiresModel" 116 "NetWiresModel" "used" "I" ∈ ga_T := ga_tb (i := 564) (by decide +kernel) rfl
theorem fl_M_32 : Cond.fieldLink "NetWiresModel" 32 "NetWiresModel" "said" "[I" ∈ ga_T := ga_tb (i := 565) (by decide +kernel) rfl
theorem fl_M_62 : Cond.fieldLink "NetWiresModel" 62 "NetWiresModel" "tape" "I" ∈ ga_T := ga_tb (i := 566) (by decide +kernel) rfl
theorem fl_M_35 : Cond.fieldLink "NetWiresModel" 35 "NetWiresModel" "fed" "[I" ∈ ga_T := ga_tb (i := 567) (by decide +kernel) rfl
theorem fl_M_38 : Cond.fieldLink "NetWiresModel" 38 "NetWiresModel" "delays" "[I" ∈ ga_T := ga_tb (i := 568) (by decide +kernel) rfl
theorem fl_M_104 : Cond.fieldLink "NetWiresModel" 104 "NetWiresModel" "parted" "I" ∈ ga_T := ga_tb (i := 569) (by decide +kernel) rfl
theorem fl_M_142 : Cond.fieldLink "NetWiresModel" 142 "NetWiresModel" "down" "I" ∈ ga_T := ga_tb (i := 570) (by decide +kernel) rfl
theorem fl_M_119 : Cond.fieldLink "NetWiresModel" 119 "NetWiresModel" "loss" "I" ∈ ga_T := ga_tb (i := 571) (by decide +kernel) rfl
theorem fl_M_122 : Cond.fieldLink "NetWiresModel" 122 "NetWiresModel" "twice" "I" ∈ ga_T := ga_tb (i := 572) (by decide +kernel) rfl
theorem fl_M_125 : Cond.fieldLink "NetWiresModel" 125 "NetWiresModel" "spread" "I" ∈ ga_T := ga_tb (i := 573) (by decide +kernel) rfl
theorem fl_M_96 : Cond.fieldLink "NetWiresModel" 96 "NetWiresModel" "draw" "J" ∈ ga_T := ga_tb (i := 574) (by decide +kernel) rfl
theorem fl_M_107 : Cond.fieldLink "NetWiresModel" 107 "NetWiresModel" "onTheWay" "I" ∈ ga_T := ga_tb (i := 575) (by decide +kernel) rfl
theorem fl_M_113 : Cond.fieldLink "NetWiresModel" 113 "NetWiresModel" "sent" "I" ∈ ga_T := ga_tb (i := 576) (by decide +kernel) rfl
theorem fl_M_110 : Cond.fieldLink "NetWiresModel" 110 "NetWiresModel" "lost" "I" ∈ ga_T := ga_tb (i := 577) (by decide +kernel) rfl
theorem fl_M_145 : Cond.fieldLink "NetWiresModel" 145 "NetWiresModel" "done" "I" ∈ ga_T := ga_tb (i := 578) (by decide +kernel) rfl
theorem fl_M_41 : Cond.fieldLink "NetWiresModel" 41 "NetWiresModel" "codes" "[I" ∈ ga_T := ga_tb (i := 579) (by decide +kernel) rfl
theorem fl_M_44 : Cond.fieldLink "NetWiresModel" 44 "NetWiresModel" "order" "[I" ∈ ga_T := ga_tb (i := 580) (by decide +kernel) rfl
theorem fl_M_47 : Cond.fieldLink "NetWiresModel" 47 "NetWiresModel" "arrived" "I" ∈ ga_T := ga_tb (i := 581) (by decide +kernel) rfl
theorem ml_L_80 : Cond.methodLink "NetWiresLaw" 80 y_M_thrown ∈ ga_T := ga_tb (i := 640) (by decide +kernel) rfl
theorem ml_L_79 : Cond.methodLink "NetWiresLaw" 79 y_M_feed ∈ ga_T := ga_tb (i := 644) (by decide +kernel) rfl
theorem ml_M_54 : Cond.methodLink "NetWiresModel" 54 y_M_within ∈ ga_T := ga_tb (i := 648) (by decide +kernel) rfl
theorem ml_M_58 : Cond.methodLink "NetWiresModel" 58 y_M_fail ∈ ga_T := ga_tb (i := 651) (by decide +kernel) rfl
theorem kc_M_65 : Cond.constantLong "NetWiresModel" 65 255 ∈ ga_T := ga_tb (i := 655) (by decide +kernel) rfl
theorem ml_L_90 : Cond.methodLink "NetWiresLaw" 90 y_M_alarm ∈ ga_T := ga_tb (i := 656) (by decide +kernel) rfl
theorem ml_M_90 : Cond.methodLink "NetWiresModel" 90 y_M_set ∈ ga_T := ga_tb (i := 660) (by decide +kernel) rfl
theorem ml_M_74 : Cond.methodLink "NetWiresModel" 74 y_M_isEnd ∈ ga_T := ga_tb (i := 664) (by decide +kernel) rfl
theorem kc_M_78 : Cond.constant "NetWiresModel" 78 100000 ∈ ga_T := ga_tb (i := 667) (by decide +kernel) rfl
theorem ml_M_79 : Cond.methodLink "NetWiresModel" 79 y_M_drop ∈ ga_T := ga_tb (i := 668) (by decide +kernel) rfl
theorem ml_M_70 : Cond.methodLink "NetWiresModel" 70 y_M_find ∈ ga_T := ga_tb (i := 672) (by decide +kernel) rfl
theorem ml_M_86 : Cond.methodLink "NetWiresModel" 86 y_M_event ∈ ga_T := ga_tb (i := 676) (by decide +kernel) rfl
theorem ml_L_94 : Cond.methodLink "NetWiresLaw" 94 y_M_noAlarm ∈ ga_T := ga_tb (i := 680) (by decide +kernel) rfl
theorem ml_M_93 : Cond.methodLink "NetWiresModel" 93 y_M_unset ∈ ga_T := ga_tb (i := 684) (by decide +kernel) rfl
theorem ml_L_97 : Cond.methodLink "NetWiresLaw" 97 y_M_sync ∈ ga_T := ga_tb (i := 688) (by decide +kernel) rfl
theorem ml_L_100 : Cond.methodLink "NetWiresLaw" 100 y_M_noSync ∈ ga_T := ga_tb (i := 692) (by decide +kernel) rfl
theorem ml_L_87 : Cond.methodLink "NetWiresLaw" 87 y_M_send ∈ ga_T := ga_tb (i := 696) (by decide +kernel) rfl
theorem ml_M_128 : Cond.methodLink "NetWiresModel" 128 y_M_areParted ∈ ga_T := ga_tb (i := 700) (by decide +kernel) rfl
theorem ml_M_131 : Cond.methodLink "NetWiresModel" 131 y_M_drawn ∈ ga_T := ga_tb (i := 704) (by decide +kernel) rfl
theorem kc_M_100 : Cond.constantLong "NetWiresModel" 100 6364136223846793005 ∈ ga_T := ga_tb (i := 708) (by decide +kernel) rfl
theorem kc_M_102 : Cond.constantLong "NetWiresModel" 102 1442695040888963407 ∈ ga_T := ga_tb (i := 709) (by decide +kernel) rfl
theorem ml_M_134 : Cond.methodLink "NetWiresModel" 134 y_M_go ∈ ga_T := ga_tb (i := 710) (by decide +kernel) rfl
theorem ml_L_124 : Cond.methodLink "NetWiresLaw" 124 y_M_meddle ∈ ga_T := ga_tb (i := 714) (by decide +kernel) rfl
theorem ml_M_138 : Cond.methodLink "NetWiresModel" 138 y_M_nth ∈ ga_T := ga_tb (i := 718) (by decide +kernel) rfl
theorem ml_L_104 : Cond.methodLink "NetWiresLaw" 104 y_M_step ∈ ga_T := ga_tb (i := 722) (by decide +kernel) rfl
theorem ml_M_148 : Cond.methodLink "NetWiresModel" 148 y_M_least ∈ ga_T := ga_tb (i := 726) (by decide +kernel) rfl
theorem ml_M_152 : Cond.methodLink "NetWiresModel" 152 y_M_happen ∈ ga_T := ga_tb (i := 730) (by decide +kernel) rfl
theorem ml_L_107 : Cond.methodLink "NetWiresLaw" 107 y_M_run ∈ ga_T := ga_tb (i := 734) (by decide +kernel) rfl
theorem ml_L_111 : Cond.methodLink "NetWiresLaw" 111 y_M_delay ∈ ga_T := ga_tb (i := 738) (by decide +kernel) rfl
theorem ml_L_114 : Cond.methodLink "NetWiresLaw" 114 y_M_part ∈ ga_T := ga_tb (i := 742) (by decide +kernel) rfl
theorem kc_M_155 : Cond.constant "NetWiresModel" 155 65535 ∈ ga_T := ga_tb (i := 746) (by decide +kernel) rfl
theorem ml_L_117 : Cond.methodLink "NetWiresLaw" 117 y_M_down ∈ ga_T := ga_tb (i := 747) (by decide +kernel) rfl
theorem ml_L_121 : Cond.methodLink "NetWiresLaw" 121 y_M_noise ∈ ga_T := ga_tb (i := 751) (by decide +kernel) rfl
theorem ml_L_128 : Cond.methodLink "NetWiresLaw" 128 y_M_message ∈ ga_T := ga_tb (i := 755) (by decide +kernel) rfl
theorem ml_L_131 : Cond.methodLink "NetWiresLaw" 131 y_M_messageAt ∈ ga_T := ga_tb (i := 759) (by decide +kernel) rfl
theorem ml_L_135 : Cond.methodLink "NetWiresLaw" 135 y_M_happened ∈ ga_T := ga_tb (i := 763) (by decide +kernel) rfl
theorem ml_L_138 : Cond.methodLink "NetWiresLaw" 138 y_M_byteAt ∈ ga_T := ga_tb (i := 767) (by decide +kernel) rfl
theorem ml_L_141 : Cond.methodLink "NetWiresLaw" 141 y_M_when ∈ ga_T := ga_tb (i := 771) (by decide +kernel) rfl
theorem ml_L_145 : Cond.methodLink "NetWiresLaw" 145 y_M_count ∈ ga_T := ga_tb (i := 775) (by decide +kernel) rfl
theorem kc_L_72 : Cond.constantLong "NetWiresLaw" 72 4294967295 ∈ ga_T := ga_tb (i := 779) (by decide +kernel) rfl
