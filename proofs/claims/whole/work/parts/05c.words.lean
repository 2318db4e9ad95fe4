theorem wi_X9_settledBy : Jvm.Cond.instanceMethod ⟨"BurntHall$Places", "settledBy", "(II)I"⟩ ∈ b_T := b_m7 (i := 195) rfl rfl
theorem ws_X9_settledBy : Jvm.Cond.selects "BurntHall$Places" ⟨"BurntHall$Places", "settledBy", "(II)I"⟩ ⟨"BurntHall$Places", "settledBy", "(II)I"⟩ ∈ b_T := b_m7 (i := 196) rfl rfl
theorem wc_X9_bestWithin : Jvm.Cond.code ⟨"BurntHall$Places", "bestWithin", "(II)I"⟩ prog_11_method_8_code 7 (Option.some Jvm.ClassFile.FieldType.int) ∈ b_T := b_m7 (i := 226) rfl rfl
theorem wi_X9_bestWithin : Jvm.Cond.instanceMethod ⟨"BurntHall$Places", "bestWithin", "(II)I"⟩ ∈ b_T := b_m7 (i := 224) rfl rfl
theorem ws_X9_bestWithin : Jvm.Cond.selects "BurntHall$Places" ⟨"BurntHall$Places", "bestWithin", "(II)I"⟩ ⟨"BurntHall$Places", "bestWithin", "(II)I"⟩ ∈ b_T := b_m7 (i := 225) rfl rfl
theorem wc_X9_turn : Jvm.Cond.code ⟨"BurntHall$Places", "turn", "(II)I"⟩ prog_11_method_9_code 6 (Option.some Jvm.ClassFile.FieldType.int) ∈ b_T := b_m7 (i := 230) rfl rfl
theorem wi_X9_turn : Jvm.Cond.instanceMethod ⟨"BurntHall$Places", "turn", "(II)I"⟩ ∈ b_T := b_m7 (i := 229) rfl rfl
theorem ws_X9_turn : Jvm.Cond.selects "BurntHall$Places" ⟨"BurntHall$Places", "turn", "(II)I"⟩ ⟨"BurntHall$Places", "turn", "(II)I"⟩ ∈ b_T := b_memS (i := 66) (q := (⟨"BurntHall$Places", "turn", "(II)I"⟩, 16)) rfl
theorem wc_X10_init : Jvm.Cond.code ⟨"BurntHall$Tape", "<init>", "()V"⟩ prog_12_method_1_code 1 (Option.none : Option Jvm.ClassFile.FieldType) ∈ b_T := b_m1 (i := 33) rfl rfl
theorem wi_X10_init : Jvm.Cond.instanceMethod ⟨"BurntHall$Tape", "<init>", "()V"⟩ ∈ b_T := b_m1 (i := 32) rfl rfl
theorem wn_10 : Jvm.Cond.initialized "BurntHall$Tape" ∈ b_T := b_m1 (i := 2) rfl rfl
theorem wc_X10_put : Jvm.Cond.code ⟨"BurntHall$Tape", "put", "(I)V"⟩ prog_12_method_2_code 3 (Option.none : Option Jvm.ClassFile.FieldType) ∈ b_T := b_m3 (i := 239) rfl rfl
theorem wi_X10_put : Jvm.Cond.instanceMethod ⟨"BurntHall$Tape", "put", "(I)V"⟩ ∈ b_T := b_m3 (i := 237) rfl rfl
theorem ws_X10_put : Jvm.Cond.selects "BurntHall$Tape" ⟨"BurntHall$Tape", "put", "(I)V"⟩ ⟨"BurntHall$Tape", "put", "(I)V"⟩ ∈ b_T := b_m3 (i := 238) rfl rfl
theorem wc_X10_clear : Jvm.Cond.code ⟨"BurntHall$Tape", "clear", "()V"⟩ prog_12_method_3_code 1 (Option.none : Option Jvm.ClassFile.FieldType) ∈ b_T := b_m4 (i := 234) rfl rfl
theorem wi_X10_clear : Jvm.Cond.instanceMethod ⟨"BurntHall$Tape", "clear", "()V"⟩ ∈ b_T := b_m4 (i := 232) rfl rfl
theorem ws_X10_clear : Jvm.Cond.selects "BurntHall$Tape" ⟨"BurntHall$Tape", "clear", "()V"⟩ ⟨"BurntHall$Tape", "clear", "()V"⟩ ∈ b_T := b_m4 (i := 233) rfl rfl
theorem wc_X10_byteAt : Jvm.Cond.code ⟨"BurntHall$Tape", "byteAt", "(I)I"⟩ prog_12_method_4_code 2 (Option.some Jvm.ClassFile.FieldType.int) ∈ b_T := b_m4 (i := 193) rfl rfl
theorem wi_X10_byteAt : Jvm.Cond.instanceMethod ⟨"BurntHall$Tape", "byteAt", "(I)I"⟩ ∈ b_T := b_m4 (i := 191) rfl rfl
theorem ws_X10_byteAt : Jvm.Cond.selects "BurntHall$Tape" ⟨"BurntHall$Tape", "byteAt", "(I)I"⟩ ⟨"BurntHall$Tape", "byteAt", "(I)I"⟩ ∈ b_T := b_m4 (i := 192) rfl rfl
theorem wc_X10_begin : Jvm.Cond.code ⟨"BurntHall$Tape", "begin", "()V"⟩ prog_12_method_5_code 1 (Option.none : Option Jvm.ClassFile.FieldType) ∈ b_T := b_m4 (i := 181) rfl rfl
theorem wi_X10_begin : Jvm.Cond.instanceMethod ⟨"BurntHall$Tape", "begin", "()V"⟩ ∈ b_T := b_m4 (i := 179) rfl rfl
theorem ws_X10_begin : Jvm.Cond.selects "BurntHall$Tape" ⟨"BurntHall$Tape", "begin", "()V"⟩ ⟨"BurntHall$Tape", "begin", "()V"⟩ ∈ b_T := b_m4 (i := 180) rfl rfl
theorem wc_X10_rewind : Jvm.Cond.code ⟨"BurntHall$Tape", "rewind", "()V"⟩ prog_12_method_6_code 1 (Option.none : Option Jvm.ClassFile.FieldType) ∈ b_T := b_m4 (i := 185) rfl rfl
theorem wi_X10_rewind : Jvm.Cond.instanceMethod ⟨"BurntHall$Tape", "rewind", "()V"⟩ ∈ b_T := b_m4 (i := 183) rfl rfl
theorem ws_X10_rewind : Jvm.Cond.selects "BurntHall$Tape" ⟨"BurntHall$Tape", "rewind", "()V"⟩ ⟨"BurntHall$Tape", "rewind", "()V"⟩ ∈ b_T := b_m4 (i := 184) rfl rfl
theorem wc_X10_step : Jvm.Cond.code ⟨"BurntHall$Tape", "step", "()V"⟩ prog_12_method_7_code 4 (Option.none : Option Jvm.ClassFile.FieldType) ∈ b_T := b_m4 (i := 189) rfl rfl
theorem wi_X10_step : Jvm.Cond.instanceMethod ⟨"BurntHall$Tape", "step", "()V"⟩ ∈ b_T := b_m4 (i := 187) rfl rfl
theorem ws_X10_step : Jvm.Cond.selects "BurntHall$Tape" ⟨"BurntHall$Tape", "step", "()V"⟩ ⟨"BurntHall$Tape", "step", "()V"⟩ ∈ b_T := b_m4 (i := 188) rfl rfl
theorem wc_X10_isSign : Jvm.Cond.code ⟨"BurntHall$Tape", "isSign", "(C)Z"⟩ prog_12_method_8_code 2 (Option.some Jvm.ClassFile.FieldType.boolean) ∈ b_T := b_m4 (i := 229) rfl rfl
theorem wi_X10_isSign : Jvm.Cond.instanceMethod ⟨"BurntHall$Tape", "isSign", "(C)Z"⟩ ∈ b_T := b_m4 (i := 227) rfl rfl
theorem ws_X10_isSign : Jvm.Cond.selects "BurntHall$Tape" ⟨"BurntHall$Tape", "isSign", "(C)Z"⟩ ⟨"BurntHall$Tape", "isSign", "(C)Z"⟩ ∈ b_T := b_m4 (i := 228) rfl rfl
theorem wc_X10_isWord : Jvm.Cond.code ⟨"BurntHall$Tape", "isWord", "(J)Z"⟩ prog_12_method_9_code 3 (Option.some Jvm.ClassFile.FieldType.boolean) ∈ b_T := b_m4 (i := 215) rfl rfl
theorem wi_X10_isWord : Jvm.Cond.instanceMethod ⟨"BurntHall$Tape", "isWord", "(J)Z"⟩ ∈ b_T := b_m4 (i := 213) rfl rfl
theorem ws_X10_isWord : Jvm.Cond.selects "BurntHall$Tape" ⟨"BurntHall$Tape", "isWord", "(J)Z"⟩ ⟨"BurntHall$Tape", "isWord", "(J)Z"⟩ ∈ b_T := b_m4 (i := 214) rfl rfl
theorem wc_X10_number : Jvm.Cond.code ⟨"BurntHall$Tape", "number", "()I"⟩ prog_12_method_10_code 1 (Option.some Jvm.ClassFile.FieldType.int) ∈ b_T := b_m4 (i := 224) rfl rfl
theorem wi_X10_number : Jvm.Cond.instanceMethod ⟨"BurntHall$Tape", "number", "()I"⟩ ∈ b_T := b_m4 (i := 222) rfl rfl
theorem ws_X10_number : Jvm.Cond.selects "BurntHall$Tape" ⟨"BurntHall$Tape", "number", "()I"⟩ ⟨"BurntHall$Tape", "number", "()I"⟩ ∈ b_T := b_m4 (i := 223) rfl rfl
theorem wc_X10_wrong : Jvm.Cond.code ⟨"BurntHall$Tape", "wrong", "(I)Z"⟩ prog_12_method_11_code 2 (Option.some Jvm.ClassFile.FieldType.boolean) ∈ b_T := b_m4 (i := 219) rfl rfl
theorem wi_X10_wrong : Jvm.Cond.instanceMethod ⟨"BurntHall$Tape", "wrong", "(I)Z"⟩ ∈ b_T := b_m4 (i := 217) rfl rfl
theorem ws_X10_wrong : Jvm.Cond.selects "BurntHall$Tape" ⟨"BurntHall$Tape", "wrong", "(I)Z"⟩ ⟨"BurntHall$Tape", "wrong", "(I)Z"⟩ ∈ b_T := b_m4 (i := 218) rfl rfl
theorem wc_X10_isLetter : Jvm.Cond.code ⟨"BurntHall$Tape", "isLetter", "(I)Z"⟩ prog_12_method_12_code 1 (Option.some Jvm.ClassFile.FieldType.boolean) ∈ b_T := b_m4 (i := 199) rfl rfl
theorem wi_X10_isLetter : Jvm.Cond.static ⟨"BurntHall$Tape", "isLetter", "(I)Z"⟩ ∈ b_T := b_m4 (i := 198) rfl rfl
theorem wc_X10_isDigit : Jvm.Cond.code ⟨"BurntHall$Tape", "isDigit", "(I)Z"⟩ prog_12_method_13_code 1 (Option.some Jvm.ClassFile.FieldType.boolean) ∈ b_T := b_m4 (i := 202) rfl rfl
theorem wi_X10_isDigit : Jvm.Cond.static ⟨"BurntHall$Tape", "isDigit", "(I)Z"⟩ ∈ b_T := b_m4 (i := 201) rfl rfl
theorem wc_X10_isBlank : Jvm.Cond.code ⟨"BurntHall$Tape", "isBlank", "(I)Z"⟩ prog_12_method_14_code 1 (Option.some Jvm.ClassFile.FieldType.boolean) ∈ b_T := b_m4 (i := 196) rfl rfl
theorem wi_X10_isBlank : Jvm.Cond.static ⟨"BurntHall$Tape", "isBlank", "(I)Z"⟩ ∈ b_T := b_m4 (i := 195) rfl rfl
theorem wc_X10_isSignByte : Jvm.Cond.code ⟨"BurntHall$Tape", "isSignByte", "(I)Z"⟩ prog_12_method_15_code 1 (Option.some Jvm.ClassFile.FieldType.boolean) ∈ b_T := b_m4 (i := 207) rfl rfl
theorem wi_X10_isSignByte : Jvm.Cond.static ⟨"BurntHall$Tape", "isSignByte", "(I)Z"⟩ ∈ b_T := b_m4 (i := 206) rfl rfl
theorem wc_X10_withLetter : Jvm.Cond.code ⟨"BurntHall$Tape", "withLetter", "(JI)J"⟩ prog_12_method_16_code 3 (Option.some Jvm.ClassFile.FieldType.long) ∈ b_T := b_m1 (i := 184) rfl rfl
theorem wi_X10_withLetter : Jvm.Cond.static ⟨"BurntHall$Tape", "withLetter", "(JI)J"⟩ ∈ b_T := b_m1 (i := 183) rfl rfl
theorem wc_X10_codes : Jvm.Cond.code ⟨"BurntHall$Tape", "codes", "(Ljava/lang/String;I)[J"⟩ prog_12_method_17_code 6 (Option.some (Jvm.ClassFile.FieldType.array Jvm.ClassFile.FieldType.long)) ∈ b_T := b_m1 (i := 133) rfl rfl
theorem wi_X10_codes : Jvm.Cond.static ⟨"BurntHall$Tape", "codes", "(Ljava/lang/String;I)[J"⟩ ∈ b_T := b_m1 (i := 132) rfl rfl
theorem wc_X11_init : Jvm.Cond.code ⟨"BurntHall", "<init>", "()V"⟩ prog_1_method_1_code 1 (Option.none : Option Jvm.ClassFile.FieldType) ∈ b_T := b_m1 (i := 25) rfl rfl
theorem wi_X11_init : Jvm.Cond.instanceMethod ⟨"BurntHall", "<init>", "()V"⟩ ∈ b_T := b_m1 (i := 24) rfl rfl
theorem wn_11 : Jvm.Cond.initialized "BurntHall" ∈ b_T := b_m1 (i := 1) rfl rfl
theorem wc_X11_feed : Jvm.Cond.code ⟨"BurntHall", "feed", "(IIIII)I"⟩ prog_1_method_2_code 6 (Option.some Jvm.ClassFile.FieldType.int) ∈ b_T := b_m3 (i := 235) rfl rfl
theorem wi_X11_feed : Jvm.Cond.instanceMethod ⟨"BurntHall", "feed", "(IIIII)I"⟩ ∈ b_T := b_m3 (i := 233) rfl rfl
theorem ws_X11_feed : Jvm.Cond.selects "BurntHall" ⟨"BurntHall", "feed", "(IIIII)I"⟩ ⟨"BurntHall", "feed", "(IIIII)I"⟩ ∈ b_T := b_m3 (i := 234) rfl rfl
theorem wc_X11_end : Jvm.Cond.code ⟨"BurntHall", "end", "(I)I"⟩ prog_1_method_3_code 2 (Option.some Jvm.ClassFile.FieldType.int) ∈ b_T := b_m4 (i := 3) rfl rfl
theorem wi_X11_end : Jvm.Cond.instanceMethod ⟨"BurntHall", "end", "(I)I"⟩ ∈ b_T := b_m4 (i := 1) rfl rfl
theorem ws_X11_end : Jvm.Cond.selects "BurntHall" ⟨"BurntHall", "end", "(I)I"⟩ ⟨"BurntHall", "end", "(I)I"⟩ ∈ b_T := b_m4 (i := 2) rfl rfl
theorem wc_X11_pass : Jvm.Cond.code ⟨"BurntHall", "pass", "(I)I"⟩ prog_1_method_4_code 2 (Option.some Jvm.ClassFile.FieldType.int) ∈ b_T := b_m4 (i := 7) rfl rfl
theorem wi_X11_pass : Jvm.Cond.instanceMethod ⟨"BurntHall", "pass", "(I)I"⟩ ∈ b_T := b_m4 (i := 5) rfl rfl
theorem ws_X11_pass : Jvm.Cond.selects "BurntHall" ⟨"BurntHall", "pass", "(I)I"⟩ ⟨"BurntHall", "pass", "(I)I"⟩ ∈ b_T := b_m4 (i := 6) rfl rfl
theorem wc_X11_person : Jvm.Cond.code ⟨"BurntHall", "person", "(I)I"⟩ prog_1_method_5_code 2 (Option.some Jvm.ClassFile.FieldType.int) ∈ b_T := b_m4 (i := 11) rfl rfl
theorem wi_X11_person : Jvm.Cond.instanceMethod ⟨"BurntHall", "person", "(I)I"⟩ ∈ b_T := b_m4 (i := 9) rfl rfl
theorem ws_X11_person : Jvm.Cond.selects "BurntHall" ⟨"BurntHall", "person", "(I)I"⟩ ⟨"BurntHall", "person", "(I)I"⟩ ∈ b_T := b_m4 (i := 10) rfl rfl
theorem wc_X11_dead : Jvm.Cond.code ⟨"BurntHall", "dead", "(II)I"⟩ prog_1_method_6_code 3 (Option.some Jvm.ClassFile.FieldType.int) ∈ b_T := b_m4 (i := 22) rfl rfl
theorem wi_X11_dead : Jvm.Cond.instanceMethod ⟨"BurntHall", "dead", "(II)I"⟩ ∈ b_T := b_m4 (i := 20) rfl rfl
theorem ws_X11_dead : Jvm.Cond.selects "BurntHall" ⟨"BurntHall", "dead", "(II)I"⟩ ⟨"BurntHall", "dead", "(II)I"⟩ ∈ b_T := b_m4 (i := 21) rfl rfl
theorem wc_X11_same : Jvm.Cond.code ⟨"BurntHall", "same", "(II)I"⟩ prog_1_method_7_code 3 (Option.some Jvm.ClassFile.FieldType.int) ∈ b_T := b_m4 (i := 38) rfl rfl
theorem wi_X11_same : Jvm.Cond.instanceMethod ⟨"BurntHall", "same", "(II)I"⟩ ∈ b_T := b_m4 (i := 36) rfl rfl
theorem ws_X11_same : Jvm.Cond.selects "BurntHall" ⟨"BurntHall", "same", "(II)I"⟩ ⟨"BurntHall", "same", "(II)I"⟩ ∈ b_T := b_m4 (i := 37) rfl rfl
theorem wc_X11_apart : Jvm.Cond.code ⟨"BurntHall", "apart", "(II)I"⟩ prog_1_method_8_code 3 (Option.some Jvm.ClassFile.FieldType.int) ∈ b_T := b_m4 (i := 46) rfl rfl
theorem wi_X11_apart : Jvm.Cond.instanceMethod ⟨"BurntHall", "apart", "(II)I"⟩ ∈ b_T := b_m4 (i := 44) rfl rfl
theorem ws_X11_apart : Jvm.Cond.selects "BurntHall" ⟨"BurntHall", "apart", "(II)I"⟩ ⟨"BurntHall", "apart", "(II)I"⟩ ∈ b_T := b_m4 (i := 45) rfl rfl
theorem wc_X11_child : Jvm.Cond.code ⟨"BurntHall", "child", "(II)I"⟩ prog_1_method_9_code 3 (Option.some Jvm.ClassFile.FieldType.int) ∈ b_T := b_m4 (i := 50) rfl rfl
theorem wi_X11_child : Jvm.Cond.instanceMethod ⟨"BurntHall", "child", "(II)I"⟩ ∈ b_T := b_m4 (i := 48) rfl rfl
theorem ws_X11_child : Jvm.Cond.selects "BurntHall" ⟨"BurntHall", "child", "(II)I"⟩ ⟨"BurntHall", "child", "(II)I"⟩ ∈ b_T := b_m4 (i := 49) rfl rfl
theorem wc_X11_tellOfTwo : Jvm.Cond.code ⟨"BurntHall", "tellOfTwo", "(III)I"⟩ prog_1_method_10_code 4 (Option.some Jvm.ClassFile.FieldType.int) ∈ b_T := b_m4 (i := 42) rfl rfl
theorem wi_X11_tellOfTwo : Jvm.Cond.instanceMethod ⟨"BurntHall", "tellOfTwo", "(III)I"⟩ ∈ b_T := b_m4 (i := 41) rfl rfl
theorem ws_X11_tellOfTwo : Jvm.Cond.selects "BurntHall" ⟨"BurntHall", "tellOfTwo", "(III)I"⟩ ⟨"BurntHall", "tellOfTwo", "(III)I"⟩ ∈ b_T := b_memS (i := 0) (q := (⟨"BurntHall", "tellOfTwo", "(III)I"⟩, 11)) rfl
theorem wc_X11_deadOn : Jvm.Cond.code ⟨"BurntHall", "deadOn", "(II)I"⟩ prog_1_method_11_code 3 (Option.some Jvm.ClassFile.FieldType.int) ∈ b_T := b_m4 (i := 54) rfl rfl
theorem wi_X11_deadOn : Jvm.Cond.instanceMethod ⟨"BurntHall", "deadOn", "(II)I"⟩ ∈ b_T := b_m4 (i := 52) rfl rfl
theorem ws_X11_deadOn : Jvm.Cond.selects "BurntHall" ⟨"BurntHall", "deadOn", "(II)I"⟩ ⟨"BurntHall", "deadOn", "(II)I"⟩ ∈ b_T := b_m4 (i := 53) rfl rfl
theorem wc_X11_one : Jvm.Cond.code ⟨"BurntHall", "one", "(III)I"⟩ prog_1_method_12_code 4 (Option.some Jvm.ClassFile.FieldType.int) ∈ b_T := b_m4 (i := 81) rfl rfl
theorem wi_X11_one : Jvm.Cond.instanceMethod ⟨"BurntHall", "one", "(III)I"⟩ ∈ b_T := b_m4 (i := 79) rfl rfl
theorem ws_X11_one : Jvm.Cond.selects "BurntHall" ⟨"BurntHall", "one", "(III)I"⟩ ⟨"BurntHall", "one", "(III)I"⟩ ∈ b_T := b_m4 (i := 80) rfl rfl
theorem wc_X11_names : Jvm.Cond.code ⟨"BurntHall", "names", "(I)I"⟩ prog_1_method_13_code 2 (Option.some Jvm.ClassFile.FieldType.int) ∈ b_T := b_m4 (i := 89) rfl rfl
theorem wi_X11_names : Jvm.Cond.instanceMethod ⟨"BurntHall", "names", "(I)I"⟩ ∈ b_T := b_m4 (i := 87) rfl rfl
theorem ws_X11_names : Jvm.Cond.selects "BurntHall" ⟨"BurntHall", "names", "(I)I"⟩ ⟨"BurntHall", "names", "(I)I"⟩ ∈ b_T := b_m4 (i := 88) rfl rfl
theorem wc_X11_lot : Jvm.Cond.code ⟨"BurntHall", "lot", "(II)I"⟩ prog_1_method_14_code 3 (Option.some Jvm.ClassFile.FieldType.int) ∈ b_T := b_m4 (i := 97) rfl rfl
theorem wi_X11_lot : Jvm.Cond.instanceMethod ⟨"BurntHall", "lot", "(II)I"⟩ ∈ b_T := b_m4 (i := 95) rfl rfl
theorem ws_X11_lot : Jvm.Cond.selects "BurntHall" ⟨"BurntHall", "lot", "(II)I"⟩ ⟨"BurntHall", "lot", "(II)I"⟩ ∈ b_T := b_m4 (i := 96) rfl rfl
theorem wc_X11_split : Jvm.Cond.code ⟨"BurntHall", "split", "(IIIIIII)I"⟩ prog_1_method_15_code 8 (Option.some Jvm.ClassFile.FieldType.int) ∈ b_T := b_m4 (i := 113) rfl rfl
theorem wi_X11_split : Jvm.Cond.instanceMethod ⟨"BurntHall", "split", "(IIIIIII)I"⟩ ∈ b_T := b_m4 (i := 111) rfl rfl
theorem ws_X11_split : Jvm.Cond.selects "BurntHall" ⟨"BurntHall", "split", "(IIIIIII)I"⟩ ⟨"BurntHall", "split", "(IIIIIII)I"⟩ ∈ b_T := b_m4 (i := 112) rfl rfl
theorem wc_X11_join : Jvm.Cond.code ⟨"BurntHall", "join", "(IIIIIII)I"⟩ prog_1_method_16_code 8 (Option.some Jvm.ClassFile.FieldType.int) ∈ b_T := b_m4 (i := 140) rfl rfl
theorem wi_X11_join : Jvm.Cond.instanceMethod ⟨"BurntHall", "join", "(IIIIIII)I"⟩ ∈ b_T := b_m4 (i := 138) rfl rfl
theorem ws_X11_join : Jvm.Cond.selects "BurntHall" ⟨"BurntHall", "join", "(IIIIIII)I"⟩ ⟨"BurntHall", "join", "(IIIIIII)I"⟩ ∈ b_T := b_m4 (i := 139) rfl rfl
theorem wc_X11_about : Jvm.Cond.code ⟨"BurntHall", "about", "(II)I"⟩ prog_1_method_17_code 3 (Option.some Jvm.ClassFile.FieldType.int) ∈ b_T := b_m4 (i := 157) rfl rfl
theorem wi_X11_about : Jvm.Cond.instanceMethod ⟨"BurntHall", "about", "(II)I"⟩ ∈ b_T := b_m4 (i := 155) rfl rfl
theorem ws_X11_about : Jvm.Cond.selects "BurntHall" ⟨"BurntHall", "about", "(II)I"⟩ ⟨"BurntHall", "about", "(II)I"⟩ ∈ b_T := b_m4 (i := 156) rfl rfl
theorem wc_X11_line : Jvm.Cond.code ⟨"BurntHall", "line", "(I)J"⟩ prog_1_method_18_code 2 (Option.some Jvm.ClassFile.FieldType.long) ∈ b_T := b_m4 (i := 165) rfl rfl
theorem wi_X11_line : Jvm.Cond.instanceMethod ⟨"BurntHall", "line", "(I)J"⟩ ∈ b_T := b_m4 (i := 163) rfl rfl
theorem ws_X11_line : Jvm.Cond.selects "BurntHall" ⟨"BurntHall", "line", "(I)J"⟩ ⟨"BurntHall", "line", "(I)J"⟩ ∈ b_T := b_m4 (i := 164) rfl rfl
theorem wc_X11_bounds : Jvm.Cond.code ⟨"BurntHall", "bounds", "(III)I"⟩ prog_1_method_19_code 5 (Option.some Jvm.ClassFile.FieldType.int) ∈ b_T := b_m4 (i := 169) rfl rfl
theorem wi_X11_bounds : Jvm.Cond.instanceMethod ⟨"BurntHall", "bounds", "(III)I"⟩ ∈ b_T := b_m4 (i := 167) rfl rfl
theorem ws_X11_bounds : Jvm.Cond.selects "BurntHall" ⟨"BurntHall", "bounds", "(III)I"⟩ ⟨"BurntHall", "bounds", "(III)I"⟩ ∈ b_T := b_m4 (i := 168) rfl rfl
theorem wc_X11_error : Jvm.Cond.code ⟨"BurntHall", "error", "(I)I"⟩ prog_1_method_20_code 3 (Option.some Jvm.ClassFile.FieldType.int) ∈ b_T := b_m4 (i := 238) rfl rfl
theorem wi_X11_error : Jvm.Cond.instanceMethod ⟨"BurntHall", "error", "(I)I"⟩ ∈ b_T := b_m4 (i := 236) rfl rfl
theorem ws_X11_error : Jvm.Cond.selects "BurntHall" ⟨"BurntHall", "error", "(I)I"⟩ ⟨"BurntHall", "error", "(I)I"⟩ ∈ b_T := b_m4 (i := 237) rfl rfl
theorem wc_X11_mend : Jvm.Cond.code ⟨"BurntHall", "mend", "(I)I"⟩ prog_1_method_21_code 3 (Option.some Jvm.ClassFile.FieldType.int) ∈ b_T := b_m5 (i := 25) rfl rfl
theorem wi_X11_mend : Jvm.Cond.instanceMethod ⟨"BurntHall", "mend", "(I)I"⟩ ∈ b_T := b_m5 (i := 23) rfl rfl
theorem ws_X11_mend : Jvm.Cond.selects "BurntHall" ⟨"BurntHall", "mend", "(I)I"⟩ ⟨"BurntHall", "mend", "(I)I"⟩ ∈ b_T := b_m5 (i := 24) rfl rfl
theorem wc_X11_area : Jvm.Cond.code ⟨"BurntHall", "area", "(I)I"⟩ prog_1_method_22_code 3 (Option.some Jvm.ClassFile.FieldType.int) ∈ b_T := b_m5 (i := 43) rfl rfl
theorem wi_X11_area : Jvm.Cond.instanceMethod ⟨"BurntHall", "area", "(I)I"⟩ ∈ b_T := b_m5 (i := 41) rfl rfl
theorem ws_X11_area : Jvm.Cond.selects "BurntHall" ⟨"BurntHall", "area", "(I)I"⟩ ⟨"BurntHall", "area", "(I)I"⟩ ∈ b_T := b_m5 (i := 42) rfl rfl
theorem wc_X11_strip : Jvm.Cond.code ⟨"BurntHall", "strip", "(II)I"⟩ prog_1_method_23_code 3 (Option.some Jvm.ClassFile.FieldType.int) ∈ b_T := b_m5 (i := 68) rfl rfl
theorem wi_X11_strip : Jvm.Cond.instanceMethod ⟨"BurntHall", "strip", "(II)I"⟩ ∈ b_T := b_m5 (i := 66) rfl rfl
theorem ws_X11_strip : Jvm.Cond.selects "BurntHall" ⟨"BurntHall", "strip", "(II)I"⟩ ⟨"BurntHall", "strip", "(II)I"⟩ ∈ b_T := b_m5 (i := 67) rfl rfl
theorem wc_X11_withoutBounds : Jvm.Cond.code ⟨"BurntHall", "withoutBounds", "(I)I"⟩ prog_1_method_24_code 2 (Option.some Jvm.ClassFile.FieldType.int) ∈ b_T := b_m5 (i := 2) rfl rfl
theorem wi_X11_withoutBounds : Jvm.Cond.instanceMethod ⟨"BurntHall", "withoutBounds", "(I)I"⟩ ∈ b_T := b_m5 (i := 1) rfl rfl
theorem ws_X11_withoutBounds : Jvm.Cond.selects "BurntHall" ⟨"BurntHall", "withoutBounds", "(I)I"⟩ ⟨"BurntHall", "withoutBounds", "(I)I"⟩ ∈ b_T := b_memS (i := 5) (q := (⟨"BurntHall", "withoutBounds", "(I)I"⟩, 11)) rfl
theorem wc_X11_act : Jvm.Cond.code ⟨"BurntHall", "act", "()I"⟩ prog_1_method_25_code 2 (Option.some Jvm.ClassFile.FieldType.int) ∈ b_T := b_m5 (i := 72) rfl rfl
theorem wi_X11_act : Jvm.Cond.instanceMethod ⟨"BurntHall", "act", "()I"⟩ ∈ b_T := b_m5 (i := 70) rfl rfl
theorem ws_X11_act : Jvm.Cond.selects "BurntHall" ⟨"BurntHall", "act", "()I"⟩ ⟨"BurntHall", "act", "()I"⟩ ∈ b_T := b_m5 (i := 71) rfl rfl
theorem wc_X11_fault : Jvm.Cond.code ⟨"BurntHall", "fault", "(I)I"⟩ prog_1_method_26_code 2 (Option.some Jvm.ClassFile.FieldType.int) ∈ b_T := b_m5 (i := 207) rfl rfl
theorem wi_X11_fault : Jvm.Cond.instanceMethod ⟨"BurntHall", "fault", "(I)I"⟩ ∈ b_T := b_m5 (i := 205) rfl rfl
theorem ws_X11_fault : Jvm.Cond.selects "BurntHall" ⟨"BurntHall", "fault", "(I)I"⟩ ⟨"BurntHall", "fault", "(I)I"⟩ ∈ b_T := b_m5 (i := 206) rfl rfl
theorem wc_X11_rule : Jvm.Cond.code ⟨"BurntHall", "rule", "(II)I"⟩ prog_1_method_27_code 4 (Option.some Jvm.ClassFile.FieldType.int) ∈ b_T := b_m5 (i := 211) rfl rfl
theorem wi_X11_rule : Jvm.Cond.instanceMethod ⟨"BurntHall", "rule", "(II)I"⟩ ∈ b_T := b_m5 (i := 209) rfl rfl
theorem ws_X11_rule : Jvm.Cond.selects "BurntHall" ⟨"BurntHall", "rule", "(II)I"⟩ ⟨"BurntHall", "rule", "(II)I"⟩ ∈ b_T := b_m5 (i := 210) rfl rfl
theorem wc_X11_burnt : Jvm.Cond.code ⟨"BurntHall", "burnt", "()I"⟩ prog_1_method_28_code 1 (Option.some Jvm.ClassFile.FieldType.int) ∈ b_T := b_m5 (i := 227) rfl rfl
theorem wi_X11_burnt : Jvm.Cond.instanceMethod ⟨"BurntHall", "burnt", "()I"⟩ ∈ b_T := b_m5 (i := 225) rfl rfl
theorem ws_X11_burnt : Jvm.Cond.selects "BurntHall" ⟨"BurntHall", "burnt", "()I"⟩ ⟨"BurntHall", "burnt", "()I"⟩ ∈ b_T := b_m5 (i := 226) rfl rfl
theorem wc_X11_paper : Jvm.Cond.code ⟨"BurntHall", "paper", "(IIIIIII)I"⟩ prog_1_method_29_code 10 (Option.some Jvm.ClassFile.FieldType.int) ∈ b_T := b_m5 (i := 235) rfl rfl
theorem wi_X11_paper : Jvm.Cond.instanceMethod ⟨"BurntHall", "paper", "(IIIIIII)I"⟩ ∈ b_T := b_m5 (i := 233) rfl rfl
theorem ws_X11_paper : Jvm.Cond.selects "BurntHall" ⟨"BurntHall", "paper", "(IIIIIII)I"⟩ ⟨"BurntHall", "paper", "(IIIIIII)I"⟩ ∈ b_T := b_m5 (i := 234) rfl rfl
theorem wc_X11_written : Jvm.Cond.code ⟨"BurntHall", "written", "(IIIII)I"⟩ prog_1_method_30_code 6 (Option.some Jvm.ClassFile.FieldType.int) ∈ b_T := b_m6 (i := 27) rfl rfl
theorem wi_X11_written : Jvm.Cond.instanceMethod ⟨"BurntHall", "written", "(IIIII)I"⟩ ∈ b_T := b_m6 (i := 25) rfl rfl
theorem ws_X11_written : Jvm.Cond.selects "BurntHall" ⟨"BurntHall", "written", "(IIIII)I"⟩ ⟨"BurntHall", "written", "(IIIII)I"⟩ ∈ b_T := b_m6 (i := 26) rfl rfl
theorem wc_X11_pages : Jvm.Cond.code ⟨"BurntHall", "pages", "(I)I"⟩ prog_1_method_31_code 3 (Option.some Jvm.ClassFile.FieldType.int) ∈ b_T := b_m6 (i := 36) rfl rfl
theorem wi_X11_pages : Jvm.Cond.instanceMethod ⟨"BurntHall", "pages", "(I)I"⟩ ∈ b_T := b_m6 (i := 34) rfl rfl
theorem ws_X11_pages : Jvm.Cond.selects "BurntHall" ⟨"BurntHall", "pages", "(I)I"⟩ ⟨"BurntHall", "pages", "(I)I"⟩ ∈ b_T := b_m6 (i := 35) rfl rfl
theorem wc_X11_weight : Jvm.Cond.code ⟨"BurntHall", "weight", "(II)I"⟩ prog_1_method_32_code 3 (Option.some Jvm.ClassFile.FieldType.int) ∈ b_T := b_m6 (i := 40) rfl rfl
theorem wi_X11_weight : Jvm.Cond.instanceMethod ⟨"BurntHall", "weight", "(II)I"⟩ ∈ b_T := b_m6 (i := 38) rfl rfl
theorem ws_X11_weight : Jvm.Cond.selects "BurntHall" ⟨"BurntHall", "weight", "(II)I"⟩ ⟨"BurntHall", "weight", "(II)I"⟩ ∈ b_T := b_m6 (i := 39) rfl rfl
theorem wc_X11_cant : Jvm.Cond.code ⟨"BurntHall", "cant", "(II)I"⟩ prog_1_method_33_code 3 (Option.some Jvm.ClassFile.FieldType.int) ∈ b_T := b_m6 (i := 49) rfl rfl
theorem wi_X11_cant : Jvm.Cond.instanceMethod ⟨"BurntHall", "cant", "(II)I"⟩ ∈ b_T := b_m6 (i := 47) rfl rfl
theorem ws_X11_cant : Jvm.Cond.selects "BurntHall" ⟨"BurntHall", "cant", "(II)I"⟩ ⟨"BurntHall", "cant", "(II)I"⟩ ∈ b_T := b_m6 (i := 48) rfl rfl
theorem wc_X11_shown : Jvm.Cond.code ⟨"BurntHall", "shown", "(III)I"⟩ prog_1_method_34_code 4 (Option.some Jvm.ClassFile.FieldType.int) ∈ b_T := b_m6 (i := 78) rfl rfl
theorem wi_X11_shown : Jvm.Cond.instanceMethod ⟨"BurntHall", "shown", "(III)I"⟩ ∈ b_T := b_m6 (i := 76) rfl rfl
theorem ws_X11_shown : Jvm.Cond.selects "BurntHall" ⟨"BurntHall", "shown", "(III)I"⟩ ⟨"BurntHall", "shown", "(III)I"⟩ ∈ b_T := b_m6 (i := 77) rfl rfl
theorem wc_X11_root : Jvm.Cond.code ⟨"BurntHall", "root", "(III)I"⟩ prog_1_method_35_code 4 (Option.some Jvm.ClassFile.FieldType.int) ∈ b_T := b_m6 (i := 135) rfl rfl
theorem wi_X11_root : Jvm.Cond.instanceMethod ⟨"BurntHall", "root", "(III)I"⟩ ∈ b_T := b_m6 (i := 133) rfl rfl
theorem ws_X11_root : Jvm.Cond.selects "BurntHall" ⟨"BurntHall", "root", "(III)I"⟩ ⟨"BurntHall", "root", "(III)I"⟩ ∈ b_T := b_m6 (i := 134) rfl rfl
theorem wc_X11_chain : Jvm.Cond.code ⟨"BurntHall", "chain", "(III)I"⟩ prog_1_method_36_code 5 (Option.some Jvm.ClassFile.FieldType.int) ∈ b_T := b_m6 (i := 139) rfl rfl
theorem wi_X11_chain : Jvm.Cond.instanceMethod ⟨"BurntHall", "chain", "(III)I"⟩ ∈ b_T := b_m6 (i := 137) rfl rfl
theorem ws_X11_chain : Jvm.Cond.selects "BurntHall" ⟨"BurntHall", "chain", "(III)I"⟩ ⟨"BurntHall", "chain", "(III)I"⟩ ∈ b_T := b_m6 (i := 138) rfl rfl
theorem wc_X11_linked : Jvm.Cond.code ⟨"BurntHall", "linked", "(I)I"⟩ prog_1_method_37_code 2 (Option.some Jvm.ClassFile.FieldType.int) ∈ b_T := b_m7 (i := 1) rfl rfl
theorem wi_X11_linked : Jvm.Cond.instanceMethod ⟨"BurntHall", "linked", "(I)I"⟩ ∈ b_T := b_m6 (i := 239) rfl rfl
theorem ws_X11_linked : Jvm.Cond.selects "BurntHall" ⟨"BurntHall", "linked", "(I)I"⟩ ⟨"BurntHall", "linked", "(I)I"⟩ ∈ b_T := b_m7 (i := 0) rfl rfl
theorem wc_X11_judge : Jvm.Cond.code ⟨"BurntHall", "judge", "(III)I"⟩ prog_1_method_38_code 5 (Option.some Jvm.ClassFile.FieldType.int) ∈ b_T := b_m7 (i := 9) rfl rfl
theorem wi_X11_judge : Jvm.Cond.instanceMethod ⟨"BurntHall", "judge", "(III)I"⟩ ∈ b_T := b_m7 (i := 7) rfl rfl
theorem ws_X11_judge : Jvm.Cond.selects "BurntHall" ⟨"BurntHall", "judge", "(III)I"⟩ ⟨"BurntHall", "judge", "(III)I"⟩ ∈ b_T := b_m7 (i := 8) rfl rfl
theorem wc_X11_held : Jvm.Cond.code ⟨"BurntHall", "held", "(IIII)I"⟩ prog_1_method_39_code 5 (Option.some Jvm.ClassFile.FieldType.int) ∈ b_T := b_m7 (i := 30) rfl rfl
theorem wi_X11_held : Jvm.Cond.instanceMethod ⟨"BurntHall", "held", "(IIII)I"⟩ ∈ b_T := b_m7 (i := 28) rfl rfl
theorem ws_X11_held : Jvm.Cond.selects "BurntHall" ⟨"BurntHall", "held", "(IIII)I"⟩ ⟨"BurntHall", "held", "(IIII)I"⟩ ∈ b_T := b_m7 (i := 29) rfl rfl
theorem wc_X11_mortgage : Jvm.Cond.code ⟨"BurntHall", "mortgage", "(IIIII)I"⟩ prog_1_method_40_code 6 (Option.some Jvm.ClassFile.FieldType.int) ∈ b_T := b_m7 (i := 46) rfl rfl
theorem wi_X11_mortgage : Jvm.Cond.instanceMethod ⟨"BurntHall", "mortgage", "(IIIII)I"⟩ ∈ b_T := b_m7 (i := 44) rfl rfl
theorem ws_X11_mortgage : Jvm.Cond.selects "BurntHall" ⟨"BurntHall", "mortgage", "(IIIII)I"⟩ ⟨"BurntHall", "mortgage", "(IIIII)I"⟩ ∈ b_T := b_m7 (i := 45) rfl rfl
theorem wc_X11_paid : Jvm.Cond.code ⟨"BurntHall", "paid", "(II)I"⟩ prog_1_method_41_code 3 (Option.some Jvm.ClassFile.FieldType.int) ∈ b_T := b_m7 (i := 55) rfl rfl
theorem wi_X11_paid : Jvm.Cond.instanceMethod ⟨"BurntHall", "paid", "(II)I"⟩ ∈ b_T := b_m7 (i := 53) rfl rfl
theorem ws_X11_paid : Jvm.Cond.selects "BurntHall" ⟨"BurntHall", "paid", "(II)I"⟩ ⟨"BurntHall", "paid", "(II)I"⟩ ∈ b_T := b_m7 (i := 54) rfl rfl
theorem wc_X11_stands : Jvm.Cond.code ⟨"BurntHall", "stands", "(III)I"⟩ prog_1_method_42_code 4 (Option.some Jvm.ClassFile.FieldType.int) ∈ b_T := b_m7 (i := 67) rfl rfl
theorem wi_X11_stands : Jvm.Cond.instanceMethod ⟨"BurntHall", "stands", "(III)I"⟩ ∈ b_T := b_m7 (i := 65) rfl rfl
theorem ws_X11_stands : Jvm.Cond.selects "BurntHall" ⟨"BurntHall", "stands", "(III)I"⟩ ⟨"BurntHall", "stands", "(III)I"⟩ ∈ b_T := b_m7 (i := 66) rfl rfl
theorem wc_X11_rank : Jvm.Cond.code ⟨"BurntHall", "rank", "(III)I"⟩ prog_1_method_43_code 4 (Option.some Jvm.ClassFile.FieldType.int) ∈ b_T := b_m7 (i := 77) rfl rfl
theorem wi_X11_rank : Jvm.Cond.instanceMethod ⟨"BurntHall", "rank", "(III)I"⟩ ∈ b_T := b_m7 (i := 75) rfl rfl
theorem ws_X11_rank : Jvm.Cond.selects "BurntHall" ⟨"BurntHall", "rank", "(III)I"⟩ ⟨"BurntHall", "rank", "(III)I"⟩ ∈ b_T := b_m7 (i := 76) rfl rfl
theorem wc_X11_claim : Jvm.Cond.code ⟨"BurntHall", "claim", "(II)I"⟩ prog_1_method_44_code 3 (Option.some Jvm.ClassFile.FieldType.int) ∈ b_T := b_m7 (i := 87) rfl rfl
theorem wi_X11_claim : Jvm.Cond.instanceMethod ⟨"BurntHall", "claim", "(II)I"⟩ ∈ b_T := b_m7 (i := 85) rfl rfl
theorem ws_X11_claim : Jvm.Cond.selects "BurntHall" ⟨"BurntHall", "claim", "(II)I"⟩ ⟨"BurntHall", "claim", "(II)I"⟩ ∈ b_T := b_m7 (i := 86) rfl rfl
theorem wc_X11_sit : Jvm.Cond.code ⟨"BurntHall", "sit", "(I)I"⟩ prog_1_method_45_code 2 (Option.some Jvm.ClassFile.FieldType.int) ∈ b_T := b_m7 (i := 100) rfl rfl
theorem wi_X11_sit : Jvm.Cond.instanceMethod ⟨"BurntHall", "sit", "(I)I"⟩ ∈ b_T := b_m7 (i := 98) rfl rfl
theorem ws_X11_sit : Jvm.Cond.selects "BurntHall" ⟨"BurntHall", "sit", "(I)I"⟩ ⟨"BurntHall", "sit", "(I)I"⟩ ∈ b_T := b_m7 (i := 99) rfl rfl
theorem wc_X11_worth : Jvm.Cond.code ⟨"BurntHall", "worth", "(I)I"⟩ prog_1_method_46_code 2 (Option.some Jvm.ClassFile.FieldType.int) ∈ b_T := b_m7 (i := 124) rfl rfl
theorem wi_X11_worth : Jvm.Cond.instanceMethod ⟨"BurntHall", "worth", "(I)I"⟩ ∈ b_T := b_m7 (i := 122) rfl rfl
theorem ws_X11_worth : Jvm.Cond.selects "BurntHall" ⟨"BurntHall", "worth", "(I)I"⟩ ⟨"BurntHall", "worth", "(I)I"⟩ ∈ b_T := b_m7 (i := 123) rfl rfl
theorem wc_X11_claimed : Jvm.Cond.code ⟨"BurntHall", "claimed", "(II)I"⟩ prog_1_method_47_code 3 (Option.some Jvm.ClassFile.FieldType.int) ∈ b_T := b_m7 (i := 133) rfl rfl
theorem wi_X11_claimed : Jvm.Cond.instanceMethod ⟨"BurntHall", "claimed", "(II)I"⟩ ∈ b_T := b_m7 (i := 131) rfl rfl
theorem ws_X11_claimed : Jvm.Cond.selects "BurntHall" ⟨"BurntHall", "claimed", "(II)I"⟩ ⟨"BurntHall", "claimed", "(II)I"⟩ ∈ b_T := b_m7 (i := 132) rfl rfl
theorem wc_X11_ruled : Jvm.Cond.code ⟨"BurntHall", "ruled", "(II)I"⟩ prog_1_method_48_code 3 (Option.some Jvm.ClassFile.FieldType.int) ∈ b_T := b_m7 (i := 154) rfl rfl
theorem wi_X11_ruled : Jvm.Cond.instanceMethod ⟨"BurntHall", "ruled", "(II)I"⟩ ∈ b_T := b_m7 (i := 152) rfl rfl
theorem ws_X11_ruled : Jvm.Cond.selects "BurntHall" ⟨"BurntHall", "ruled", "(II)I"⟩ ⟨"BurntHall", "ruled", "(II)I"⟩ ∈ b_T := b_m7 (i := 153) rfl rfl
theorem wc_X11_open : Jvm.Cond.code ⟨"BurntHall", "open", "(I)I"⟩ prog_1_method_49_code 2 (Option.some Jvm.ClassFile.FieldType.int) ∈ b_T := b_m7 (i := 162) rfl rfl
theorem wi_X11_open : Jvm.Cond.instanceMethod ⟨"BurntHall", "open", "(I)I"⟩ ∈ b_T := b_m7 (i := 160) rfl rfl
theorem ws_X11_open : Jvm.Cond.selects "BurntHall" ⟨"BurntHall", "open", "(I)I"⟩ ⟨"BurntHall", "open", "(I)I"⟩ ∈ b_T := b_m7 (i := 161) rfl rfl
theorem wc_X11_fund : Jvm.Cond.code ⟨"BurntHall", "fund", "(I)I"⟩ prog_1_method_50_code 2 (Option.some Jvm.ClassFile.FieldType.int) ∈ b_T := b_m7 (i := 176) rfl rfl
theorem wi_X11_fund : Jvm.Cond.instanceMethod ⟨"BurntHall", "fund", "(I)I"⟩ ∈ b_T := b_m7 (i := 174) rfl rfl
theorem ws_X11_fund : Jvm.Cond.selects "BurntHall" ⟨"BurntHall", "fund", "(I)I"⟩ ⟨"BurntHall", "fund", "(I)I"⟩ ∈ b_T := b_m7 (i := 175) rfl rfl
theorem wc_X11_place : Jvm.Cond.code ⟨"BurntHall", "place", "(III)I"⟩ prog_1_method_51_code 4 (Option.some Jvm.ClassFile.FieldType.int) ∈ b_T := b_m7 (i := 185) rfl rfl
theorem wi_X11_place : Jvm.Cond.instanceMethod ⟨"BurntHall", "place", "(III)I"⟩ ∈ b_T := b_m7 (i := 183) rfl rfl
theorem ws_X11_place : Jvm.Cond.selects "BurntHall" ⟨"BurntHall", "place", "(III)I"⟩ ⟨"BurntHall", "place", "(III)I"⟩ ∈ b_T := b_m7 (i := 184) rfl rfl
theorem wc_X11_settles : Jvm.Cond.code ⟨"BurntHall", "settles", "(I)I"⟩ prog_1_method_52_code 2 (Option.some Jvm.ClassFile.FieldType.int) ∈ b_T := b_m7 (i := 193) rfl rfl
theorem wi_X11_settles : Jvm.Cond.instanceMethod ⟨"BurntHall", "settles", "(I)I"⟩ ∈ b_T := b_m7 (i := 191) rfl rfl
theorem ws_X11_settles : Jvm.Cond.selects "BurntHall" ⟨"BurntHall", "settles", "(I)I"⟩ ⟨"BurntHall", "settles", "(I)I"⟩ ∈ b_T := b_m7 (i := 192) rfl rfl
theorem wc_X11_next : Jvm.Cond.code ⟨"BurntHall", "next", "(I)I"⟩ prog_1_method_53_code 2 (Option.some Jvm.ClassFile.FieldType.int) ∈ b_T := b_m7 (i := 222) rfl rfl
theorem wi_X11_next : Jvm.Cond.instanceMethod ⟨"BurntHall", "next", "(I)I"⟩ ∈ b_T := b_m7 (i := 220) rfl rfl
theorem ws_X11_next : Jvm.Cond.selects "BurntHall" ⟨"BurntHall", "next", "(I)I"⟩ ⟨"BurntHall", "next", "(I)I"⟩ ∈ b_T := b_m7 (i := 221) rfl rfl
theorem wc_X11_looked : Jvm.Cond.code ⟨"BurntHall", "looked", "(I)I"⟩ prog_1_method_54_code 2 (Option.some Jvm.ClassFile.FieldType.int) ∈ b_T := b_m7 (i := 234) rfl rfl
theorem wi_X11_looked : Jvm.Cond.instanceMethod ⟨"BurntHall", "looked", "(I)I"⟩ ∈ b_T := b_m7 (i := 232) rfl rfl
theorem ws_X11_looked : Jvm.Cond.selects "BurntHall" ⟨"BurntHall", "looked", "(I)I"⟩ ⟨"BurntHall", "looked", "(I)I"⟩ ∈ b_T := b_m7 (i := 233) rfl rfl
theorem wc_X11_count : Jvm.Cond.code ⟨"BurntHall", "count", "(I)I"⟩ prog_1_method_55_code 2 (Option.some Jvm.ClassFile.FieldType.int) ∈ b_T := b_m8 (i := 2) rfl rfl
theorem wi_X11_count : Jvm.Cond.instanceMethod ⟨"BurntHall", "count", "(I)I"⟩ ∈ b_T := b_m8 (i := 0) rfl rfl
theorem ws_X11_count : Jvm.Cond.selects "BurntHall" ⟨"BurntHall", "count", "(I)I"⟩ ⟨"BurntHall", "count", "(I)I"⟩ ∈ b_T := b_m8 (i := 1) rfl rfl
theorem wc_X11_isDay : Jvm.Cond.code ⟨"BurntHall", "isDay", "(I)Z"⟩ prog_1_method_56_code 1 (Option.some Jvm.ClassFile.FieldType.boolean) ∈ b_T := b_m4 (i := 14) rfl rfl
theorem wi_X11_isDay : Jvm.Cond.static ⟨"BurntHall", "isDay", "(I)Z"⟩ ∈ b_T := b_m4 (i := 13) rfl rfl
theorem wc_X11_isNoneOr : Jvm.Cond.code ⟨"BurntHall", "isNoneOr", "(II)Z"⟩ prog_1_method_57_code 2 (Option.some Jvm.ClassFile.FieldType.boolean) ∈ b_T := b_m5 (i := 238) rfl rfl
theorem wi_X11_isNoneOr : Jvm.Cond.static ⟨"BurntHall", "isNoneOr", "(II)Z"⟩ ∈ b_T := b_m5 (i := 237) rfl rfl
theorem wc_X12_init : Jvm.Cond.code ⟨"BurntHallModel", "<init>", "()V"⟩ prog_14_method_1_code 2 (Option.none : Option Jvm.ClassFile.FieldType) ∈ b_T := b_m8 (i := 11) rfl rfl
theorem wi_X12_init : Jvm.Cond.instanceMethod ⟨"BurntHallModel", "<init>", "()V"⟩ ∈ b_T := b_m8 (i := 10) rfl rfl
theorem wn_12 : Jvm.Cond.initialized "BurntHallModel" ∈ b_T := b_m1 (i := 18) rfl rfl
theorem wc_X12_in : Jvm.Cond.code ⟨"BurntHallModel", "in", "(III)Z"⟩ prog_14_method_2_code 3 (Option.some Jvm.ClassFile.FieldType.boolean) ∈ b_T := b_m9 (i := 170) rfl rfl
theorem wi_X12_in : Jvm.Cond.static ⟨"BurntHallModel", "in", "(III)Z"⟩ ∈ b_T := b_m9 (i := 169) rfl rfl
theorem wc_X12_isDay : Jvm.Cond.code ⟨"BurntHallModel", "isDay", "(I)Z"⟩ prog_14_method_3_code 1 (Option.some Jvm.ClassFile.FieldType.boolean) ∈ b_T := b_m9 (i := 177) rfl rfl
theorem wi_X12_isDay : Jvm.Cond.static ⟨"BurntHallModel", "isDay", "(I)Z"⟩ ∈ b_T := b_m9 (i := 176) rfl rfl
theorem wc_X12_feed : Jvm.Cond.code ⟨"BurntHallModel", "feed", "(IIIII)I"⟩ prog_14_method_4_code 9 (Option.some Jvm.ClassFile.FieldType.int) ∈ b_T := b_m9 (i := 155) rfl rfl
theorem wi_X12_feed : Jvm.Cond.instanceMethod ⟨"BurntHallModel", "feed", "(IIIII)I"⟩ ∈ b_T := b_m9 (i := 153) rfl rfl
theorem ws_X12_feed : Jvm.Cond.selects "BurntHallModel" ⟨"BurntHallModel", "feed", "(IIIII)I"⟩ ⟨"BurntHallModel", "feed", "(IIIII)I"⟩ ∈ b_T := b_m9 (i := 154) rfl rfl
theorem wc_X12_end : Jvm.Cond.code ⟨"BurntHallModel", "end", "(I)I"⟩ prog_14_method_5_code 2 (Option.some Jvm.ClassFile.FieldType.int) ∈ b_T := b_m9 (i := 159) rfl rfl
theorem wi_X12_end : Jvm.Cond.instanceMethod ⟨"BurntHallModel", "end", "(I)I"⟩ ∈ b_T := b_m9 (i := 157) rfl rfl
theorem ws_X12_end : Jvm.Cond.selects "BurntHallModel" ⟨"BurntHallModel", "end", "(I)I"⟩ ⟨"BurntHallModel", "end", "(I)I"⟩ ∈ b_T := b_m9 (i := 158) rfl rfl
theorem wc_X12_take : Jvm.Cond.code ⟨"BurntHallModel", "take", "()V"⟩ prog_14_method_6_code 1 (Option.none : Option Jvm.ClassFile.FieldType) ∈ b_T := b_m10 (i := 26) rfl rfl
theorem wi_X12_take : Jvm.Cond.instanceMethod ⟨"BurntHallModel", "take", "()V"⟩ ∈ b_T := b_m10 (i := 25) rfl rfl
theorem ws_X12_take : Jvm.Cond.selects "BurntHallModel" ⟨"BurntHallModel", "take", "()V"⟩ ⟨"BurntHallModel", "take", "()V"⟩ ∈ b_T := b_memS (i := 74) (q := (⟨"BurntHallModel", "take", "()V"⟩, 125)) rfl
theorem wc_X12_see : Jvm.Cond.code ⟨"BurntHallModel", "see", "(I)I"⟩ prog_14_method_7_code 2 (Option.some Jvm.ClassFile.FieldType.int) ∈ b_T := b_m10 (i := 34) rfl rfl
theorem wi_X12_see : Jvm.Cond.instanceMethod ⟨"BurntHallModel", "see", "(I)I"⟩ ∈ b_T := b_m10 (i := 33) rfl rfl
theorem ws_X12_see : Jvm.Cond.selects "BurntHallModel" ⟨"BurntHallModel", "see", "(I)I"⟩ ⟨"BurntHallModel", "see", "(I)I"⟩ ∈ b_T := b_memS (i := 76) (q := (⟨"BurntHallModel", "see", "(I)I"⟩, 125)) rfl
theorem wc_X12_isSmall : Jvm.Cond.code ⟨"BurntHallModel", "isSmall", "(I)Z"⟩ prog_14_method_8_code 1 (Option.some Jvm.ClassFile.FieldType.boolean) ∈ b_T := b_m10 (i := 37) rfl rfl
theorem wi_X12_isSmall : Jvm.Cond.static ⟨"BurntHallModel", "isSmall", "(I)Z"⟩ ∈ b_T := b_m10 (i := 36) rfl rfl
theorem wc_X12_isDigit : Jvm.Cond.code ⟨"BurntHallModel", "isDigit", "(I)Z"⟩ prog_14_method_9_code 1 (Option.some Jvm.ClassFile.FieldType.boolean) ∈ b_T := b_m10 (i := 49) rfl rfl
theorem wi_X12_isDigit : Jvm.Cond.static ⟨"BurntHallModel", "isDigit", "(I)Z"⟩ ∈ b_T := b_m10 (i := 48) rfl rfl
theorem wc_X12_keyAt : Jvm.Cond.code ⟨"BurntHallModel", "keyAt", "(II)I"⟩ prog_14_method_10_code 8 (Option.some Jvm.ClassFile.FieldType.int) ∈ b_T := b_m10 (i := 43) rfl rfl
theorem wi_X12_keyAt : Jvm.Cond.instanceMethod ⟨"BurntHallModel", "keyAt", "(II)I"⟩ ∈ b_T := b_m10 (i := 42) rfl rfl
theorem ws_X12_keyAt : Jvm.Cond.selects "BurntHallModel" ⟨"BurntHallModel", "keyAt", "(II)I"⟩ ⟨"BurntHallModel", "keyAt", "(II)I"⟩ ∈ b_T := b_memS (i := 77) (q := (⟨"BurntHallModel", "keyAt", "(II)I"⟩, 125)) rfl
theorem wc_X12_scan : Jvm.Cond.code ⟨"BurntHallModel", "scan", "()V"⟩ prog_14_method_11_code 4 (Option.none : Option Jvm.ClassFile.FieldType) ∈ b_T := b_m10 (i := 30) rfl rfl
theorem wi_X12_scan : Jvm.Cond.instanceMethod ⟨"BurntHallModel", "scan", "()V"⟩ ∈ b_T := b_m10 (i := 29) rfl rfl
theorem ws_X12_scan : Jvm.Cond.selects "BurntHallModel" ⟨"BurntHallModel", "scan", "()V"⟩ ⟨"BurntHallModel", "scan", "()V"⟩ ∈ b_T := b_memS (i := 75) (q := (⟨"BurntHallModel", "scan", "()V"⟩, 125)) rfl
theorem wc_X12_wrong : Jvm.Cond.code ⟨"BurntHallModel", "wrong", "(I)Z"⟩ prog_14_method_12_code 2 (Option.some Jvm.ClassFile.FieldType.boolean) ∈ b_T := b_m10 (i := 57) rfl rfl
theorem wi_X12_wrong : Jvm.Cond.instanceMethod ⟨"BurntHallModel", "wrong", "(I)Z"⟩ ∈ b_T := b_m10 (i := 56) rfl rfl
theorem ws_X12_wrong : Jvm.Cond.selects "BurntHallModel" ⟨"BurntHallModel", "wrong", "(I)Z"⟩ ⟨"BurntHallModel", "wrong", "(I)Z"⟩ ∈ b_T := b_memS (i := 79) (q := (⟨"BurntHallModel", "wrong", "(I)Z"⟩, 125)) rfl
theorem wc_X12_fault : Jvm.Cond.code ⟨"BurntHallModel", "fault", "(I)I"⟩ prog_14_method_13_code 2 (Option.some Jvm.ClassFile.FieldType.int) ∈ b_T := b_m9 (i := 163) rfl rfl
theorem wi_X12_fault : Jvm.Cond.instanceMethod ⟨"BurntHallModel", "fault", "(I)I"⟩ ∈ b_T := b_m9 (i := 161) rfl rfl
theorem ws_X12_fault : Jvm.Cond.selects "BurntHallModel" ⟨"BurntHallModel", "fault", "(I)I"⟩ ⟨"BurntHallModel", "fault", "(I)I"⟩ ∈ b_T := b_m9 (i := 162) rfl rfl
theorem wc_X12_pass : Jvm.Cond.code ⟨"BurntHallModel", "pass", "(I)I"⟩ prog_14_method_14_code 2 (Option.some Jvm.ClassFile.FieldType.int) ∈ b_T := b_m9 (i := 167) rfl rfl
theorem wi_X12_pass : Jvm.Cond.instanceMethod ⟨"BurntHallModel", "pass", "(I)I"⟩ ∈ b_T := b_m9 (i := 165) rfl rfl
theorem ws_X12_pass : Jvm.Cond.selects "BurntHallModel" ⟨"BurntHallModel", "pass", "(I)I"⟩ ⟨"BurntHallModel", "pass", "(I)I"⟩ ∈ b_T := b_m9 (i := 166) rfl rfl
theorem wc_X12_person : Jvm.Cond.code ⟨"BurntHallModel", "person", "(I)I"⟩ prog_14_method_15_code 2 (Option.some Jvm.ClassFile.FieldType.int) ∈ b_T := b_m9 (i := 174) rfl rfl
theorem wi_X12_person : Jvm.Cond.instanceMethod ⟨"BurntHallModel", "person", "(I)I"⟩ ∈ b_T := b_m9 (i := 172) rfl rfl
theorem ws_X12_person : Jvm.Cond.selects "BurntHallModel" ⟨"BurntHallModel", "person", "(I)I"⟩ ⟨"BurntHallModel", "person", "(I)I"⟩ ∈ b_T := b_m9 (i := 173) rfl rfl
theorem wc_X12_isPerson : Jvm.Cond.code ⟨"BurntHallModel", "isPerson", "(I)Z"⟩ prog_14_method_16_code 2 (Option.some Jvm.ClassFile.FieldType.boolean) ∈ b_T := b_m9 (i := 185) rfl rfl
theorem wi_X12_isPerson : Jvm.Cond.instanceMethod ⟨"BurntHallModel", "isPerson", "(I)Z"⟩ ∈ b_T := b_m9 (i := 184) rfl rfl
theorem ws_X12_isPerson : Jvm.Cond.selects "BurntHallModel" ⟨"BurntHallModel", "isPerson", "(I)Z"⟩ ⟨"BurntHallModel", "isPerson", "(I)Z"⟩ ∈ b_T := b_memS (i := 67) (q := (⟨"BurntHallModel", "isPerson", "(I)Z"⟩, 125)) rfl
theorem wc_X12_tell : Jvm.Cond.code ⟨"BurntHallModel", "tell", "(III)I"⟩ prog_14_method_17_code 4 (Option.some Jvm.ClassFile.FieldType.int) ∈ b_T := b_m9 (i := 189) rfl rfl
theorem wi_X12_tell : Jvm.Cond.instanceMethod ⟨"BurntHallModel", "tell", "(III)I"⟩ ∈ b_T := b_m9 (i := 188) rfl rfl
theorem ws_X12_tell : Jvm.Cond.selects "BurntHallModel" ⟨"BurntHallModel", "tell", "(III)I"⟩ ⟨"BurntHallModel", "tell", "(III)I"⟩ ∈ b_T := b_memS (i := 68) (q := (⟨"BurntHallModel", "tell", "(III)I"⟩, 125)) rfl
theorem wc_X12_dead : Jvm.Cond.code ⟨"BurntHallModel", "dead", "(II)I"⟩ prog_14_method_18_code 3 (Option.some Jvm.ClassFile.FieldType.int) ∈ b_T := b_m9 (i := 181) rfl rfl
theorem wi_X12_dead : Jvm.Cond.instanceMethod ⟨"BurntHallModel", "dead", "(II)I"⟩ ∈ b_T := b_m9 (i := 179) rfl rfl
theorem ws_X12_dead : Jvm.Cond.selects "BurntHallModel" ⟨"BurntHallModel", "dead", "(II)I"⟩ ⟨"BurntHallModel", "dead", "(II)I"⟩ ∈ b_T := b_m9 (i := 180) rfl rfl
theorem wc_X12_isPair : Jvm.Cond.code ⟨"BurntHallModel", "isPair", "(II)Z"⟩ prog_14_method_19_code 3 (Option.some Jvm.ClassFile.FieldType.boolean) ∈ b_T := b_m9 (i := 197) rfl rfl
theorem wi_X12_isPair : Jvm.Cond.instanceMethod ⟨"BurntHallModel", "isPair", "(II)Z"⟩ ∈ b_T := b_m9 (i := 196) rfl rfl
theorem ws_X12_isPair : Jvm.Cond.selects "BurntHallModel" ⟨"BurntHallModel", "isPair", "(II)Z"⟩ ⟨"BurntHallModel", "isPair", "(II)Z"⟩ ∈ b_T := b_memS (i := 69) (q := (⟨"BurntHallModel", "isPair", "(II)Z"⟩, 125)) rfl
theorem wc_X12_same : Jvm.Cond.code ⟨"BurntHallModel", "same", "(II)I"⟩ prog_14_method_20_code 3 (Option.some Jvm.ClassFile.FieldType.int) ∈ b_T := b_m9 (i := 193) rfl rfl
theorem wi_X12_same : Jvm.Cond.instanceMethod ⟨"BurntHallModel", "same", "(II)I"⟩ ∈ b_T := b_m9 (i := 191) rfl rfl
theorem ws_X12_same : Jvm.Cond.selects "BurntHallModel" ⟨"BurntHallModel", "same", "(II)I"⟩ ⟨"BurntHallModel", "same", "(II)I"⟩ ∈ b_T := b_m9 (i := 192) rfl rfl
theorem wc_X12_apart : Jvm.Cond.code ⟨"BurntHallModel", "apart", "(II)I"⟩ prog_14_method_21_code 3 (Option.some Jvm.ClassFile.FieldType.int) ∈ b_T := b_m9 (i := 201) rfl rfl
theorem wi_X12_apart : Jvm.Cond.instanceMethod ⟨"BurntHallModel", "apart", "(II)I"⟩ ∈ b_T := b_m9 (i := 199) rfl rfl
theorem ws_X12_apart : Jvm.Cond.selects "BurntHallModel" ⟨"BurntHallModel", "apart", "(II)I"⟩ ⟨"BurntHallModel", "apart", "(II)I"⟩ ∈ b_T := b_m9 (i := 200) rfl rfl
theorem wc_X12_child : Jvm.Cond.code ⟨"BurntHallModel", "child", "(II)I"⟩ prog_14_method_22_code 3 (Option.some Jvm.ClassFile.FieldType.int) ∈ b_T := b_m9 (i := 205) rfl rfl
theorem wi_X12_child : Jvm.Cond.instanceMethod ⟨"BurntHallModel", "child", "(II)I"⟩ ∈ b_T := b_m9 (i := 203) rfl rfl
theorem ws_X12_child : Jvm.Cond.selects "BurntHallModel" ⟨"BurntHallModel", "child", "(II)I"⟩ ⟨"BurntHallModel", "child", "(II)I"⟩ ∈ b_T := b_m9 (i := 204) rfl rfl
theorem wc_X12_makeOnes : Jvm.Cond.code ⟨"BurntHallModel", "makeOnes", "(I)V"⟩ prog_14_method_23_code 8 (Option.none : Option Jvm.ClassFile.FieldType) ∈ b_T := b_m9 (i := 213) rfl rfl
theorem wi_X12_makeOnes : Jvm.Cond.instanceMethod ⟨"BurntHallModel", "makeOnes", "(I)V"⟩ ∈ b_T := b_m9 (i := 212) rfl rfl
theorem ws_X12_makeOnes : Jvm.Cond.selects "BurntHallModel" ⟨"BurntHallModel", "makeOnes", "(I)V"⟩ ⟨"BurntHallModel", "makeOnes", "(I)V"⟩ ∈ b_T := b_memS (i := 70) (q := (⟨"BurntHallModel", "makeOnes", "(I)V"⟩, 125)) rfl
theorem wc_X12_deadOf : Jvm.Cond.code ⟨"BurntHallModel", "deadOf", "(II)I"⟩ prog_14_method_24_code 5 (Option.some Jvm.ClassFile.FieldType.int) ∈ b_T := b_m9 (i := 217) rfl rfl
theorem wi_X12_deadOf : Jvm.Cond.instanceMethod ⟨"BurntHallModel", "deadOf", "(II)I"⟩ ∈ b_T := b_m9 (i := 216) rfl rfl
theorem ws_X12_deadOf : Jvm.Cond.selects "BurntHallModel" ⟨"BurntHallModel", "deadOf", "(II)I"⟩ ⟨"BurntHallModel", "deadOf", "(II)I"⟩ ∈ b_T := b_memS (i := 71) (q := (⟨"BurntHallModel", "deadOf", "(II)I"⟩, 125)) rfl
theorem wc_X12_isChild : Jvm.Cond.code ⟨"BurntHallModel", "isChild", "(III)Z"⟩ prog_14_method_25_code 5 (Option.some Jvm.ClassFile.FieldType.boolean) ∈ b_T := b_m11 (i := 36) rfl rfl
theorem wi_X12_isChild : Jvm.Cond.instanceMethod ⟨"BurntHallModel", "isChild", "(III)Z"⟩ ∈ b_T := b_m11 (i := 35) rfl rfl
theorem ws_X12_isChild : Jvm.Cond.selects "BurntHallModel" ⟨"BurntHallModel", "isChild", "(III)Z"⟩ ⟨"BurntHallModel", "isChild", "(III)Z"⟩ ∈ b_T := b_memS (i := 116) (q := (⟨"BurntHallModel", "isChild", "(III)Z"⟩, 125)) rfl
theorem wc_X12_deadOn : Jvm.Cond.code ⟨"BurntHallModel", "deadOn", "(II)I"⟩ prog_14_method_26_code 3 (Option.some Jvm.ClassFile.FieldType.int) ∈ b_T := b_m9 (i := 209) rfl rfl
theorem wi_X12_deadOn : Jvm.Cond.instanceMethod ⟨"BurntHallModel", "deadOn", "(II)I"⟩ ∈ b_T := b_m9 (i := 207) rfl rfl
theorem ws_X12_deadOn : Jvm.Cond.selects "BurntHallModel" ⟨"BurntHallModel", "deadOn", "(II)I"⟩ ⟨"BurntHallModel", "deadOn", "(II)I"⟩ ∈ b_T := b_m9 (i := 208) rfl rfl
theorem wc_X12_one : Jvm.Cond.code ⟨"BurntHallModel", "one", "(III)I"⟩ prog_14_method_27_code 4 (Option.some Jvm.ClassFile.FieldType.int) ∈ b_T := b_m9 (i := 221) rfl rfl
theorem wi_X12_one : Jvm.Cond.instanceMethod ⟨"BurntHallModel", "one", "(III)I"⟩ ∈ b_T := b_m9 (i := 219) rfl rfl
theorem ws_X12_one : Jvm.Cond.selects "BurntHallModel" ⟨"BurntHallModel", "one", "(III)I"⟩ ⟨"BurntHallModel", "one", "(III)I"⟩ ∈ b_T := b_m9 (i := 220) rfl rfl
theorem wc_X12_names : Jvm.Cond.code ⟨"BurntHallModel", "names", "(I)I"⟩ prog_14_method_28_code 4 (Option.some Jvm.ClassFile.FieldType.int) ∈ b_T := b_m9 (i := 225) rfl rfl
theorem wi_X12_names : Jvm.Cond.instanceMethod ⟨"BurntHallModel", "names", "(I)I"⟩ ∈ b_T := b_m9 (i := 223) rfl rfl
theorem ws_X12_names : Jvm.Cond.selects "BurntHallModel" ⟨"BurntHallModel", "names", "(I)I"⟩ ⟨"BurntHallModel", "names", "(I)I"⟩ ∈ b_T := b_m9 (i := 224) rfl rfl
theorem wc_X12_isLot : Jvm.Cond.code ⟨"BurntHallModel", "isLot", "(I)Z"⟩ prog_14_method_29_code 2 (Option.some Jvm.ClassFile.FieldType.boolean) ∈ b_T := b_m10 (i := 5) rfl rfl
theorem wi_X12_isLot : Jvm.Cond.instanceMethod ⟨"BurntHallModel", "isLot", "(I)Z"⟩ ∈ b_T := b_m10 (i := 4) rfl rfl
theorem ws_X12_isLot : Jvm.Cond.selects "BurntHallModel" ⟨"BurntHallModel", "isLot", "(I)Z"⟩ ⟨"BurntHallModel", "isLot", "(I)Z"⟩ ∈ b_T := b_memS (i := 73) (q := (⟨"BurntHallModel", "isLot", "(I)Z"⟩, 125)) rfl
theorem wc_X12_isFeet : Jvm.Cond.code ⟨"BurntHallModel", "isFeet", "(I)Z"⟩ prog_14_method_30_code 1 (Option.some Jvm.ClassFile.FieldType.boolean) ∈ b_T := b_m9 (i := 232) rfl rfl
theorem wi_X12_isFeet : Jvm.Cond.static ⟨"BurntHallModel", "isFeet", "(I)Z"⟩ ∈ b_T := b_m9 (i := 231) rfl rfl
theorem wc_X12_add : Jvm.Cond.code ⟨"BurntHallModel", "add", "(IIJ)I"⟩ prog_14_method_31_code 5 (Option.some Jvm.ClassFile.FieldType.int) ∈ b_T := b_m9 (i := 237) rfl rfl
theorem wi_X12_add : Jvm.Cond.instanceMethod ⟨"BurntHallModel", "add", "(IIJ)I"⟩ ∈ b_T := b_m9 (i := 236) rfl rfl
theorem ws_X12_add : Jvm.Cond.selects "BurntHallModel" ⟨"BurntHallModel", "add", "(IIJ)I"⟩ ⟨"BurntHallModel", "add", "(IIJ)I"⟩ ∈ b_T := b_memS (i := 72) (q := (⟨"BurntHallModel", "add", "(IIJ)I"⟩, 125)) rfl
theorem wc_X12_lot : Jvm.Cond.code ⟨"BurntHallModel", "lot", "(II)I"⟩ prog_14_method_32_code 3 (Option.some Jvm.ClassFile.FieldType.int) ∈ b_T := b_m9 (i := 229) rfl rfl
theorem wi_X12_lot : Jvm.Cond.instanceMethod ⟨"BurntHallModel", "lot", "(II)I"⟩ ∈ b_T := b_m9 (i := 227) rfl rfl
theorem ws_X12_lot : Jvm.Cond.selects "BurntHallModel" ⟨"BurntHallModel", "lot", "(II)I"⟩ ⟨"BurntHallModel", "lot", "(II)I"⟩ ∈ b_T := b_m9 (i := 228) rfl rfl
theorem wc_X12_split : Jvm.Cond.code ⟨"BurntHallModel", "split", "(IIIIIII)I"⟩ prog_14_method_33_code 9 (Option.some Jvm.ClassFile.FieldType.int) ∈ b_T := b_m10 (i := 1) rfl rfl
theorem wi_X12_split : Jvm.Cond.instanceMethod ⟨"BurntHallModel", "split", "(IIIIIII)I"⟩ ∈ b_T := b_m9 (i := 239) rfl rfl
theorem ws_X12_split : Jvm.Cond.selects "BurntHallModel" ⟨"BurntHallModel", "split", "(IIIIIII)I"⟩ ⟨"BurntHallModel", "split", "(IIIIIII)I"⟩ ∈ b_T := b_m10 (i := 0) rfl rfl
theorem wc_X12_join : Jvm.Cond.code ⟨"BurntHallModel", "join", "(IIIIIII)I"⟩ prog_14_method_34_code 14 (Option.some Jvm.ClassFile.FieldType.int) ∈ b_T := b_m10 (i := 9) rfl rfl
theorem wi_X12_join : Jvm.Cond.instanceMethod ⟨"BurntHallModel", "join", "(IIIIIII)I"⟩ ∈ b_T := b_m10 (i := 7) rfl rfl
theorem ws_X12_join : Jvm.Cond.selects "BurntHallModel" ⟨"BurntHallModel", "join", "(IIIIIII)I"⟩ ⟨"BurntHallModel", "join", "(IIIIIII)I"⟩ ∈ b_T := b_m10 (i := 8) rfl rfl
theorem wc_X12_isThere : Jvm.Cond.code ⟨"BurntHallModel", "isThere", "(II)Z"⟩ prog_14_method_35_code 3 (Option.some Jvm.ClassFile.FieldType.boolean) ∈ b_T := b_m11 (i := 121) rfl rfl
theorem wi_X12_isThere : Jvm.Cond.instanceMethod ⟨"BurntHallModel", "isThere", "(II)Z"⟩ ∈ b_T := b_m11 (i := 120) rfl rfl
theorem ws_X12_isThere : Jvm.Cond.selects "BurntHallModel" ⟨"BurntHallModel", "isThere", "(II)Z"⟩ ⟨"BurntHallModel", "isThere", "(II)Z"⟩ ∈ b_T := b_memS (i := 129) (q := (⟨"BurntHallModel", "isThere", "(II)Z"⟩, 125)) rfl
theorem wc_X12_about : Jvm.Cond.code ⟨"BurntHallModel", "about", "(II)I"⟩ prog_14_method_36_code 3 (Option.some Jvm.ClassFile.FieldType.int) ∈ b_T := b_m10 (i := 13) rfl rfl
theorem wi_X12_about : Jvm.Cond.instanceMethod ⟨"BurntHallModel", "about", "(II)I"⟩ ∈ b_T := b_m10 (i := 11) rfl rfl
theorem ws_X12_about : Jvm.Cond.selects "BurntHallModel" ⟨"BurntHallModel", "about", "(II)I"⟩ ⟨"BurntHallModel", "about", "(II)I"⟩ ∈ b_T := b_m10 (i := 12) rfl rfl
theorem wc_X12_line : Jvm.Cond.code ⟨"BurntHallModel", "line", "(I)J"⟩ prog_14_method_37_code 2 (Option.some Jvm.ClassFile.FieldType.long) ∈ b_T := b_m10 (i := 18) rfl rfl
theorem wi_X12_line : Jvm.Cond.instanceMethod ⟨"BurntHallModel", "line", "(I)J"⟩ ∈ b_T := b_m10 (i := 16) rfl rfl
theorem ws_X12_line : Jvm.Cond.selects "BurntHallModel" ⟨"BurntHallModel", "line", "(I)J"⟩ ⟨"BurntHallModel", "line", "(I)J"⟩ ∈ b_T := b_m10 (i := 17) rfl rfl
theorem wc_X12_readBounds : Jvm.Cond.code ⟨"BurntHallModel", "readBounds", "()Z"⟩ prog_14_method_38_code 2 (Option.some Jvm.ClassFile.FieldType.boolean) ∈ b_T := b_m10 (i := 53) rfl rfl
theorem wi_X12_readBounds : Jvm.Cond.instanceMethod ⟨"BurntHallModel", "readBounds", "()Z"⟩ ∈ b_T := b_m10 (i := 52) rfl rfl
theorem ws_X12_readBounds : Jvm.Cond.selects "BurntHallModel" ⟨"BurntHallModel", "readBounds", "()Z"⟩ ⟨"BurntHallModel", "readBounds", "()Z"⟩ ∈ b_T := b_memS (i := 78) (q := (⟨"BurntHallModel", "readBounds", "()Z"⟩, 125)) rfl
theorem wc_X12_bounds : Jvm.Cond.code ⟨"BurntHallModel", "bounds", "(III)I"⟩ prog_14_method_39_code 5 (Option.some Jvm.ClassFile.FieldType.int) ∈ b_T := b_m10 (i := 22) rfl rfl
theorem wi_X12_bounds : Jvm.Cond.instanceMethod ⟨"BurntHallModel", "bounds", "(III)I"⟩ ∈ b_T := b_m10 (i := 20) rfl rfl
theorem ws_X12_bounds : Jvm.Cond.selects "BurntHallModel" ⟨"BurntHallModel", "bounds", "(III)I"⟩ ⟨"BurntHallModel", "bounds", "(III)I"⟩ ∈ b_T := b_m10 (i := 21) rfl rfl
theorem wc_X12_leads : Jvm.Cond.code ⟨"BurntHallModel", "leads", "(II)I"⟩ prog_14_method_40_code 5 (Option.some Jvm.ClassFile.FieldType.int) ∈ b_T := b_m10 (i := 69) rfl rfl
theorem wi_X12_leads : Jvm.Cond.instanceMethod ⟨"BurntHallModel", "leads", "(II)I"⟩ ∈ b_T := b_m10 (i := 68) rfl rfl
theorem ws_X12_leads : Jvm.Cond.selects "BurntHallModel" ⟨"BurntHallModel", "leads", "(II)I"⟩ ⟨"BurntHallModel", "leads", "(II)I"⟩ ∈ b_T := b_memS (i := 81) (q := (⟨"BurntHallModel", "leads", "(II)I"⟩, 125)) rfl
theorem wc_X12_bad : Jvm.Cond.code ⟨"BurntHallModel", "bad", "(I)I"⟩ prog_14_method_41_code 2 (Option.some Jvm.ClassFile.FieldType.int) ∈ b_T := b_m10 (i := 65) rfl rfl
theorem wi_X12_bad : Jvm.Cond.instanceMethod ⟨"BurntHallModel", "bad", "(I)I"⟩ ∈ b_T := b_m10 (i := 64) rfl rfl
theorem ws_X12_bad : Jvm.Cond.selects "BurntHallModel" ⟨"BurntHallModel", "bad", "(I)I"⟩ ⟨"BurntHallModel", "bad", "(I)I"⟩ ∈ b_T := b_memS (i := 80) (q := (⟨"BurntHallModel", "bad", "(I)I"⟩, 125)) rfl
theorem wc_X12_error : Jvm.Cond.code ⟨"BurntHallModel", "error", "(I)I"⟩ prog_14_method_42_code 4 (Option.some Jvm.ClassFile.FieldType.int) ∈ b_T := b_m10 (i := 61) rfl rfl
theorem wi_X12_error : Jvm.Cond.instanceMethod ⟨"BurntHallModel", "error", "(I)I"⟩ ∈ b_T := b_m10 (i := 59) rfl rfl
theorem ws_X12_error : Jvm.Cond.selects "BurntHallModel" ⟨"BurntHallModel", "error", "(I)I"⟩ ⟨"BurntHallModel", "error", "(I)I"⟩ ∈ b_T := b_m10 (i := 60) rfl rfl
theorem wc_X12_mends : Jvm.Cond.code ⟨"BurntHallModel", "mends", "(II)I"⟩ prog_14_method_43_code 9 (Option.some Jvm.ClassFile.FieldType.int) ∈ b_T := b_m10 (i := 78) rfl rfl
theorem wi_X12_mends : Jvm.Cond.instanceMethod ⟨"BurntHallModel", "mends", "(II)I"⟩ ∈ b_T := b_m10 (i := 77) rfl rfl
theorem ws_X12_mends : Jvm.Cond.selects "BurntHallModel" ⟨"BurntHallModel", "mends", "(II)I"⟩ ⟨"BurntHallModel", "mends", "(II)I"⟩ ∈ b_T := b_memS (i := 82) (q := (⟨"BurntHallModel", "mends", "(II)I"⟩, 125)) rfl
theorem wc_X12_mend : Jvm.Cond.code ⟨"BurntHallModel", "mend", "(I)I"⟩ prog_14_method_44_code 7 (Option.some Jvm.ClassFile.FieldType.int) ∈ b_T := b_m10 (i := 73) rfl rfl
theorem wi_X12_mend : Jvm.Cond.instanceMethod ⟨"BurntHallModel", "mend", "(I)I"⟩ ∈ b_T := b_m10 (i := 71) rfl rfl
theorem ws_X12_mend : Jvm.Cond.selects "BurntHallModel" ⟨"BurntHallModel", "mend", "(I)I"⟩ ⟨"BurntHallModel", "mend", "(I)I"⟩ ∈ b_T := b_m10 (i := 72) rfl rfl
theorem wc_X12_walk : Jvm.Cond.code ⟨"BurntHallModel", "walk", "(II)V"⟩ prog_14_method_45_code 7 (Option.none : Option Jvm.ClassFile.FieldType) ∈ b_T := b_m10 (i := 90) rfl rfl
theorem wi_X12_walk : Jvm.Cond.instanceMethod ⟨"BurntHallModel", "walk", "(II)V"⟩ ∈ b_T := b_m10 (i := 89) rfl rfl
theorem ws_X12_walk : Jvm.Cond.selects "BurntHallModel" ⟨"BurntHallModel", "walk", "(II)V"⟩ ⟨"BurntHallModel", "walk", "(II)V"⟩ ∈ b_T := b_memS (i := 84) (q := (⟨"BurntHallModel", "walk", "(II)V"⟩, 125)) rfl
theorem wc_X12_lesser : Jvm.Cond.code ⟨"BurntHallModel", "lesser", "(II)I"⟩ prog_14_method_46_code 2 (Option.some Jvm.ClassFile.FieldType.int) ∈ b_T := b_m10 (i := 97) rfl rfl
theorem wi_X12_lesser : Jvm.Cond.static ⟨"BurntHallModel", "lesser", "(II)I"⟩ ∈ b_T := b_m10 (i := 96) rfl rfl
theorem wc_X12_greater : Jvm.Cond.code ⟨"BurntHallModel", "greater", "(II)I"⟩ prog_14_method_47_code 2 (Option.some Jvm.ClassFile.FieldType.int) ∈ b_T := b_m10 (i := 100) rfl rfl
theorem wi_X12_greater : Jvm.Cond.static ⟨"BurntHallModel", "greater", "(II)I"⟩ ∈ b_T := b_m10 (i := 99) rfl rfl
theorem wc_X12_isMeeting : Jvm.Cond.code ⟨"BurntHallModel", "isMeeting", "(II)Z"⟩ prog_14_method_48_code 4 (Option.some Jvm.ClassFile.FieldType.boolean) ∈ b_T := b_m10 (i := 94) rfl rfl
theorem wi_X12_isMeeting : Jvm.Cond.instanceMethod ⟨"BurntHallModel", "isMeeting", "(II)Z"⟩ ∈ b_T := b_m10 (i := 93) rfl rfl
theorem ws_X12_isMeeting : Jvm.Cond.selects "BurntHallModel" ⟨"BurntHallModel", "isMeeting", "(II)Z"⟩ ⟨"BurntHallModel", "isMeeting", "(II)Z"⟩ ∈ b_T := b_memS (i := 85) (q := (⟨"BurntHallModel", "isMeeting", "(II)Z"⟩, 125)) rfl
theorem wc_X12_isArea : Jvm.Cond.code ⟨"BurntHallModel", "isArea", "(II)Z"⟩ prog_14_method_49_code 6 (Option.some Jvm.ClassFile.FieldType.boolean) ∈ b_T := b_m10 (i := 86) rfl rfl
theorem wi_X12_isArea : Jvm.Cond.instanceMethod ⟨"BurntHallModel", "isArea", "(II)Z"⟩ ∈ b_T := b_m10 (i := 85) rfl rfl
theorem ws_X12_isArea : Jvm.Cond.selects "BurntHallModel" ⟨"BurntHallModel", "isArea", "(II)Z"⟩ ⟨"BurntHallModel", "isArea", "(II)Z"⟩ ∈ b_T := b_memS (i := 83) (q := (⟨"BurntHallModel", "isArea", "(II)Z"⟩, 125)) rfl
theorem wc_X12_areaOf : Jvm.Cond.code ⟨"BurntHallModel", "areaOf", "(II)I"⟩ prog_14_method_50_code 5 (Option.some Jvm.ClassFile.FieldType.int) ∈ b_T := b_m10 (i := 104) rfl rfl
theorem wi_X12_areaOf : Jvm.Cond.instanceMethod ⟨"BurntHallModel", "areaOf", "(II)I"⟩ ∈ b_T := b_m10 (i := 103) rfl rfl
theorem ws_X12_areaOf : Jvm.Cond.selects "BurntHallModel" ⟨"BurntHallModel", "areaOf", "(II)I"⟩ ⟨"BurntHallModel", "areaOf", "(II)I"⟩ ∈ b_T := b_memS (i := 86) (q := (⟨"BurntHallModel", "areaOf", "(II)I"⟩, 125)) rfl
theorem wc_X12_area : Jvm.Cond.code ⟨"BurntHallModel", "area", "(I)I"⟩ prog_14_method_51_code 2 (Option.some Jvm.ClassFile.FieldType.int) ∈ b_T := b_m10 (i := 82) rfl rfl
theorem wi_X12_area : Jvm.Cond.instanceMethod ⟨"BurntHallModel", "area", "(I)I"⟩ ∈ b_T := b_m10 (i := 80) rfl rfl
theorem ws_X12_area : Jvm.Cond.selects "BurntHallModel" ⟨"BurntHallModel", "area", "(I)I"⟩ ⟨"BurntHallModel", "area", "(I)I"⟩ ∈ b_T := b_m10 (i := 81) rfl rfl
theorem wc_X12_isWithin : Jvm.Cond.code ⟨"BurntHallModel", "isWithin", "(IIII)Z"⟩ prog_14_method_52_code 7 (Option.some Jvm.ClassFile.FieldType.boolean) ∈ b_T := b_m10 (i := 117) rfl rfl
theorem wi_X12_isWithin : Jvm.Cond.instanceMethod ⟨"BurntHallModel", "isWithin", "(IIII)Z"⟩ ∈ b_T := b_m10 (i := 116) rfl rfl
theorem ws_X12_isWithin : Jvm.Cond.selects "BurntHallModel" ⟨"BurntHallModel", "isWithin", "(IIII)Z"⟩ ⟨"BurntHallModel", "isWithin", "(IIII)Z"⟩ ∈ b_T := b_memS (i := 88) (q := (⟨"BurntHallModel", "isWithin", "(IIII)Z"⟩, 125)) rfl
theorem wc_X12_nextOf : Jvm.Cond.code ⟨"BurntHallModel", "nextOf", "(ZIII)I"⟩ prog_14_method_53_code 7 (Option.some Jvm.ClassFile.FieldType.int) ∈ b_T := b_m10 (i := 112) rfl rfl
theorem wi_X12_nextOf : Jvm.Cond.instanceMethod ⟨"BurntHallModel", "nextOf", "(ZIII)I"⟩ ∈ b_T := b_m10 (i := 111) rfl rfl
theorem ws_X12_nextOf : Jvm.Cond.selects "BurntHallModel" ⟨"BurntHallModel", "nextOf", "(ZIII)I"⟩ ⟨"BurntHallModel", "nextOf", "(ZIII)I"⟩ ∈ b_T := b_memS (i := 87) (q := (⟨"BurntHallModel", "nextOf", "(ZIII)I"⟩, 125)) rfl
theorem wc_X12_strip : Jvm.Cond.code ⟨"BurntHallModel", "strip", "(II)I"⟩ prog_14_method_54_code 8 (Option.some Jvm.ClassFile.FieldType.int) ∈ b_T := b_m10 (i := 108) rfl rfl
theorem wi_X12_strip : Jvm.Cond.instanceMethod ⟨"BurntHallModel", "strip", "(II)I"⟩ ∈ b_T := b_m10 (i := 106) rfl rfl
theorem ws_X12_strip : Jvm.Cond.selects "BurntHallModel" ⟨"BurntHallModel", "strip", "(II)I"⟩ ⟨"BurntHallModel", "strip", "(II)I"⟩ ∈ b_T := b_m10 (i := 107) rfl rfl
theorem wc_X12_plain : Jvm.Cond.code ⟨"BurntHallModel", "plain", "(I)I"⟩ prog_14_method_55_code 1 (Option.some Jvm.ClassFile.FieldType.int) ∈ b_T := b_m8 (i := 15) rfl rfl
theorem wi_X12_plain : Jvm.Cond.static ⟨"BurntHallModel", "plain", "(I)I"⟩ ∈ b_T := b_m8 (i := 14) rfl rfl
theorem wc_X12_high : Jvm.Cond.code ⟨"BurntHallModel", "high", "(I)I"⟩ prog_14_method_56_code 1 (Option.some Jvm.ClassFile.FieldType.int) ∈ b_T := b_m10 (i := 164) rfl rfl
theorem wi_X12_high : Jvm.Cond.static ⟨"BurntHallModel", "high", "(I)I"⟩ ∈ b_T := b_m10 (i := 163) rfl rfl
theorem wc_X12_addStep : Jvm.Cond.code ⟨"BurntHallModel", "addStep", "(I)V"⟩ prog_14_method_57_code 2 (Option.none : Option Jvm.ClassFile.FieldType) ∈ b_T := b_m10 (i := 157) rfl rfl
theorem wi_X12_addStep : Jvm.Cond.instanceMethod ⟨"BurntHallModel", "addStep", "(I)V"⟩ ∈ b_T := b_m10 (i := 156) rfl rfl
theorem ws_X12_addStep : Jvm.Cond.selects "BurntHallModel" ⟨"BurntHallModel", "addStep", "(I)V"⟩ ⟨"BurntHallModel", "addStep", "(I)V"⟩ ∈ b_T := b_memS (i := 97) (q := (⟨"BurntHallModel", "addStep", "(I)V"⟩, 125)) rfl
theorem wc_X12_isTerm : Jvm.Cond.code ⟨"BurntHallModel", "isTerm", "()Z"⟩ prog_14_method_58_code 1 (Option.some Jvm.ClassFile.FieldType.boolean) ∈ b_T := b_m10 (i := 153) rfl rfl
theorem wi_X12_isTerm : Jvm.Cond.instanceMethod ⟨"BurntHallModel", "isTerm", "()Z"⟩ ∈ b_T := b_m10 (i := 152) rfl rfl
theorem ws_X12_isTerm : Jvm.Cond.selects "BurntHallModel" ⟨"BurntHallModel", "isTerm", "()Z"⟩ ⟨"BurntHallModel", "isTerm", "()Z"⟩ ∈ b_T := b_memS (i := 96) (q := (⟨"BurntHallModel", "isTerm", "()Z"⟩, 125)) rfl
theorem wc_X12_readSum : Jvm.Cond.code ⟨"BurntHallModel", "readSum", "(I)Z"⟩ prog_14_method_59_code 2 (Option.some Jvm.ClassFile.FieldType.boolean) ∈ b_T := b_m10 (i := 161) rfl rfl
theorem wi_X12_readSum : Jvm.Cond.instanceMethod ⟨"BurntHallModel", "readSum", "(I)Z"⟩ ∈ b_T := b_m10 (i := 160) rfl rfl
theorem ws_X12_readSum : Jvm.Cond.selects "BurntHallModel" ⟨"BurntHallModel", "readSum", "(I)Z"⟩ ⟨"BurntHallModel", "readSum", "(I)Z"⟩ ∈ b_T := b_memS (i := 98) (q := (⟨"BurntHallModel", "readSum", "(I)Z"⟩, 125)) rfl
theorem wc_X12_readTest : Jvm.Cond.code ⟨"BurntHallModel", "readTest", "()Z"⟩ prog_14_method_60_code 2 (Option.some Jvm.ClassFile.FieldType.boolean) ∈ b_T := b_m10 (i := 149) rfl rfl
theorem wi_X12_readTest : Jvm.Cond.instanceMethod ⟨"BurntHallModel", "readTest", "()Z"⟩ ∈ b_T := b_m10 (i := 148) rfl rfl
theorem ws_X12_readTest : Jvm.Cond.selects "BurntHallModel" ⟨"BurntHallModel", "readTest", "()Z"⟩ ⟨"BurntHallModel", "readTest", "()Z"⟩ ∈ b_T := b_memS (i := 95) (q := (⟨"BurntHallModel", "readTest", "()Z"⟩, 125)) rfl
theorem wc_X12_readOne : Jvm.Cond.code ⟨"BurntHallModel", "readOne", "()Z"⟩ prog_14_method_61_code 2 (Option.some Jvm.ClassFile.FieldType.boolean) ∈ b_T := b_m10 (i := 145) rfl rfl
theorem wi_X12_readOne : Jvm.Cond.instanceMethod ⟨"BurntHallModel", "readOne", "()Z"⟩ ∈ b_T := b_m10 (i := 144) rfl rfl
theorem ws_X12_readOne : Jvm.Cond.selects "BurntHallModel" ⟨"BurntHallModel", "readOne", "()Z"⟩ ⟨"BurntHallModel", "readOne", "()Z"⟩ ∈ b_T := b_memS (i := 94) (q := (⟨"BurntHallModel", "readOne", "()Z"⟩, 125)) rfl
theorem wc_X12_readAll : Jvm.Cond.code ⟨"BurntHallModel", "readAll", "()Z"⟩ prog_14_method_62_code 1 (Option.some Jvm.ClassFile.FieldType.boolean) ∈ b_T := b_m10 (i := 141) rfl rfl
theorem wi_X12_readAll : Jvm.Cond.instanceMethod ⟨"BurntHallModel", "readAll", "()Z"⟩ ∈ b_T := b_m10 (i := 140) rfl rfl
theorem ws_X12_readAll : Jvm.Cond.selects "BurntHallModel" ⟨"BurntHallModel", "readAll", "()Z"⟩ ⟨"BurntHallModel", "readAll", "()Z"⟩ ∈ b_T := b_memS (i := 93) (q := (⟨"BurntHallModel", "readAll", "()Z"⟩, 125)) rfl
theorem wc_X12_readCond : Jvm.Cond.code ⟨"BurntHallModel", "readCond", "()Z"⟩ prog_14_method_63_code 1 (Option.some Jvm.ClassFile.FieldType.boolean) ∈ b_T := b_m10 (i := 137) rfl rfl
theorem wi_X12_readCond : Jvm.Cond.instanceMethod ⟨"BurntHallModel", "readCond", "()Z"⟩ ∈ b_T := b_m10 (i := 136) rfl rfl
theorem ws_X12_readCond : Jvm.Cond.selects "BurntHallModel" ⟨"BurntHallModel", "readCond", "()Z"⟩ ⟨"BurntHallModel", "readCond", "()Z"⟩ ∈ b_T := b_memS (i := 92) (q := (⟨"BurntHallModel", "readCond", "()Z"⟩, 125)) rfl
theorem wc_X12_readNumber : Jvm.Cond.code ⟨"BurntHallModel", "readNumber", "(II)Z"⟩ prog_14_method_64_code 3 (Option.some Jvm.ClassFile.FieldType.boolean) ∈ b_T := b_m10 (i := 133) rfl rfl
theorem wi_X12_readNumber : Jvm.Cond.instanceMethod ⟨"BurntHallModel", "readNumber", "(II)Z"⟩ ∈ b_T := b_m10 (i := 132) rfl rfl
theorem ws_X12_readNumber : Jvm.Cond.selects "BurntHallModel" ⟨"BurntHallModel", "readNumber", "(II)Z"⟩ ⟨"BurntHallModel", "readNumber", "(II)Z"⟩ ∈ b_T := b_memS (i := 91) (q := (⟨"BurntHallModel", "readNumber", "(II)Z"⟩, 125)) rfl
theorem wc_X12_readProof : Jvm.Cond.code ⟨"BurntHallModel", "readProof", "()Z"⟩ prog_14_method_65_code 1 (Option.some Jvm.ClassFile.FieldType.boolean) ∈ b_T := b_m10 (i := 129) rfl rfl
theorem wi_X12_readProof : Jvm.Cond.instanceMethod ⟨"BurntHallModel", "readProof", "()Z"⟩ ∈ b_T := b_m10 (i := 128) rfl rfl
theorem ws_X12_readProof : Jvm.Cond.selects "BurntHallModel" ⟨"BurntHallModel", "readProof", "()Z"⟩ ⟨"BurntHallModel", "readProof", "()Z"⟩ ∈ b_T := b_memS (i := 90) (q := (⟨"BurntHallModel", "readProof", "()Z"⟩, 125)) rfl
theorem wc_X12_readClause : Jvm.Cond.code ⟨"BurntHallModel", "readClause", "()Z"⟩ prog_14_method_66_code 3 (Option.some Jvm.ClassFile.FieldType.boolean) ∈ b_T := b_m10 (i := 125) rfl rfl
theorem wi_X12_readClause : Jvm.Cond.instanceMethod ⟨"BurntHallModel", "readClause", "()Z"⟩ ∈ b_T := b_m10 (i := 124) rfl rfl
theorem ws_X12_readClause : Jvm.Cond.selects "BurntHallModel" ⟨"BurntHallModel", "readClause", "()Z"⟩ ⟨"BurntHallModel", "readClause", "()Z"⟩ ∈ b_T := b_memS (i := 89) (q := (⟨"BurntHallModel", "readClause", "()Z"⟩, 125)) rfl
theorem wc_X12_act : Jvm.Cond.code ⟨"BurntHallModel", "act", "()I"⟩ prog_14_method_67_code 4 (Option.some Jvm.ClassFile.FieldType.int) ∈ b_T := b_m10 (i := 121) rfl rfl
theorem wi_X12_act : Jvm.Cond.instanceMethod ⟨"BurntHallModel", "act", "()I"⟩ ∈ b_T := b_m10 (i := 119) rfl rfl
theorem ws_X12_act : Jvm.Cond.selects "BurntHallModel" ⟨"BurntHallModel", "act", "()I"⟩ ⟨"BurntHallModel", "act", "()I"⟩ ∈ b_T := b_m10 (i := 120) rfl rfl
theorem wc_X12_actOn : Jvm.Cond.code ⟨"BurntHallModel", "actOn", "(I)I"⟩ prog_14_method_68_code 3 (Option.some Jvm.ClassFile.FieldType.int) ∈ b_T := b_m10 (i := 176) rfl rfl
theorem wi_X12_actOn : Jvm.Cond.instanceMethod ⟨"BurntHallModel", "actOn", "(I)I"⟩ ∈ b_T := b_m10 (i := 175) rfl rfl
theorem ws_X12_actOn : Jvm.Cond.selects "BurntHallModel" ⟨"BurntHallModel", "actOn", "(I)I"⟩ ⟨"BurntHallModel", "actOn", "(I)I"⟩ ∈ b_T := b_memS (i := 100) (q := (⟨"BurntHallModel", "actOn", "(I)I"⟩, 125)) rfl
theorem wc_X12_ruleOn : Jvm.Cond.code ⟨"BurntHallModel", "ruleOn", "(II)I"⟩ prog_14_method_69_code 3 (Option.some Jvm.ClassFile.FieldType.int) ∈ b_T := b_m10 (i := 172) rfl rfl
theorem wi_X12_ruleOn : Jvm.Cond.instanceMethod ⟨"BurntHallModel", "ruleOn", "(II)I"⟩ ∈ b_T := b_m10 (i := 171) rfl rfl
theorem ws_X12_ruleOn : Jvm.Cond.selects "BurntHallModel" ⟨"BurntHallModel", "ruleOn", "(II)I"⟩ ⟨"BurntHallModel", "ruleOn", "(II)I"⟩ ∈ b_T := b_memS (i := 99) (q := (⟨"BurntHallModel", "ruleOn", "(II)I"⟩, 125)) rfl
theorem wc_X12_rule : Jvm.Cond.code ⟨"BurntHallModel", "rule", "(II)I"⟩ prog_14_method_70_code 3 (Option.some Jvm.ClassFile.FieldType.int) ∈ b_T := b_m10 (i := 168) rfl rfl
theorem wi_X12_rule : Jvm.Cond.instanceMethod ⟨"BurntHallModel", "rule", "(II)I"⟩ ∈ b_T := b_m10 (i := 166) rfl rfl
theorem ws_X12_rule : Jvm.Cond.selects "BurntHallModel" ⟨"BurntHallModel", "rule", "(II)I"⟩ ⟨"BurntHallModel", "rule", "(II)I"⟩ ∈ b_T := b_m10 (i := 167) rfl rfl
theorem wc_X12_readMarks : Jvm.Cond.code ⟨"BurntHallModel", "readMarks", "()Z"⟩ prog_14_method_71_code 3 (Option.some Jvm.ClassFile.FieldType.boolean) ∈ b_T := b_m10 (i := 188) rfl rfl
theorem wi_X12_readMarks : Jvm.Cond.instanceMethod ⟨"BurntHallModel", "readMarks", "()Z"⟩ ∈ b_T := b_m10 (i := 187) rfl rfl
theorem ws_X12_readMarks : Jvm.Cond.selects "BurntHallModel" ⟨"BurntHallModel", "readMarks", "()Z"⟩ ⟨"BurntHallModel", "readMarks", "()Z"⟩ ∈ b_T := b_memS (i := 101) (q := (⟨"BurntHallModel", "readMarks", "()Z"⟩, 125)) rfl
theorem wc_X12_burnt : Jvm.Cond.code ⟨"BurntHallModel", "burnt", "()I"⟩ prog_14_method_72_code 1 (Option.some Jvm.ClassFile.FieldType.int) ∈ b_T := b_m10 (i := 180) rfl rfl
theorem wi_X12_burnt : Jvm.Cond.instanceMethod ⟨"BurntHallModel", "burnt", "()I"⟩ ∈ b_T := b_m10 (i := 178) rfl rfl
theorem ws_X12_burnt : Jvm.Cond.selects "BurntHallModel" ⟨"BurntHallModel", "burnt", "()I"⟩ ⟨"BurntHallModel", "burnt", "()I"⟩ ∈ b_T := b_m10 (i := 179) rfl rfl
theorem wc_X12_paper : Jvm.Cond.code ⟨"BurntHallModel", "paper", "(IIIIIII)I"⟩ prog_14_method_73_code 10 (Option.some Jvm.ClassFile.FieldType.int) ∈ b_T := b_m10 (i := 184) rfl rfl
theorem wi_X12_paper : Jvm.Cond.instanceMethod ⟨"BurntHallModel", "paper", "(IIIIIII)I"⟩ ∈ b_T := b_m10 (i := 182) rfl rfl
theorem ws_X12_paper : Jvm.Cond.selects "BurntHallModel" ⟨"BurntHallModel", "paper", "(IIIIIII)I"⟩ ⟨"BurntHallModel", "paper", "(IIIIIII)I"⟩ ∈ b_T := b_m10 (i := 183) rfl rfl
theorem wc_X12_isPaper : Jvm.Cond.code ⟨"BurntHallModel", "isPaper", "(I)Z"⟩ prog_14_method_74_code 2 (Option.some Jvm.ClassFile.FieldType.boolean) ∈ b_T := b_m10 (i := 196) rfl rfl
theorem wi_X12_isPaper : Jvm.Cond.instanceMethod ⟨"BurntHallModel", "isPaper", "(I)Z"⟩ ∈ b_T := b_m10 (i := 195) rfl rfl
theorem ws_X12_isPaper : Jvm.Cond.selects "BurntHallModel" ⟨"BurntHallModel", "isPaper", "(I)Z"⟩ ⟨"BurntHallModel", "isPaper", "(I)Z"⟩ ∈ b_T := b_memS (i := 102) (q := (⟨"BurntHallModel", "isPaper", "(I)Z"⟩, 125)) rfl
theorem wc_X12_written : Jvm.Cond.code ⟨"BurntHallModel", "written", "(IIIII)I"⟩ prog_14_method_75_code 6 (Option.some Jvm.ClassFile.FieldType.int) ∈ b_T := b_m10 (i := 192) rfl rfl
theorem wi_X12_written : Jvm.Cond.instanceMethod ⟨"BurntHallModel", "written", "(IIIII)I"⟩ ∈ b_T := b_m10 (i := 190) rfl rfl
theorem ws_X12_written : Jvm.Cond.selects "BurntHallModel" ⟨"BurntHallModel", "written", "(IIIII)I"⟩ ⟨"BurntHallModel", "written", "(IIIII)I"⟩ ∈ b_T := b_m10 (i := 191) rfl rfl
theorem wc_X12_pages : Jvm.Cond.code ⟨"BurntHallModel", "pages", "(I)I"⟩ prog_14_method_76_code 3 (Option.some Jvm.ClassFile.FieldType.int) ∈ b_T := b_m10 (i := 200) rfl rfl
theorem wi_X12_pages : Jvm.Cond.instanceMethod ⟨"BurntHallModel", "pages", "(I)I"⟩ ∈ b_T := b_m10 (i := 198) rfl rfl
theorem ws_X12_pages : Jvm.Cond.selects "BurntHallModel" ⟨"BurntHallModel", "pages", "(I)I"⟩ ⟨"BurntHallModel", "pages", "(I)I"⟩ ∈ b_T := b_m10 (i := 199) rfl rfl
theorem wc_X12_sumOf : Jvm.Cond.code ⟨"BurntHallModel", "sumOf", "(III)I"⟩ prog_14_method_77_code 7 (Option.some Jvm.ClassFile.FieldType.int) ∈ b_T := b_m10 (i := 216) rfl rfl
theorem wi_X12_sumOf : Jvm.Cond.instanceMethod ⟨"BurntHallModel", "sumOf", "(III)I"⟩ ∈ b_T := b_m10 (i := 215) rfl rfl
theorem ws_X12_sumOf : Jvm.Cond.selects "BurntHallModel" ⟨"BurntHallModel", "sumOf", "(III)I"⟩ ⟨"BurntHallModel", "sumOf", "(III)I"⟩ ∈ b_T := b_memS (i := 105) (q := (⟨"BurntHallModel", "sumOf", "(III)I"⟩, 125)) rfl
theorem wc_X12_holds : Jvm.Cond.code ⟨"BurntHallModel", "holds", "(II)Z"⟩ prog_14_method_78_code 9 (Option.some Jvm.ClassFile.FieldType.boolean) ∈ b_T := b_m10 (i := 212) rfl rfl
theorem wi_X12_holds : Jvm.Cond.instanceMethod ⟨"BurntHallModel", "holds", "(II)Z"⟩ ∈ b_T := b_m10 (i := 211) rfl rfl
theorem ws_X12_holds : Jvm.Cond.selects "BurntHallModel" ⟨"BurntHallModel", "holds", "(II)Z"⟩ ⟨"BurntHallModel", "holds", "(II)Z"⟩ ∈ b_T := b_memS (i := 104) (q := (⟨"BurntHallModel", "holds", "(II)Z"⟩, 125)) rfl
theorem wc_X12_weightOf : Jvm.Cond.code ⟨"BurntHallModel", "weightOf", "(II)I"⟩ prog_14_method_79_code 6 (Option.some Jvm.ClassFile.FieldType.int) ∈ b_T := b_m10 (i := 208) rfl rfl
theorem wi_X12_weightOf : Jvm.Cond.instanceMethod ⟨"BurntHallModel", "weightOf", "(II)I"⟩ ∈ b_T := b_m10 (i := 207) rfl rfl
theorem ws_X12_weightOf : Jvm.Cond.selects "BurntHallModel" ⟨"BurntHallModel", "weightOf", "(II)I"⟩ ⟨"BurntHallModel", "weightOf", "(II)I"⟩ ∈ b_T := b_memS (i := 103) (q := (⟨"BurntHallModel", "weightOf", "(II)I"⟩, 125)) rfl
theorem wc_X12_weight : Jvm.Cond.code ⟨"BurntHallModel", "weight", "(II)I"⟩ prog_14_method_80_code 3 (Option.some Jvm.ClassFile.FieldType.int) ∈ b_T := b_m10 (i := 204) rfl rfl
theorem wi_X12_weight : Jvm.Cond.instanceMethod ⟨"BurntHallModel", "weight", "(II)I"⟩ ∈ b_T := b_m10 (i := 202) rfl rfl
theorem ws_X12_weight : Jvm.Cond.selects "BurntHallModel" ⟨"BurntHallModel", "weight", "(II)I"⟩ ⟨"BurntHallModel", "weight", "(II)I"⟩ ∈ b_T := b_m10 (i := 203) rfl rfl
theorem wc_X12_isOutside : Jvm.Cond.code ⟨"BurntHallModel", "isOutside", "(IIII)Z"⟩ prog_14_method_81_code 6 (Option.some Jvm.ClassFile.FieldType.boolean) ∈ b_T := b_m10 (i := 228) rfl rfl
theorem wi_X12_isOutside : Jvm.Cond.instanceMethod ⟨"BurntHallModel", "isOutside", "(IIII)Z"⟩ ∈ b_T := b_m10 (i := 227) rfl rfl
theorem ws_X12_isOutside : Jvm.Cond.selects "BurntHallModel" ⟨"BurntHallModel", "isOutside", "(IIII)Z"⟩ ⟨"BurntHallModel", "isOutside", "(IIII)Z"⟩ ∈ b_T := b_memS (i := 107) (q := (⟨"BurntHallModel", "isOutside", "(IIII)Z"⟩, 125)) rfl
theorem wc_X12_cantOf : Jvm.Cond.code ⟨"BurntHallModel", "cantOf", "(II)I"⟩ prog_14_method_82_code 6 (Option.some Jvm.ClassFile.FieldType.int) ∈ b_T := b_m10 (i := 224) rfl rfl
theorem wi_X12_cantOf : Jvm.Cond.instanceMethod ⟨"BurntHallModel", "cantOf", "(II)I"⟩ ∈ b_T := b_m10 (i := 223) rfl rfl
theorem ws_X12_cantOf : Jvm.Cond.selects "BurntHallModel" ⟨"BurntHallModel", "cantOf", "(II)I"⟩ ⟨"BurntHallModel", "cantOf", "(II)I"⟩ ∈ b_T := b_memS (i := 106) (q := (⟨"BurntHallModel", "cantOf", "(II)I"⟩, 125)) rfl
theorem wc_X12_cant : Jvm.Cond.code ⟨"BurntHallModel", "cant", "(II)I"⟩ prog_14_method_83_code 3 (Option.some Jvm.ClassFile.FieldType.int) ∈ b_T := b_m10 (i := 220) rfl rfl
theorem wi_X12_cant : Jvm.Cond.instanceMethod ⟨"BurntHallModel", "cant", "(II)I"⟩ ∈ b_T := b_m10 (i := 218) rfl rfl
theorem ws_X12_cant : Jvm.Cond.selects "BurntHallModel" ⟨"BurntHallModel", "cant", "(II)I"⟩ ⟨"BurntHallModel", "cant", "(II)I"⟩ ∈ b_T := b_m10 (i := 219) rfl rfl
theorem wc_X12_classOf : Jvm.Cond.code ⟨"BurntHallModel", "classOf", "(II)I"⟩ prog_14_method_84_code 3 (Option.some Jvm.ClassFile.FieldType.int) ∈ b_T := b_m11 (i := 4) rfl rfl
theorem wi_X12_classOf : Jvm.Cond.instanceMethod ⟨"BurntHallModel", "classOf", "(II)I"⟩ ∈ b_T := b_m11 (i := 3) rfl rfl
theorem ws_X12_classOf : Jvm.Cond.selects "BurntHallModel" ⟨"BurntHallModel", "classOf", "(II)I"⟩ ⟨"BurntHallModel", "classOf", "(II)I"⟩ ∈ b_T := b_memS (i := 110) (q := (⟨"BurntHallModel", "classOf", "(II)I"⟩, 125)) rfl
theorem wc_X12_sumFor : Jvm.Cond.code ⟨"BurntHallModel", "sumFor", "(IIII)I"⟩ prog_14_method_85_code 10 (Option.some Jvm.ClassFile.FieldType.int) ∈ b_T := b_m11 (i := 8) rfl rfl
theorem wi_X12_sumFor : Jvm.Cond.instanceMethod ⟨"BurntHallModel", "sumFor", "(IIII)I"⟩ ∈ b_T := b_m11 (i := 7) rfl rfl
theorem ws_X12_sumFor : Jvm.Cond.selects "BurntHallModel" ⟨"BurntHallModel", "sumFor", "(IIII)I"⟩ ⟨"BurntHallModel", "sumFor", "(IIII)I"⟩ ∈ b_T := b_memS (i := 111) (q := (⟨"BurntHallModel", "sumFor", "(IIII)I"⟩, 125)) rfl
theorem wc_X12_show : Jvm.Cond.code ⟨"BurntHallModel", "show", "(III)V"⟩ prog_14_method_86_code 11 (Option.none : Option Jvm.ClassFile.FieldType) ∈ b_T := b_m11 (i := 0) rfl rfl
theorem wi_X12_show : Jvm.Cond.instanceMethod ⟨"BurntHallModel", "show", "(III)V"⟩ ∈ b_T := b_m10 (i := 239) rfl rfl
theorem ws_X12_show : Jvm.Cond.selects "BurntHallModel" ⟨"BurntHallModel", "show", "(III)V"⟩ ⟨"BurntHallModel", "show", "(III)V"⟩ ∈ b_T := b_memS (i := 109) (q := (⟨"BurntHallModel", "show", "(III)V"⟩, 125)) rfl
theorem wc_X12_makeShown : Jvm.Cond.code ⟨"BurntHallModel", "makeShown", "(I)V"⟩ prog_14_method_87_code 4 (Option.none : Option Jvm.ClassFile.FieldType) ∈ b_T := b_m10 (i := 236) rfl rfl
theorem wi_X12_makeShown : Jvm.Cond.instanceMethod ⟨"BurntHallModel", "makeShown", "(I)V"⟩ ∈ b_T := b_m10 (i := 235) rfl rfl
theorem ws_X12_makeShown : Jvm.Cond.selects "BurntHallModel" ⟨"BurntHallModel", "makeShown", "(I)V"⟩ ⟨"BurntHallModel", "makeShown", "(I)V"⟩ ∈ b_T := b_memS (i := 108) (q := (⟨"BurntHallModel", "makeShown", "(I)V"⟩, 125)) rfl
theorem wc_X12_pointsOf : Jvm.Cond.code ⟨"BurntHallModel", "pointsOf", "(I)I"⟩ prog_14_method_88_code 3 (Option.some Jvm.ClassFile.FieldType.int) ∈ b_T := b_m11 (i := 12) rfl rfl
theorem wi_X12_pointsOf : Jvm.Cond.instanceMethod ⟨"BurntHallModel", "pointsOf", "(I)I"⟩ ∈ b_T := b_m11 (i := 11) rfl rfl
theorem ws_X12_pointsOf : Jvm.Cond.selects "BurntHallModel" ⟨"BurntHallModel", "pointsOf", "(I)I"⟩ ⟨"BurntHallModel", "pointsOf", "(I)I"⟩ ∈ b_T := b_memS (i := 112) (q := (⟨"BurntHallModel", "pointsOf", "(I)I"⟩, 125)) rfl
theorem wc_X12_shown : Jvm.Cond.code ⟨"BurntHallModel", "shown", "(III)I"⟩ prog_14_method_89_code 4 (Option.some Jvm.ClassFile.FieldType.int) ∈ b_T := b_m10 (i := 232) rfl rfl
theorem wi_X12_shown : Jvm.Cond.instanceMethod ⟨"BurntHallModel", "shown", "(III)I"⟩ ∈ b_T := b_m10 (i := 230) rfl rfl
theorem ws_X12_shown : Jvm.Cond.selects "BurntHallModel" ⟨"BurntHallModel", "shown", "(III)I"⟩ ⟨"BurntHallModel", "shown", "(III)I"⟩ ∈ b_T := b_m10 (i := 231) rfl rfl
theorem wc_X12_root : Jvm.Cond.code ⟨"BurntHallModel", "root", "(III)I"⟩ prog_14_method_90_code 4 (Option.some Jvm.ClassFile.FieldType.int) ∈ b_T := b_m11 (i := 16) rfl rfl
theorem wi_X12_root : Jvm.Cond.instanceMethod ⟨"BurntHallModel", "root", "(III)I"⟩ ∈ b_T := b_m11 (i := 14) rfl rfl
theorem ws_X12_root : Jvm.Cond.selects "BurntHallModel" ⟨"BurntHallModel", "root", "(III)I"⟩ ⟨"BurntHallModel", "root", "(III)I"⟩ ∈ b_T := b_m11 (i := 15) rfl rfl
theorem wc_X12_isLink : Jvm.Cond.code ⟨"BurntHallModel", "isLink", "(I)Z"⟩ prog_14_method_91_code 2 (Option.some Jvm.ClassFile.FieldType.boolean) ∈ b_T := b_m11 (i := 44) rfl rfl
theorem wi_X12_isLink : Jvm.Cond.instanceMethod ⟨"BurntHallModel", "isLink", "(I)Z"⟩ ∈ b_T := b_m11 (i := 43) rfl rfl
theorem ws_X12_isLink : Jvm.Cond.selects "BurntHallModel" ⟨"BurntHallModel", "isLink", "(I)Z"⟩ ⟨"BurntHallModel", "isLink", "(I)Z"⟩ ∈ b_T := b_memS (i := 118) (q := (⟨"BurntHallModel", "isLink", "(I)Z"⟩, 125)) rfl
theorem wc_X12_isNext : Jvm.Cond.code ⟨"BurntHallModel", "isNext", "(II)Z"⟩ prog_14_method_92_code 5 (Option.some Jvm.ClassFile.FieldType.boolean) ∈ b_T := b_m11 (i := 48) rfl rfl
theorem wi_X12_isNext : Jvm.Cond.instanceMethod ⟨"BurntHallModel", "isNext", "(II)Z"⟩ ∈ b_T := b_m11 (i := 47) rfl rfl
theorem ws_X12_isNext : Jvm.Cond.selects "BurntHallModel" ⟨"BurntHallModel", "isNext", "(II)Z"⟩ ⟨"BurntHallModel", "isNext", "(II)Z"⟩ ∈ b_T := b_memS (i := 119) (q := (⟨"BurntHallModel", "isNext", "(II)Z"⟩, 125)) rfl
theorem wc_X12_makeWays : Jvm.Cond.code ⟨"BurntHallModel", "makeWays", "()V"⟩ prog_14_method_93_code 3 (Option.none : Option Jvm.ClassFile.FieldType) ∈ b_T := b_m11 (i := 40) rfl rfl
theorem wi_X12_makeWays : Jvm.Cond.instanceMethod ⟨"BurntHallModel", "makeWays", "()V"⟩ ∈ b_T := b_m11 (i := 39) rfl rfl
theorem ws_X12_makeWays : Jvm.Cond.selects "BurntHallModel" ⟨"BurntHallModel", "makeWays", "()V"⟩ ⟨"BurntHallModel", "makeWays", "()V"⟩ ∈ b_T := b_memS (i := 117) (q := (⟨"BurntHallModel", "makeWays", "()V"⟩, 125)) rfl
theorem wc_X12_isEnd : Jvm.Cond.code ⟨"BurntHallModel", "isEnd", "(I)Z"⟩ prog_14_method_94_code 2 (Option.some Jvm.ClassFile.FieldType.boolean) ∈ b_T := b_m11 (i := 32) rfl rfl
theorem wi_X12_isEnd : Jvm.Cond.instanceMethod ⟨"BurntHallModel", "isEnd", "(I)Z"⟩ ∈ b_T := b_m11 (i := 31) rfl rfl
theorem ws_X12_isEnd : Jvm.Cond.selects "BurntHallModel" ⟨"BurntHallModel", "isEnd", "(I)Z"⟩ ⟨"BurntHallModel", "isEnd", "(I)Z"⟩ ∈ b_T := b_memS (i := 115) (q := (⟨"BurntHallModel", "isEnd", "(I)Z"⟩, 125)) rfl
theorem wc_X12_isRoot : Jvm.Cond.code ⟨"BurntHallModel", "isRoot", "(I)Z"⟩ prog_14_method_95_code 2 (Option.some Jvm.ClassFile.FieldType.boolean) ∈ b_T := b_m11 (i := 28) rfl rfl
theorem wi_X12_isRoot : Jvm.Cond.instanceMethod ⟨"BurntHallModel", "isRoot", "(I)Z"⟩ ∈ b_T := b_m11 (i := 27) rfl rfl
theorem ws_X12_isRoot : Jvm.Cond.selects "BurntHallModel" ⟨"BurntHallModel", "isRoot", "(I)Z"⟩ ⟨"BurntHallModel", "isRoot", "(I)Z"⟩ ∈ b_T := b_memS (i := 114) (q := (⟨"BurntHallModel", "isRoot", "(I)Z"⟩, 125)) rfl
theorem wc_X12_makeLatest : Jvm.Cond.code ⟨"BurntHallModel", "makeLatest", "(I)V"⟩ prog_14_method_96_code 8 (Option.none : Option Jvm.ClassFile.FieldType) ∈ b_T := b_m11 (i := 56) rfl rfl
theorem wi_X12_makeLatest : Jvm.Cond.instanceMethod ⟨"BurntHallModel", "makeLatest", "(I)V"⟩ ∈ b_T := b_m11 (i := 55) rfl rfl
theorem ws_X12_makeLatest : Jvm.Cond.selects "BurntHallModel" ⟨"BurntHallModel", "makeLatest", "(I)V"⟩ ⟨"BurntHallModel", "makeLatest", "(I)V"⟩ ∈ b_T := b_memS (i := 121) (q := (⟨"BurntHallModel", "makeLatest", "(I)V"⟩, 125)) rfl
theorem wc_X12_canBegin : Jvm.Cond.code ⟨"BurntHallModel", "canBegin", "(III)Z"⟩ prog_14_method_97_code 4 (Option.some Jvm.ClassFile.FieldType.boolean) ∈ b_T := b_m11 (i := 64) rfl rfl
theorem wi_X12_canBegin : Jvm.Cond.instanceMethod ⟨"BurntHallModel", "canBegin", "(III)Z"⟩ ∈ b_T := b_m11 (i := 63) rfl rfl
theorem ws_X12_canBegin : Jvm.Cond.selects "BurntHallModel" ⟨"BurntHallModel", "canBegin", "(III)Z"⟩ ⟨"BurntHallModel", "canBegin", "(III)Z"⟩ ∈ b_T := b_memS (i := 123) (q := (⟨"BurntHallModel", "canBegin", "(III)Z"⟩, 125)) rfl
theorem wc_X12_rootFor : Jvm.Cond.code ⟨"BurntHallModel", "rootFor", "(I)I"⟩ prog_14_method_98_code 4 (Option.some Jvm.ClassFile.FieldType.int) ∈ b_T := b_m11 (i := 60) rfl rfl
theorem wi_X12_rootFor : Jvm.Cond.instanceMethod ⟨"BurntHallModel", "rootFor", "(I)I"⟩ ∈ b_T := b_m11 (i := 59) rfl rfl
theorem ws_X12_rootFor : Jvm.Cond.selects "BurntHallModel" ⟨"BurntHallModel", "rootFor", "(I)I"⟩ ⟨"BurntHallModel", "rootFor", "(I)I"⟩ ∈ b_T := b_memS (i := 122) (q := (⟨"BurntHallModel", "rootFor", "(I)I"⟩, 125)) rfl
theorem wc_X12_takeLinks : Jvm.Cond.code ⟨"BurntHallModel", "takeLinks", "(II)V"⟩ prog_14_method_99_code 7 (Option.none : Option Jvm.ClassFile.FieldType) ∈ b_T := b_m11 (i := 68) rfl rfl
theorem wi_X12_takeLinks : Jvm.Cond.instanceMethod ⟨"BurntHallModel", "takeLinks", "(II)V"⟩ ∈ b_T := b_m11 (i := 67) rfl rfl
theorem ws_X12_takeLinks : Jvm.Cond.selects "BurntHallModel" ⟨"BurntHallModel", "takeLinks", "(II)V"⟩ ⟨"BurntHallModel", "takeLinks", "(II)V"⟩ ∈ b_T := b_memS (i := 124) (q := (⟨"BurntHallModel", "takeLinks", "(II)V"⟩, 125)) rfl
theorem wc_X12_weakestOf : Jvm.Cond.code ⟨"BurntHallModel", "weakestOf", "()I"⟩ prog_14_method_100_code 3 (Option.some Jvm.ClassFile.FieldType.int) ∈ b_T := b_m11 (i := 72) rfl rfl
theorem wi_X12_weakestOf : Jvm.Cond.instanceMethod ⟨"BurntHallModel", "weakestOf", "()I"⟩ ∈ b_T := b_m11 (i := 71) rfl rfl
theorem ws_X12_weakestOf : Jvm.Cond.selects "BurntHallModel" ⟨"BurntHallModel", "weakestOf", "()I"⟩ ⟨"BurntHallModel", "weakestOf", "()I"⟩ ∈ b_T := b_memS (i := 125) (q := (⟨"BurntHallModel", "weakestOf", "()I"⟩, 125)) rfl
theorem wc_X12_fewest : Jvm.Cond.code ⟨"BurntHallModel", "fewest", "(I)I"⟩ prog_14_method_101_code 3 (Option.some Jvm.ClassFile.FieldType.int) ∈ b_T := b_m11 (i := 52) rfl rfl
theorem wi_X12_fewest : Jvm.Cond.instanceMethod ⟨"BurntHallModel", "fewest", "(I)I"⟩ ∈ b_T := b_m11 (i := 51) rfl rfl
theorem ws_X12_fewest : Jvm.Cond.selects "BurntHallModel" ⟨"BurntHallModel", "fewest", "(I)I"⟩ ⟨"BurntHallModel", "fewest", "(I)I"⟩ ∈ b_T := b_memS (i := 120) (q := (⟨"BurntHallModel", "fewest", "(I)I"⟩, 125)) rfl
theorem wc_X12_makeChain : Jvm.Cond.code ⟨"BurntHallModel", "makeChain", "(III)Z"⟩ prog_14_method_102_code 10 (Option.some Jvm.ClassFile.FieldType.boolean) ∈ b_T := b_m11 (i := 24) rfl rfl
theorem wi_X12_makeChain : Jvm.Cond.instanceMethod ⟨"BurntHallModel", "makeChain", "(III)Z"⟩ ∈ b_T := b_m11 (i := 23) rfl rfl
theorem ws_X12_makeChain : Jvm.Cond.selects "BurntHallModel" ⟨"BurntHallModel", "makeChain", "(III)Z"⟩ ⟨"BurntHallModel", "makeChain", "(III)Z"⟩ ∈ b_T := b_memS (i := 113) (q := (⟨"BurntHallModel", "makeChain", "(III)Z"⟩, 125)) rfl
theorem wc_X12_chain : Jvm.Cond.code ⟨"BurntHallModel", "chain", "(III)I"⟩ prog_14_method_103_code 5 (Option.some Jvm.ClassFile.FieldType.int) ∈ b_T := b_m11 (i := 20) rfl rfl
theorem wi_X12_chain : Jvm.Cond.instanceMethod ⟨"BurntHallModel", "chain", "(III)I"⟩ ∈ b_T := b_m11 (i := 18) rfl rfl
theorem ws_X12_chain : Jvm.Cond.selects "BurntHallModel" ⟨"BurntHallModel", "chain", "(III)I"⟩ ⟨"BurntHallModel", "chain", "(III)I"⟩ ∈ b_T := b_m11 (i := 19) rfl rfl
theorem wc_X12_linked : Jvm.Cond.code ⟨"BurntHallModel", "linked", "(I)I"⟩ prog_14_method_104_code 2 (Option.some Jvm.ClassFile.FieldType.int) ∈ b_T := b_m11 (i := 76) rfl rfl
theorem wi_X12_linked : Jvm.Cond.instanceMethod ⟨"BurntHallModel", "linked", "(I)I"⟩ ∈ b_T := b_m11 (i := 74) rfl rfl
theorem ws_X12_linked : Jvm.Cond.selects "BurntHallModel" ⟨"BurntHallModel", "linked", "(I)I"⟩ ⟨"BurntHallModel", "linked", "(I)I"⟩ ∈ b_T := b_m11 (i := 75) rfl rfl
theorem wc_X12_judge : Jvm.Cond.code ⟨"BurntHallModel", "judge", "(III)I"⟩ prog_14_method_105_code 13 (Option.some Jvm.ClassFile.FieldType.int) ∈ b_T := b_m11 (i := 80) rfl rfl
theorem wi_X12_judge : Jvm.Cond.instanceMethod ⟨"BurntHallModel", "judge", "(III)I"⟩ ∈ b_T := b_m11 (i := 78) rfl rfl
theorem ws_X12_judge : Jvm.Cond.selects "BurntHallModel" ⟨"BurntHallModel", "judge", "(III)I"⟩ ⟨"BurntHallModel", "judge", "(III)I"⟩ ∈ b_T := b_m11 (i := 79) rfl rfl
theorem wc_X12_heldOf : Jvm.Cond.code ⟨"BurntHallModel", "heldOf", "(IIII)I"⟩ prog_14_method_106_code 10 (Option.some Jvm.ClassFile.FieldType.int) ∈ b_T := b_m11 (i := 88) rfl rfl
theorem wi_X12_heldOf : Jvm.Cond.instanceMethod ⟨"BurntHallModel", "heldOf", "(IIII)I"⟩ ∈ b_T := b_m11 (i := 87) rfl rfl
theorem ws_X12_heldOf : Jvm.Cond.selects "BurntHallModel" ⟨"BurntHallModel", "heldOf", "(IIII)I"⟩ ⟨"BurntHallModel", "heldOf", "(IIII)I"⟩ ∈ b_T := b_memS (i := 126) (q := (⟨"BurntHallModel", "heldOf", "(IIII)I"⟩, 125)) rfl
theorem wc_X12_held : Jvm.Cond.code ⟨"BurntHallModel", "held", "(IIII)I"⟩ prog_14_method_107_code 5 (Option.some Jvm.ClassFile.FieldType.int) ∈ b_T := b_m11 (i := 84) rfl rfl
theorem wi_X12_held : Jvm.Cond.instanceMethod ⟨"BurntHallModel", "held", "(IIII)I"⟩ ∈ b_T := b_m11 (i := 82) rfl rfl
theorem ws_X12_held : Jvm.Cond.selects "BurntHallModel" ⟨"BurntHallModel", "held", "(IIII)I"⟩ ⟨"BurntHallModel", "held", "(IIII)I"⟩ ∈ b_T := b_m11 (i := 83) rfl rfl
theorem wc_X12_mortgage : Jvm.Cond.code ⟨"BurntHallModel", "mortgage", "(IIIII)I"⟩ prog_14_method_108_code 6 (Option.some Jvm.ClassFile.FieldType.int) ∈ b_T := b_m11 (i := 92) rfl rfl
theorem wi_X12_mortgage : Jvm.Cond.instanceMethod ⟨"BurntHallModel", "mortgage", "(IIIII)I"⟩ ∈ b_T := b_m11 (i := 90) rfl rfl
theorem ws_X12_mortgage : Jvm.Cond.selects "BurntHallModel" ⟨"BurntHallModel", "mortgage", "(IIIII)I"⟩ ⟨"BurntHallModel", "mortgage", "(IIIII)I"⟩ ∈ b_T := b_m11 (i := 91) rfl rfl
theorem wc_X12_isMortgage : Jvm.Cond.code ⟨"BurntHallModel", "isMortgage", "(I)Z"⟩ prog_14_method_109_code 2 (Option.some Jvm.ClassFile.FieldType.boolean) ∈ b_T := b_m11 (i := 101) rfl rfl
theorem wi_X12_isMortgage : Jvm.Cond.instanceMethod ⟨"BurntHallModel", "isMortgage", "(I)Z"⟩ ∈ b_T := b_m11 (i := 100) rfl rfl
theorem ws_X12_isMortgage : Jvm.Cond.selects "BurntHallModel" ⟨"BurntHallModel", "isMortgage", "(I)Z"⟩ ⟨"BurntHallModel", "isMortgage", "(I)Z"⟩ ∈ b_T := b_memS (i := 127) (q := (⟨"BurntHallModel", "isMortgage", "(I)Z"⟩, 125)) rfl
theorem wc_X12_paid : Jvm.Cond.code ⟨"BurntHallModel", "paid", "(II)I"⟩ prog_14_method_110_code 3 (Option.some Jvm.ClassFile.FieldType.int) ∈ b_T := b_m11 (i := 97) rfl rfl
theorem wi_X12_paid : Jvm.Cond.instanceMethod ⟨"BurntHallModel", "paid", "(II)I"⟩ ∈ b_T := b_m11 (i := 95) rfl rfl
theorem ws_X12_paid : Jvm.Cond.selects "BurntHallModel" ⟨"BurntHallModel", "paid", "(II)I"⟩ ⟨"BurntHallModel", "paid", "(II)I"⟩ ∈ b_T := b_m11 (i := 96) rfl rfl
theorem wc_X12_isStanding : Jvm.Cond.code ⟨"BurntHallModel", "isStanding", "(III)Z"⟩ prog_14_method_111_code 4 (Option.some Jvm.ClassFile.FieldType.boolean) ∈ b_T := b_m11 (i := 109) rfl rfl
theorem wi_X12_isStanding : Jvm.Cond.instanceMethod ⟨"BurntHallModel", "isStanding", "(III)Z"⟩ ∈ b_T := b_m11 (i := 108) rfl rfl
theorem ws_X12_isStanding : Jvm.Cond.selects "BurntHallModel" ⟨"BurntHallModel", "isStanding", "(III)Z"⟩ ⟨"BurntHallModel", "isStanding", "(III)Z"⟩ ∈ b_T := b_memS (i := 128) (q := (⟨"BurntHallModel", "isStanding", "(III)Z"⟩, 125)) rfl
theorem wc_X12_stands : Jvm.Cond.code ⟨"BurntHallModel", "stands", "(III)I"⟩ prog_14_method_112_code 4 (Option.some Jvm.ClassFile.FieldType.int) ∈ b_T := b_m11 (i := 105) rfl rfl
theorem wi_X12_stands : Jvm.Cond.instanceMethod ⟨"BurntHallModel", "stands", "(III)I"⟩ ∈ b_T := b_m11 (i := 103) rfl rfl
theorem ws_X12_stands : Jvm.Cond.selects "BurntHallModel" ⟨"BurntHallModel", "stands", "(III)I"⟩ ⟨"BurntHallModel", "stands", "(III)I"⟩ ∈ b_T := b_m11 (i := 104) rfl rfl
theorem wc_X12_rank : Jvm.Cond.code ⟨"BurntHallModel", "rank", "(III)I"⟩ prog_14_method_113_code 7 (Option.some Jvm.ClassFile.FieldType.int) ∈ b_T := b_m11 (i := 113) rfl rfl
theorem wi_X12_rank : Jvm.Cond.instanceMethod ⟨"BurntHallModel", "rank", "(III)I"⟩ ∈ b_T := b_m11 (i := 111) rfl rfl
theorem ws_X12_rank : Jvm.Cond.selects "BurntHallModel" ⟨"BurntHallModel", "rank", "(III)I"⟩ ⟨"BurntHallModel", "rank", "(III)I"⟩ ∈ b_T := b_m11 (i := 112) rfl rfl
theorem wc_X12_claim : Jvm.Cond.code ⟨"BurntHallModel", "claim", "(II)I"⟩ prog_14_method_114_code 3 (Option.some Jvm.ClassFile.FieldType.int) ∈ b_T := b_m11 (i := 117) rfl rfl
theorem wi_X12_claim : Jvm.Cond.instanceMethod ⟨"BurntHallModel", "claim", "(II)I"⟩ ∈ b_T := b_m11 (i := 115) rfl rfl
theorem ws_X12_claim : Jvm.Cond.selects "BurntHallModel" ⟨"BurntHallModel", "claim", "(II)I"⟩ ⟨"BurntHallModel", "claim", "(II)I"⟩ ∈ b_T := b_m11 (i := 116) rfl rfl
theorem wc_X12_worthOf : Jvm.Cond.code ⟨"BurntHallModel", "worthOf", "(I)I"⟩ prog_14_method_115_code 3 (Option.some Jvm.ClassFile.FieldType.int) ∈ b_T := b_m11 (i := 129) rfl rfl
theorem wi_X12_worthOf : Jvm.Cond.instanceMethod ⟨"BurntHallModel", "worthOf", "(I)I"⟩ ∈ b_T := b_m11 (i := 128) rfl rfl
theorem ws_X12_worthOf : Jvm.Cond.selects "BurntHallModel" ⟨"BurntHallModel", "worthOf", "(I)I"⟩ ⟨"BurntHallModel", "worthOf", "(I)I"⟩ ∈ b_T := b_memS (i := 130) (q := (⟨"BurntHallModel", "worthOf", "(I)I"⟩, 125)) rfl
theorem wc_X12_worth : Jvm.Cond.code ⟨"BurntHallModel", "worth", "(I)I"⟩ prog_14_method_116_code 2 (Option.some Jvm.ClassFile.FieldType.int) ∈ b_T := b_m11 (i := 125) rfl rfl
theorem wi_X12_worth : Jvm.Cond.instanceMethod ⟨"BurntHallModel", "worth", "(I)I"⟩ ∈ b_T := b_m11 (i := 123) rfl rfl
theorem ws_X12_worth : Jvm.Cond.selects "BurntHallModel" ⟨"BurntHallModel", "worth", "(I)I"⟩ ⟨"BurntHallModel", "worth", "(I)I"⟩ ∈ b_T := b_m11 (i := 124) rfl rfl
theorem wc_X12_sit : Jvm.Cond.code ⟨"BurntHallModel", "sit", "(I)I"⟩ prog_14_method_117_code 8 (Option.some Jvm.ClassFile.FieldType.int) ∈ b_T := b_m11 (i := 133) rfl rfl
theorem wi_X12_sit : Jvm.Cond.instanceMethod ⟨"BurntHallModel", "sit", "(I)I"⟩ ∈ b_T := b_m11 (i := 131) rfl rfl
theorem ws_X12_sit : Jvm.Cond.selects "BurntHallModel" ⟨"BurntHallModel", "sit", "(I)I"⟩ ⟨"BurntHallModel", "sit", "(I)I"⟩ ∈ b_T := b_m11 (i := 132) rfl rfl
theorem wc_X12_isDoubt : Jvm.Cond.code ⟨"BurntHallModel", "isDoubt", "(I)Z"⟩ prog_14_method_118_code 2 (Option.some Jvm.ClassFile.FieldType.boolean) ∈ b_T := b_m11 (i := 145) rfl rfl
theorem wi_X12_isDoubt : Jvm.Cond.instanceMethod ⟨"BurntHallModel", "isDoubt", "(I)Z"⟩ ∈ b_T := b_m11 (i := 144) rfl rfl
theorem ws_X12_isDoubt : Jvm.Cond.selects "BurntHallModel" ⟨"BurntHallModel", "isDoubt", "(I)Z"⟩ ⟨"BurntHallModel", "isDoubt", "(I)Z"⟩ ∈ b_T := b_memS (i := 132) (q := (⟨"BurntHallModel", "isDoubt", "(I)Z"⟩, 125)) rfl
theorem wc_X12_ruledAs : Jvm.Cond.code ⟨"BurntHallModel", "ruledAs", "(I)I"⟩ prog_14_method_119_code 2 (Option.some Jvm.ClassFile.FieldType.int) ∈ b_T := b_m11 (i := 141) rfl rfl
theorem wi_X12_ruledAs : Jvm.Cond.instanceMethod ⟨"BurntHallModel", "ruledAs", "(I)I"⟩ ∈ b_T := b_m11 (i := 140) rfl rfl
theorem ws_X12_ruledAs : Jvm.Cond.selects "BurntHallModel" ⟨"BurntHallModel", "ruledAs", "(I)I"⟩ ⟨"BurntHallModel", "ruledAs", "(I)I"⟩ ∈ b_T := b_memS (i := 131) (q := (⟨"BurntHallModel", "ruledAs", "(I)I"⟩, 125)) rfl
theorem wc_X12_claimed : Jvm.Cond.code ⟨"BurntHallModel", "claimed", "(II)I"⟩ prog_14_method_120_code 3 (Option.some Jvm.ClassFile.FieldType.int) ∈ b_T := b_m11 (i := 137) rfl rfl
theorem wi_X12_claimed : Jvm.Cond.instanceMethod ⟨"BurntHallModel", "claimed", "(II)I"⟩ ∈ b_T := b_m11 (i := 135) rfl rfl
theorem ws_X12_claimed : Jvm.Cond.selects "BurntHallModel" ⟨"BurntHallModel", "claimed", "(II)I"⟩ ⟨"BurntHallModel", "claimed", "(II)I"⟩ ∈ b_T := b_m11 (i := 136) rfl rfl
theorem wc_X12_ruled : Jvm.Cond.code ⟨"BurntHallModel", "ruled", "(II)I"⟩ prog_14_method_121_code 3 (Option.some Jvm.ClassFile.FieldType.int) ∈ b_T := b_m11 (i := 149) rfl rfl
theorem wi_X12_ruled : Jvm.Cond.instanceMethod ⟨"BurntHallModel", "ruled", "(II)I"⟩ ∈ b_T := b_m11 (i := 147) rfl rfl
theorem ws_X12_ruled : Jvm.Cond.selects "BurntHallModel" ⟨"BurntHallModel", "ruled", "(II)I"⟩ ⟨"BurntHallModel", "ruled", "(II)I"⟩ ∈ b_T := b_m11 (i := 148) rfl rfl
theorem wc_X12_open : Jvm.Cond.code ⟨"BurntHallModel", "open", "(I)I"⟩ prog_14_method_122_code 5 (Option.some Jvm.ClassFile.FieldType.int) ∈ b_T := b_m11 (i := 153) rfl rfl
theorem wi_X12_open : Jvm.Cond.instanceMethod ⟨"BurntHallModel", "open", "(I)I"⟩ ∈ b_T := b_m11 (i := 151) rfl rfl
theorem ws_X12_open : Jvm.Cond.selects "BurntHallModel" ⟨"BurntHallModel", "open", "(I)I"⟩ ⟨"BurntHallModel", "open", "(I)I"⟩ ∈ b_T := b_m11 (i := 152) rfl rfl
theorem wc_X12_fund : Jvm.Cond.code ⟨"BurntHallModel", "fund", "(I)I"⟩ prog_14_method_123_code 2 (Option.some Jvm.ClassFile.FieldType.int) ∈ b_T := b_m11 (i := 157) rfl rfl
theorem wi_X12_fund : Jvm.Cond.instanceMethod ⟨"BurntHallModel", "fund", "(I)I"⟩ ∈ b_T := b_m11 (i := 155) rfl rfl
theorem ws_X12_fund : Jvm.Cond.selects "BurntHallModel" ⟨"BurntHallModel", "fund", "(I)I"⟩ ⟨"BurntHallModel", "fund", "(I)I"⟩ ∈ b_T := b_m11 (i := 156) rfl rfl
theorem wc_X12_place : Jvm.Cond.code ⟨"BurntHallModel", "place", "(III)I"⟩ prog_14_method_124_code 4 (Option.some Jvm.ClassFile.FieldType.int) ∈ b_T := b_m11 (i := 162) rfl rfl
theorem wi_X12_place : Jvm.Cond.instanceMethod ⟨"BurntHallModel", "place", "(III)I"⟩ ∈ b_T := b_m11 (i := 160) rfl rfl
theorem ws_X12_place : Jvm.Cond.selects "BurntHallModel" ⟨"BurntHallModel", "place", "(III)I"⟩ ⟨"BurntHallModel", "place", "(III)I"⟩ ∈ b_T := b_m11 (i := 161) rfl rfl
theorem wc_X12_isSureWith : Jvm.Cond.code ⟨"BurntHallModel", "isSureWith", "(I)Z"⟩ prog_14_method_125_code 7 (Option.some Jvm.ClassFile.FieldType.boolean) ∈ b_T := b_m11 (i := 174) rfl rfl
theorem wi_X12_isSureWith : Jvm.Cond.instanceMethod ⟨"BurntHallModel", "isSureWith", "(I)Z"⟩ ∈ b_T := b_m11 (i := 173) rfl rfl
theorem ws_X12_isSureWith : Jvm.Cond.selects "BurntHallModel" ⟨"BurntHallModel", "isSureWith", "(I)Z"⟩ ⟨"BurntHallModel", "isSureWith", "(I)Z"⟩ ∈ b_T := b_memS (i := 134) (q := (⟨"BurntHallModel", "isSureWith", "(I)Z"⟩, 125)) rfl
theorem wc_X12_makeSettled : Jvm.Cond.code ⟨"BurntHallModel", "makeSettled", "(II)V"⟩ prog_14_method_126_code 5 (Option.none : Option Jvm.ClassFile.FieldType) ∈ b_T := b_m11 (i := 170) rfl rfl
theorem wi_X12_makeSettled : Jvm.Cond.instanceMethod ⟨"BurntHallModel", "makeSettled", "(II)V"⟩ ∈ b_T := b_m11 (i := 169) rfl rfl
theorem ws_X12_makeSettled : Jvm.Cond.selects "BurntHallModel" ⟨"BurntHallModel", "makeSettled", "(II)V"⟩ ⟨"BurntHallModel", "makeSettled", "(II)V"⟩ ∈ b_T := b_memS (i := 133) (q := (⟨"BurntHallModel", "makeSettled", "(II)V"⟩, 125)) rfl
theorem wc_X12_settles : Jvm.Cond.code ⟨"BurntHallModel", "settles", "(I)I"⟩ prog_14_method_127_code 2 (Option.some Jvm.ClassFile.FieldType.int) ∈ b_T := b_m11 (i := 166) rfl rfl
theorem wi_X12_settles : Jvm.Cond.instanceMethod ⟨"BurntHallModel", "settles", "(I)I"⟩ ∈ b_T := b_m11 (i := 164) rfl rfl
theorem ws_X12_settles : Jvm.Cond.selects "BurntHallModel" ⟨"BurntHallModel", "settles", "(I)I"⟩ ⟨"BurntHallModel", "settles", "(I)I"⟩ ∈ b_T := b_m11 (i := 165) rfl rfl
theorem wc_X12_costOf : Jvm.Cond.code ⟨"BurntHallModel", "costOf", "(I)I"⟩ prog_14_method_128_code 4 (Option.some Jvm.ClassFile.FieldType.int) ∈ b_T := b_m11 (i := 182) rfl rfl
theorem wi_X12_costOf : Jvm.Cond.instanceMethod ⟨"BurntHallModel", "costOf", "(I)I"⟩ ∈ b_T := b_m11 (i := 181) rfl rfl
theorem ws_X12_costOf : Jvm.Cond.selects "BurntHallModel" ⟨"BurntHallModel", "costOf", "(I)I"⟩ ⟨"BurntHallModel", "costOf", "(I)I"⟩ ∈ b_T := b_memS (i := 135) (q := (⟨"BurntHallModel", "costOf", "(I)I"⟩, 125)) rfl
theorem wc_X12_next : Jvm.Cond.code ⟨"BurntHallModel", "next", "(I)I"⟩ prog_14_method_129_code 5 (Option.some Jvm.ClassFile.FieldType.int) ∈ b_T := b_m11 (i := 178) rfl rfl
theorem wi_X12_next : Jvm.Cond.instanceMethod ⟨"BurntHallModel", "next", "(I)I"⟩ ∈ b_T := b_m11 (i := 176) rfl rfl
theorem ws_X12_next : Jvm.Cond.selects "BurntHallModel" ⟨"BurntHallModel", "next", "(I)I"⟩ ⟨"BurntHallModel", "next", "(I)I"⟩ ∈ b_T := b_m11 (i := 177) rfl rfl
theorem wc_X12_looked : Jvm.Cond.code ⟨"BurntHallModel", "looked", "(I)I"⟩ prog_14_method_130_code 2 (Option.some Jvm.ClassFile.FieldType.int) ∈ b_T := b_m11 (i := 186) rfl rfl
theorem wi_X12_looked : Jvm.Cond.instanceMethod ⟨"BurntHallModel", "looked", "(I)I"⟩ ∈ b_T := b_m11 (i := 184) rfl rfl
theorem ws_X12_looked : Jvm.Cond.selects "BurntHallModel" ⟨"BurntHallModel", "looked", "(I)I"⟩ ⟨"BurntHallModel", "looked", "(I)I"⟩ ∈ b_T := b_m11 (i := 185) rfl rfl
theorem wc_X12_count : Jvm.Cond.code ⟨"BurntHallModel", "count", "(I)I"⟩ prog_14_method_131_code 4 (Option.some Jvm.ClassFile.FieldType.int) ∈ b_T := b_m11 (i := 190) rfl rfl
theorem wi_X12_count : Jvm.Cond.instanceMethod ⟨"BurntHallModel", "count", "(I)I"⟩ ∈ b_T := b_m11 (i := 188) rfl rfl
theorem ws_X12_count : Jvm.Cond.selects "BurntHallModel" ⟨"BurntHallModel", "count", "(I)I"⟩ ⟨"BurntHallModel", "count", "(I)I"⟩ ∈ b_T := b_m11 (i := 189) rfl rfl
theorem wc_J9_abs_0f7a4 : Jvm.Cond.code ⟨"java/lang/Math", "abs", "(I)I"⟩ prog_16_method_59_code 1 (Option.some Jvm.ClassFile.FieldType.int) ∈ b_T := b_m5 (i := 21) rfl rfl
theorem wi_J9_abs_0f7a4 : Jvm.Cond.static ⟨"java/lang/Math", "abs", "(I)I"⟩ ∈ b_T := b_m5 (i := 20) rfl rfl
theorem wn_java_lang_Math : Jvm.Cond.initialized "java/lang/Math" ∈ b_T := b_m1 (i := 19) rfl rfl
theorem wc_J9_max_7cf53 : Jvm.Cond.code ⟨"java/lang/Math", "max", "(II)I"⟩ prog_16_method_65_code 2 (Option.some Jvm.ClassFile.FieldType.int) ∈ b_T := b_m4 (i := 68) rfl rfl
theorem wi_J9_max_7cf53 : Jvm.Cond.static ⟨"java/lang/Math", "max", "(II)I"⟩ ∈ b_T := b_m4 (i := 67) rfl rfl
theorem wc_J9_min_7cf53 : Jvm.Cond.code ⟨"java/lang/Math", "min", "(II)I"⟩ prog_16_method_69_code 2 (Option.some Jvm.ClassFile.FieldType.int) ∈ b_T := b_m4 (i := 65) rfl rfl
theorem wi_J9_min_7cf53 : Jvm.Cond.static ⟨"java/lang/Math", "min", "(II)I"⟩ ∈ b_T := b_m4 (i := 64) rfl rfl
theorem wc_J0_length_8abf5 : Jvm.Cond.code ⟨"java/lang/String", "length", "()I"⟩ prog_17_method_54_code 1 (Option.some Jvm.ClassFile.FieldType.int) ∈ b_T := b_m1 (i := 137) rfl rfl
theorem wi_J0_length_8abf5 : Jvm.Cond.instanceMethod ⟨"java/lang/String", "length", "()I"⟩ ∈ b_T := b_m1 (i := 135) rfl rfl
theorem ws_J0_length_8abf5 : Jvm.Cond.selects "java/lang/String" ⟨"java/lang/String", "length", "()I"⟩ ⟨"java/lang/String", "length", "()I"⟩ ∈ b_T := b_m1 (i := 136) rfl rfl
theorem wn_java_lang_String : Jvm.Cond.initialized "java/lang/String" ∈ b_T := b_m1 (i := 5) rfl rfl
theorem wc_J0_charAt_5068e : Jvm.Cond.code ⟨"java/lang/String", "charAt", "(I)C"⟩ prog_17_method_56_code 2 (Option.some Jvm.ClassFile.FieldType.char) ∈ b_T := b_m1 (i := 147) rfl rfl
theorem wi_J0_charAt_5068e : Jvm.Cond.instanceMethod ⟨"java/lang/String", "charAt", "(I)C"⟩ ∈ b_T := b_m1 (i := 145) rfl rfl
theorem ws_J0_charAt_5068e : Jvm.Cond.selects "java/lang/String" ⟨"java/lang/String", "charAt", "(I)C"⟩ ⟨"java/lang/String", "charAt", "(I)C"⟩ ∈ b_T := b_m1 (i := 146) rfl rfl
theorem wc_J0_coder_7d493 : Jvm.Cond.code ⟨"java/lang/String", "coder", "()B"⟩ prog_17_method_152_code 1 (Option.some Jvm.ClassFile.FieldType.byte) ∈ b_T := b_m1 (i := 141) rfl rfl
theorem wi_J0_coder_7d493 : Jvm.Cond.instanceMethod ⟨"java/lang/String", "coder", "()B"⟩ ∈ b_T := b_m1 (i := 139) rfl rfl
theorem ws_J0_coder_7d493 : Jvm.Cond.selects "java/lang/String" ⟨"java/lang/String", "coder", "()B"⟩ ⟨"java/lang/String", "coder", "()B"⟩ ∈ b_T := b_m1 (i := 140) rfl rfl
theorem wc_J0_isLatin1_aae02 : Jvm.Cond.code ⟨"java/lang/String", "isLatin1", "()Z"⟩ prog_17_method_154_code 1 (Option.some Jvm.ClassFile.FieldType.boolean) ∈ b_T := b_m1 (i := 151) rfl rfl
theorem wi_J0_isLatin1_aae02 : Jvm.Cond.instanceMethod ⟨"java/lang/String", "isLatin1", "()Z"⟩ ∈ b_T := b_m1 (i := 149) rfl rfl
theorem ws_J0_isLatin1_aae02 : Jvm.Cond.selects "java/lang/String" ⟨"java/lang/String", "isLatin1", "()Z"⟩ ⟨"java/lang/String", "isLatin1", "()Z"⟩ ∈ b_T := b_m1 (i := 150) rfl rfl
theorem wc_J0_checkIndex_df160 : Jvm.Cond.code ⟨"java/lang/String", "checkIndex", "(II)V"⟩ prog_17_method_155_code 2 (Option.none : Option Jvm.ClassFile.FieldType) ∈ b_T := b_m1 (i := 157) rfl rfl
theorem wi_J0_checkIndex_df160 : Jvm.Cond.static ⟨"java/lang/String", "checkIndex", "(II)V"⟩ ∈ b_T := b_m1 (i := 156) rfl rfl
theorem wc_J1_charAt_3b067 : Jvm.Cond.code ⟨"java/lang/StringLatin1", "charAt", "([BI)C"⟩ prog_18_method_2_code 2 (Option.some Jvm.ClassFile.FieldType.char) ∈ b_T := b_m1 (i := 154) rfl rfl
theorem wi_J1_charAt_3b067 : Jvm.Cond.static ⟨"java/lang/StringLatin1", "charAt", "([BI)C"⟩ ∈ b_T := b_m1 (i := 153) rfl rfl
theorem wn_java_lang_StringLatin1 : Jvm.Cond.initialized "java/lang/StringLatin1" ∈ b_T := b_m1 (i := 6) rfl rfl
theorem wc_J2_getChar_3b067 : Jvm.Cond.code ⟨"java/lang/StringUTF16", "getChar", "([BI)C"⟩ prog_19_method_5_code 2 (Option.some Jvm.ClassFile.FieldType.char) ∈ b_T := b_m1 (i := 175) rfl rfl
theorem wi_J2_getChar_3b067 : Jvm.Cond.static ⟨"java/lang/StringUTF16", "getChar", "([BI)C"⟩ ∈ b_T := b_m1 (i := 174) rfl rfl
theorem wn_java_lang_StringUTF16 : Jvm.Cond.initialized "java/lang/StringUTF16" ∈ b_T := b_m1 (i := 8) rfl rfl
theorem wc_J2_length_9d52b : Jvm.Cond.code ⟨"java/lang/StringUTF16", "length", "([B)I"⟩ prog_19_method_6_code 1 (Option.some Jvm.ClassFile.FieldType.int) ∈ b_T := b_m1 (i := 171) rfl rfl
theorem wi_J2_length_9d52b : Jvm.Cond.static ⟨"java/lang/StringUTF16", "length", "([B)I"⟩ ∈ b_T := b_m1 (i := 170) rfl rfl
theorem wc_J2_charAt_3b067 : Jvm.Cond.code ⟨"java/lang/StringUTF16", "charAt", "([BI)C"⟩ prog_19_method_83_code 2 (Option.some Jvm.ClassFile.FieldType.char) ∈ b_T := b_m1 (i := 165) rfl rfl
theorem wi_J2_charAt_3b067 : Jvm.Cond.static ⟨"java/lang/StringUTF16", "charAt", "([BI)C"⟩ ∈ b_T := b_m1 (i := 164) rfl rfl
theorem wc_J2_checkIndex_2214a : Jvm.Cond.code ⟨"java/lang/StringUTF16", "checkIndex", "(I[B)V"⟩ prog_19_method_91_code 2 (Option.none : Option Jvm.ClassFile.FieldType) ∈ b_T := b_m1 (i := 168) rfl rfl
theorem wi_J2_checkIndex_2214a : Jvm.Cond.static ⟨"java/lang/StringUTF16", "checkIndex", "(I[B)V"⟩ ∈ b_T := b_m1 (i := 167) rfl rfl
theorem wc_J7_fill_53178 : Jvm.Cond.code ⟨"java/util/Arrays", "fill", "([II)V"⟩ prog_21_method_103_code 4 (Option.none : Option Jvm.ClassFile.FieldType) ∈ b_T := b_m7 (i := 214) rfl rfl
theorem wi_J7_fill_53178 : Jvm.Cond.static ⟨"java/util/Arrays", "fill", "([II)V"⟩ ∈ b_T := b_m7 (i := 213) rfl rfl
theorem wn_java_util_Arrays : Jvm.Cond.initialized "java/util/Arrays" ∈ b_T := b_m1 (i := 20) rfl rfl
theorem wc_J7_copyOf_c38d5 : Jvm.Cond.code ⟨"java/util/Arrays", "copyOf", "([JI)[J"⟩ prog_21_method_124_code 3 (Option.some (Jvm.ClassFile.FieldType.array Jvm.ClassFile.FieldType.long)) ∈ b_T := b_m5 (i := 165) rfl rfl
theorem wi_J7_copyOf_c38d5 : Jvm.Cond.static ⟨"java/util/Arrays", "copyOf", "([JI)[J"⟩ ∈ b_T := b_m5 (i := 164) rfl rfl
theorem wc_J3_checkIndex_8e157 : Jvm.Cond.code ⟨"jdk/internal/util/Preconditions", "checkIndex", "(IILjava/util/function/BiFunction;)I"⟩ prog_22_method_11_code 3 (Option.some Jvm.ClassFile.FieldType.int) ∈ b_T := b_m1 (i := 162) rfl rfl
theorem wi_J3_checkIndex_8e157 : Jvm.Cond.static ⟨"jdk/internal/util/Preconditions", "checkIndex", "(IILjava/util/function/BiFunction;)I"⟩ ∈ b_T := b_m1 (i := 161) rfl rfl
theorem wn_jdk_internal_util_Preconditions : Jvm.Cond.initialized "jdk/internal/util/Preconditions" ∈ b_T := b_m1 (i := 7) rfl rfl
