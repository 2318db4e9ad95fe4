abbrev xX12_plain : bX := ("BurntHallModel", prog_14_method_55_code, 1, (Option.some Jvm.ClassFile.FieldType.int), b_rm 1 0 0, 0, "plain")
abbrev yX12_plain : MethodName := ⟨"BurntHallModel", "plain", "(I)I"⟩
theorem dX12_plain_0 : decode prog_14_method_55_code 0 = .ok (.iload_n 0, 1) := by decide +kernel
theorem dX12_plain_1 : decode prog_14_method_55_code 1 = .ok (.tableswitch 68 0 7 #[47, 49, 52, 55, 57, 60, 63, 66], 47) := by decide +kernel
theorem dX12_plain_48 : decode prog_14_method_55_code 48 = .ok (.iconst 1, 1) := by decide +kernel
theorem dX12_plain_49 : decode prog_14_method_55_code 49 = .ok (.ireturn, 1) := by decide +kernel
theorem dX12_plain_50 : decode prog_14_method_55_code 50 = .ok (.bipush 20, 2) := by decide +kernel
theorem dX12_plain_52 : decode prog_14_method_55_code 52 = .ok (.ireturn, 1) := by decide +kernel
theorem dX12_plain_53 : decode prog_14_method_55_code 53 = .ok (.bipush 8, 2) := by decide +kernel
theorem dX12_plain_55 : decode prog_14_method_55_code 55 = .ok (.ireturn, 1) := by decide +kernel
theorem dX12_plain_56 : decode prog_14_method_55_code 56 = .ok (.iconst 2, 1) := by decide +kernel
theorem dX12_plain_57 : decode prog_14_method_55_code 57 = .ok (.ireturn, 1) := by decide +kernel
theorem dX12_plain_58 : decode prog_14_method_55_code 58 = .ok (.bipush 30, 2) := by decide +kernel
theorem dX12_plain_60 : decode prog_14_method_55_code 60 = .ok (.ireturn, 1) := by decide +kernel
theorem dX12_plain_61 : decode prog_14_method_55_code 61 = .ok (.bipush 20, 2) := by decide +kernel
theorem dX12_plain_63 : decode prog_14_method_55_code 63 = .ok (.ireturn, 1) := by decide +kernel
theorem dX12_plain_64 : decode prog_14_method_55_code 64 = .ok (.bipush 10, 2) := by decide +kernel
theorem dX12_plain_66 : decode prog_14_method_55_code 66 = .ok (.ireturn, 1) := by decide +kernel
theorem dX12_plain_67 : decode prog_14_method_55_code 67 = .ok (.iconst 2, 1) := by decide +kernel
theorem dX12_plain_68 : decode prog_14_method_55_code 68 = .ok (.ireturn, 1) := by decide +kernel
theorem dX12_plain_69 : decode prog_14_method_55_code 69 = .ok (.iconst 0, 1) := by decide +kernel
theorem dX12_plain_70 : decode prog_14_method_55_code 70 = .ok (.ireturn, 1) := by decide +kernel
def s_plain (i : Int) : Int := if i = 0 then 1 else if i = 1 then 20 else if i = 2 then 8 else if i = 3 then 2 else if i = 4 then 30 else if i = 5 then 20 else if i = 6 then 10 else if i = 7 then 2 else 0
theorem c_X12_plain {l : Launch} {E : bE} {M : bM} {L : List Nat} {i : Int} : b_CL l E xX12_plain yX12_plain L L [bI i] M (fun r M' => M' = M ∧ r = some (bI (s_plain i))) := by
  refine b_met (by decide) ⟨rfl, rfl⟩ (Nat.le_of_ble_eq_true rfl) (fun hA hRg => ?_)
  refine v_iload_n (f := 0) 0 rfl dX12_plain_0 ?_
  refine v_case (v := 0) (fun q1 => ?_) (fun n1_0 => ?_)
  · refine v_tsIn (tgt := 48) (0) q1 (by decide) (by decide) rfl dX12_plain_1 (by decide) ?_
    refine v_iconst ⟨by decide, by decide⟩ dX12_plain_48 ?_
    refine v_ireturn rfl dX12_plain_49 ⟨by decide, by decide⟩ ?_
    refine ⟨rfl, ?_⟩
    unfold s_plain
    first | (subst_vars; rfl) | (repeat (rw [if_neg (by omega)]))
  refine v_case (v := 1) (fun q1 => ?_) (fun n1_1 => ?_)
  · refine v_tsIn (tgt := 50) (1) q1 (by decide) (by decide) rfl dX12_plain_1 (by decide) ?_
    refine v_bipush ⟨by decide, by decide⟩ (by decide) dX12_plain_50 ?_
    refine v_ireturn rfl dX12_plain_52 ⟨by decide, by decide⟩ ?_
    refine ⟨rfl, ?_⟩
    unfold s_plain
    first | (subst_vars; rfl) | (repeat (rw [if_neg (by omega)]))
  refine v_case (v := 2) (fun q1 => ?_) (fun n1_2 => ?_)
  · refine v_tsIn (tgt := 53) (2) q1 (by decide) (by decide) rfl dX12_plain_1 (by decide) ?_
    refine v_bipush ⟨by decide, by decide⟩ (by decide) dX12_plain_53 ?_
    refine v_ireturn rfl dX12_plain_55 ⟨by decide, by decide⟩ ?_
    refine ⟨rfl, ?_⟩
    unfold s_plain
    first | (subst_vars; rfl) | (repeat (rw [if_neg (by omega)]))
  refine v_case (v := 3) (fun q1 => ?_) (fun n1_3 => ?_)
  · refine v_tsIn (tgt := 56) (3) q1 (by decide) (by decide) rfl dX12_plain_1 (by decide) ?_
    refine v_iconst ⟨by decide, by decide⟩ dX12_plain_56 ?_
    refine v_ireturn rfl dX12_plain_57 ⟨by decide, by decide⟩ ?_
    refine ⟨rfl, ?_⟩
    unfold s_plain
    first | (subst_vars; rfl) | (repeat (rw [if_neg (by omega)]))
  refine v_case (v := 4) (fun q1 => ?_) (fun n1_4 => ?_)
  · refine v_tsIn (tgt := 58) (4) q1 (by decide) (by decide) rfl dX12_plain_1 (by decide) ?_
    refine v_bipush ⟨by decide, by decide⟩ (by decide) dX12_plain_58 ?_
    refine v_ireturn rfl dX12_plain_60 ⟨by decide, by decide⟩ ?_
    refine ⟨rfl, ?_⟩
    unfold s_plain
    first | (subst_vars; rfl) | (repeat (rw [if_neg (by omega)]))
  refine v_case (v := 5) (fun q1 => ?_) (fun n1_5 => ?_)
  · refine v_tsIn (tgt := 61) (5) q1 (by decide) (by decide) rfl dX12_plain_1 (by decide) ?_
    refine v_bipush ⟨by decide, by decide⟩ (by decide) dX12_plain_61 ?_
    refine v_ireturn rfl dX12_plain_63 ⟨by decide, by decide⟩ ?_
    refine ⟨rfl, ?_⟩
    unfold s_plain
    first | (subst_vars; rfl) | (repeat (rw [if_neg (by omega)]))
  refine v_case (v := 6) (fun q1 => ?_) (fun n1_6 => ?_)
  · refine v_tsIn (tgt := 64) (6) q1 (by decide) (by decide) rfl dX12_plain_1 (by decide) ?_
    refine v_bipush ⟨by decide, by decide⟩ (by decide) dX12_plain_64 ?_
    refine v_ireturn rfl dX12_plain_66 ⟨by decide, by decide⟩ ?_
    refine ⟨rfl, ?_⟩
    unfold s_plain
    first | (subst_vars; rfl) | (repeat (rw [if_neg (by omega)]))
  refine v_case (v := 7) (fun q1 => ?_) (fun n1_7 => ?_)
  · refine v_tsIn (tgt := 67) (7) q1 (by decide) (by decide) rfl dX12_plain_1 (by decide) ?_
    refine v_iconst ⟨by decide, by decide⟩ dX12_plain_67 ?_
    refine v_ireturn rfl dX12_plain_68 ⟨by decide, by decide⟩ ?_
    refine ⟨rfl, ?_⟩
    unfold s_plain
    first | (subst_vars; rfl) | (repeat (rw [if_neg (by omega)]))
  refine v_tsOut (tgt := 69) (by omega) dX12_plain_1 (by decide) ?_
  refine v_iconst ⟨by decide, by decide⟩ dX12_plain_69 ?_
  refine v_ireturn rfl dX12_plain_70 ⟨by decide, by decide⟩ ?_
  refine ⟨rfl, ?_⟩
  unfold s_plain
  first | (subst_vars; rfl) | (repeat (rw [if_neg (by omega)]))
abbrev xX12_init : bX := ("BurntHallModel", prog_14_method_1_code, 2, (Option.none : Option Jvm.ClassFile.FieldType), b_rm 2 83 79481, 1, "<init>")
abbrev yX12_init : MethodName := ⟨"BurntHallModel", "<init>", "()V"⟩
theorem dX12_init_0 : decode prog_14_method_1_code 0 = .ok (.aload_n 0, 1) := by decide +kernel
theorem dX12_init_1 : decode prog_14_method_1_code 1 = .ok (.invokespecial 1, 3) := by decide +kernel
theorem dX12_init_4 : decode prog_14_method_1_code 4 = .ok (.aload_n 0, 1) := by decide +kernel
theorem dX12_init_5 : decode prog_14_method_1_code 5 = .ok (.sipush 1000, 3) := by decide +kernel
theorem dX12_init_8 : decode prog_14_method_1_code 8 = .ok (.newarray .byte, 2) := by decide +kernel
theorem dX12_init_10 : decode prog_14_method_1_code 10 = .ok (.putfield 9, 3) := by decide +kernel
theorem dX12_init_13 : decode prog_14_method_1_code 13 = .ok (.aload_n 0, 1) := by decide +kernel
theorem dX12_init_14 : decode prog_14_method_1_code 14 = .ok (.iconst (-1), 1) := by decide +kernel
theorem dX12_init_15 : decode prog_14_method_1_code 15 = .ok (.putfield 13, 3) := by decide +kernel
theorem dX12_init_18 : decode prog_14_method_1_code 18 = .ok (.aload_n 0, 1) := by decide +kernel
theorem dX12_init_19 : decode prog_14_method_1_code 19 = .ok (.bipush 80, 2) := by decide +kernel
theorem dX12_init_21 : decode prog_14_method_1_code 21 = .ok (.newarray .int, 2) := by decide +kernel
theorem dX12_init_23 : decode prog_14_method_1_code 23 = .ok (.putfield 17, 3) := by decide +kernel
theorem dX12_init_26 : decode prog_14_method_1_code 26 = .ok (.aload_n 0, 1) := by decide +kernel
theorem dX12_init_27 : decode prog_14_method_1_code 27 = .ok (.sipush 400, 3) := by decide +kernel
theorem dX12_init_30 : decode prog_14_method_1_code 30 = .ok (.newarray .int, 2) := by decide +kernel
theorem dX12_init_32 : decode prog_14_method_1_code 32 = .ok (.putfield 21, 3) := by decide +kernel
theorem dX12_init_35 : decode prog_14_method_1_code 35 = .ok (.aload_n 0, 1) := by decide +kernel
theorem dX12_init_36 : decode prog_14_method_1_code 36 = .ok (.sipush 400, 3) := by decide +kernel
theorem dX12_init_39 : decode prog_14_method_1_code 39 = .ok (.newarray .int, 2) := by decide +kernel
theorem dX12_init_41 : decode prog_14_method_1_code 41 = .ok (.putfield 24, 3) := by decide +kernel
theorem dX12_init_44 : decode prog_14_method_1_code 44 = .ok (.aload_n 0, 1) := by decide +kernel
theorem dX12_init_45 : decode prog_14_method_1_code 45 = .ok (.sipush 400, 3) := by decide +kernel
theorem dX12_init_48 : decode prog_14_method_1_code 48 = .ok (.newarray .int, 2) := by decide +kernel
theorem dX12_init_50 : decode prog_14_method_1_code 50 = .ok (.putfield 27, 3) := by decide +kernel
theorem dX12_init_53 : decode prog_14_method_1_code 53 = .ok (.aload_n 0, 1) := by decide +kernel
theorem dX12_init_54 : decode prog_14_method_1_code 54 = .ok (.sipush 400, 3) := by decide +kernel
theorem dX12_init_57 : decode prog_14_method_1_code 57 = .ok (.newarray .int, 2) := by decide +kernel
theorem dX12_init_59 : decode prog_14_method_1_code 59 = .ok (.putfield 30, 3) := by decide +kernel
theorem dX12_init_62 : decode prog_14_method_1_code 62 = .ok (.aload_n 0, 1) := by decide +kernel
theorem dX12_init_63 : decode prog_14_method_1_code 63 = .ok (.bipush 80, 2) := by decide +kernel
theorem dX12_init_65 : decode prog_14_method_1_code 65 = .ok (.newarray .int, 2) := by decide +kernel
theorem dX12_init_67 : decode prog_14_method_1_code 67 = .ok (.putfield 33, 3) := by decide +kernel
theorem dX12_init_70 : decode prog_14_method_1_code 70 = .ok (.aload_n 0, 1) := by decide +kernel
theorem dX12_init_71 : decode prog_14_method_1_code 71 = .ok (.bipush 60, 2) := by decide +kernel
theorem dX12_init_73 : decode prog_14_method_1_code 73 = .ok (.newarray .int, 2) := by decide +kernel
theorem dX12_init_75 : decode prog_14_method_1_code 75 = .ok (.putfield 36, 3) := by decide +kernel
theorem dX12_init_78 : decode prog_14_method_1_code 78 = .ok (.aload_n 0, 1) := by decide +kernel
theorem dX12_init_79 : decode prog_14_method_1_code 79 = .ok (.bipush 60, 2) := by decide +kernel
theorem dX12_init_81 : decode prog_14_method_1_code 81 = .ok (.newarray .int, 2) := by decide +kernel
theorem dX12_init_83 : decode prog_14_method_1_code 83 = .ok (.putfield 39, 3) := by decide +kernel
theorem dX12_init_86 : decode prog_14_method_1_code 86 = .ok (.aload_n 0, 1) := by decide +kernel
theorem dX12_init_87 : decode prog_14_method_1_code 87 = .ok (.bipush 60, 2) := by decide +kernel
theorem dX12_init_89 : decode prog_14_method_1_code 89 = .ok (.newarray .int, 2) := by decide +kernel
theorem dX12_init_91 : decode prog_14_method_1_code 91 = .ok (.putfield 42, 3) := by decide +kernel
theorem dX12_init_94 : decode prog_14_method_1_code 94 = .ok (.aload_n 0, 1) := by decide +kernel
theorem dX12_init_95 : decode prog_14_method_1_code 95 = .ok (.bipush 60, 2) := by decide +kernel
theorem dX12_init_97 : decode prog_14_method_1_code 97 = .ok (.newarray .int, 2) := by decide +kernel
theorem dX12_init_99 : decode prog_14_method_1_code 99 = .ok (.putfield 45, 3) := by decide +kernel
theorem dX12_init_102 : decode prog_14_method_1_code 102 = .ok (.aload_n 0, 1) := by decide +kernel
theorem dX12_init_103 : decode prog_14_method_1_code 103 = .ok (.bipush 60, 2) := by decide +kernel
theorem dX12_init_105 : decode prog_14_method_1_code 105 = .ok (.newarray .int, 2) := by decide +kernel
theorem dX12_init_107 : decode prog_14_method_1_code 107 = .ok (.putfield 48, 3) := by decide +kernel
theorem dX12_init_110 : decode prog_14_method_1_code 110 = .ok (.aload_n 0, 1) := by decide +kernel
theorem dX12_init_111 : decode prog_14_method_1_code 111 = .ok (.bipush 60, 2) := by decide +kernel
theorem dX12_init_113 : decode prog_14_method_1_code 113 = .ok (.newarray .long, 2) := by decide +kernel
theorem dX12_init_115 : decode prog_14_method_1_code 115 = .ok (.putfield 51, 3) := by decide +kernel
theorem dX12_init_118 : decode prog_14_method_1_code 118 = .ok (.aload_n 0, 1) := by decide +kernel
theorem dX12_init_119 : decode prog_14_method_1_code 119 = .ok (.bipush 60, 2) := by decide +kernel
theorem dX12_init_121 : decode prog_14_method_1_code 121 = .ok (.newarray .int, 2) := by decide +kernel
theorem dX12_init_123 : decode prog_14_method_1_code 123 = .ok (.putfield 55, 3) := by decide +kernel
theorem dX12_init_126 : decode prog_14_method_1_code 126 = .ok (.aload_n 0, 1) := by decide +kernel
theorem dX12_init_127 : decode prog_14_method_1_code 127 = .ok (.bipush 60, 2) := by decide +kernel
theorem dX12_init_129 : decode prog_14_method_1_code 129 = .ok (.newarray .int, 2) := by decide +kernel
theorem dX12_init_131 : decode prog_14_method_1_code 131 = .ok (.putfield 58, 3) := by decide +kernel
theorem dX12_init_134 : decode prog_14_method_1_code 134 = .ok (.aload_n 0, 1) := by decide +kernel
theorem dX12_init_135 : decode prog_14_method_1_code 135 = .ok (.bipush 60, 2) := by decide +kernel
theorem dX12_init_137 : decode prog_14_method_1_code 137 = .ok (.newarray .int, 2) := by decide +kernel
theorem dX12_init_139 : decode prog_14_method_1_code 139 = .ok (.putfield 61, 3) := by decide +kernel
theorem dX12_init_142 : decode prog_14_method_1_code 142 = .ok (.aload_n 0, 1) := by decide +kernel
theorem dX12_init_143 : decode prog_14_method_1_code 143 = .ok (.sipush 732, 3) := by decide +kernel
theorem dX12_init_146 : decode prog_14_method_1_code 146 = .ok (.newarray .int, 2) := by decide +kernel
theorem dX12_init_148 : decode prog_14_method_1_code 148 = .ok (.putfield 64, 3) := by decide +kernel
theorem dX12_init_151 : decode prog_14_method_1_code 151 = .ok (.aload_n 0, 1) := by decide +kernel
theorem dX12_init_152 : decode prog_14_method_1_code 152 = .ok (.sipush 732, 3) := by decide +kernel
theorem dX12_init_155 : decode prog_14_method_1_code 155 = .ok (.newarray .int, 2) := by decide +kernel
theorem dX12_init_157 : decode prog_14_method_1_code 157 = .ok (.putfield 67, 3) := by decide +kernel
theorem dX12_init_160 : decode prog_14_method_1_code 160 = .ok (.aload_n 0, 1) := by decide +kernel
theorem dX12_init_161 : decode prog_14_method_1_code 161 = .ok (.bipush 26, 2) := by decide +kernel
theorem dX12_init_163 : decode prog_14_method_1_code 163 = .ok (.newarray .int, 2) := by decide +kernel
theorem dX12_init_165 : decode prog_14_method_1_code 165 = .ok (.putfield 70, 3) := by decide +kernel
theorem dX12_init_168 : decode prog_14_method_1_code 168 = .ok (.aload_n 0, 1) := by decide +kernel
theorem dX12_init_169 : decode prog_14_method_1_code 169 = .ok (.bipush 26, 2) := by decide +kernel
theorem dX12_init_171 : decode prog_14_method_1_code 171 = .ok (.newarray .int, 2) := by decide +kernel
theorem dX12_init_173 : decode prog_14_method_1_code 173 = .ok (.putfield 73, 3) := by decide +kernel
theorem dX12_init_176 : decode prog_14_method_1_code 176 = .ok (.aload_n 0, 1) := by decide +kernel
theorem dX12_init_177 : decode prog_14_method_1_code 177 = .ok (.bipush 8, 2) := by decide +kernel
theorem dX12_init_179 : decode prog_14_method_1_code 179 = .ok (.newarray .int, 2) := by decide +kernel
theorem dX12_init_181 : decode prog_14_method_1_code 181 = .ok (.putfield 76, 3) := by decide +kernel
theorem dX12_init_184 : decode prog_14_method_1_code 184 = .ok (.aload_n 0, 1) := by decide +kernel
theorem dX12_init_185 : decode prog_14_method_1_code 185 = .ok (.bipush 110, 2) := by decide +kernel
theorem dX12_init_187 : decode prog_14_method_1_code 187 = .ok (.newarray .int, 2) := by decide +kernel
theorem dX12_init_189 : decode prog_14_method_1_code 189 = .ok (.putfield 79, 3) := by decide +kernel
theorem dX12_init_192 : decode prog_14_method_1_code 192 = .ok (.aload_n 0, 1) := by decide +kernel
theorem dX12_init_193 : decode prog_14_method_1_code 193 = .ok (.sipush 216, 3) := by decide +kernel
theorem dX12_init_196 : decode prog_14_method_1_code 196 = .ok (.newarray .int, 2) := by decide +kernel
theorem dX12_init_198 : decode prog_14_method_1_code 198 = .ok (.putfield 82, 3) := by decide +kernel
theorem dX12_init_201 : decode prog_14_method_1_code 201 = .ok (.aload_n 0, 1) := by decide +kernel
theorem dX12_init_202 : decode prog_14_method_1_code 202 = .ok (.sipush 216, 3) := by decide +kernel
theorem dX12_init_205 : decode prog_14_method_1_code 205 = .ok (.newarray .int, 2) := by decide +kernel
theorem dX12_init_207 : decode prog_14_method_1_code 207 = .ok (.putfield 85, 3) := by decide +kernel
theorem dX12_init_210 : decode prog_14_method_1_code 210 = .ok (.aload_n 0, 1) := by decide +kernel
theorem dX12_init_211 : decode prog_14_method_1_code 211 = .ok (.sipush 216, 3) := by decide +kernel
theorem dX12_init_214 : decode prog_14_method_1_code 214 = .ok (.newarray .int, 2) := by decide +kernel
theorem dX12_init_216 : decode prog_14_method_1_code 216 = .ok (.putfield 88, 3) := by decide +kernel
theorem dX12_init_219 : decode prog_14_method_1_code 219 = .ok (.aload_n 0, 1) := by decide +kernel
theorem dX12_init_220 : decode prog_14_method_1_code 220 = .ok (.sipush 216, 3) := by decide +kernel
theorem dX12_init_223 : decode prog_14_method_1_code 223 = .ok (.newarray .int, 2) := by decide +kernel
theorem dX12_init_225 : decode prog_14_method_1_code 225 = .ok (.putfield 91, 3) := by decide +kernel
theorem dX12_init_228 : decode prog_14_method_1_code 228 = .ok (.aload_n 0, 1) := by decide +kernel
theorem dX12_init_229 : decode prog_14_method_1_code 229 = .ok (.sipush 21600, 3) := by decide +kernel
theorem dX12_init_232 : decode prog_14_method_1_code 232 = .ok (.newarray .int, 2) := by decide +kernel
theorem dX12_init_234 : decode prog_14_method_1_code 234 = .ok (.putfield 94, 3) := by decide +kernel
theorem dX12_init_237 : decode prog_14_method_1_code 237 = .ok (.aload_n 0, 1) := by decide +kernel
theorem dX12_init_238 : decode prog_14_method_1_code 238 = .ok (.sipush 2592, 3) := by decide +kernel
theorem dX12_init_241 : decode prog_14_method_1_code 241 = .ok (.newarray .int, 2) := by decide +kernel
theorem dX12_init_243 : decode prog_14_method_1_code 243 = .ok (.putfield 97, 3) := by decide +kernel
theorem dX12_init_246 : decode prog_14_method_1_code 246 = .ok (.aload_n 0, 1) := by decide +kernel
theorem dX12_init_247 : decode prog_14_method_1_code 247 = .ok (.sipush 2592, 3) := by decide +kernel
theorem dX12_init_250 : decode prog_14_method_1_code 250 = .ok (.newarray .int, 2) := by decide +kernel
theorem dX12_init_252 : decode prog_14_method_1_code 252 = .ok (.putfield 100, 3) := by decide +kernel
theorem dX12_init_255 : decode prog_14_method_1_code 255 = .ok (.aload_n 0, 1) := by decide +kernel
theorem dX12_init_256 : decode prog_14_method_1_code 256 = .ok (.sipush 2592, 3) := by decide +kernel
theorem dX12_init_259 : decode prog_14_method_1_code 259 = .ok (.newarray .int, 2) := by decide +kernel
theorem dX12_init_261 : decode prog_14_method_1_code 261 = .ok (.putfield 103, 3) := by decide +kernel
theorem dX12_init_264 : decode prog_14_method_1_code 264 = .ok (.aload_n 0, 1) := by decide +kernel
theorem dX12_init_265 : decode prog_14_method_1_code 265 = .ok (.sipush 15552, 3) := by decide +kernel
theorem dX12_init_268 : decode prog_14_method_1_code 268 = .ok (.newarray .long, 2) := by decide +kernel
theorem dX12_init_270 : decode prog_14_method_1_code 270 = .ok (.putfield 106, 3) := by decide +kernel
theorem dX12_init_273 : decode prog_14_method_1_code 273 = .ok (.aload_n 0, 1) := by decide +kernel
theorem dX12_init_274 : decode prog_14_method_1_code 274 = .ok (.sipush 15552, 3) := by decide +kernel
theorem dX12_init_277 : decode prog_14_method_1_code 277 = .ok (.newarray .int, 2) := by decide +kernel
theorem dX12_init_279 : decode prog_14_method_1_code 279 = .ok (.putfield 109, 3) := by decide +kernel
theorem dX12_init_282 : decode prog_14_method_1_code 282 = .ok (.aload_n 0, 1) := by decide +kernel
theorem dX12_init_283 : decode prog_14_method_1_code 283 = .ok (.bipush 20, 2) := by decide +kernel
theorem dX12_init_285 : decode prog_14_method_1_code 285 = .ok (.putfield 112, 3) := by decide +kernel
theorem dX12_init_288 : decode prog_14_method_1_code 288 = .ok (.aload_n 0, 1) := by decide +kernel
theorem dX12_init_289 : decode prog_14_method_1_code 289 = .ok (.bipush 120, 2) := by decide +kernel
theorem dX12_init_291 : decode prog_14_method_1_code 291 = .ok (.newarray .int, 2) := by decide +kernel
theorem dX12_init_293 : decode prog_14_method_1_code 293 = .ok (.putfield 115, 3) := by decide +kernel
theorem dX12_init_296 : decode prog_14_method_1_code 296 = .ok (.aload_n 0, 1) := by decide +kernel
theorem dX12_init_297 : decode prog_14_method_1_code 297 = .ok (.bipush 120, 2) := by decide +kernel
theorem dX12_init_299 : decode prog_14_method_1_code 299 = .ok (.newarray .int, 2) := by decide +kernel
theorem dX12_init_301 : decode prog_14_method_1_code 301 = .ok (.putfield 118, 3) := by decide +kernel
theorem dX12_init_304 : decode prog_14_method_1_code 304 = .ok (.aload_n 0, 1) := by decide +kernel
theorem dX12_init_305 : decode prog_14_method_1_code 305 = .ok (.sipush 360, 3) := by decide +kernel
theorem dX12_init_308 : decode prog_14_method_1_code 308 = .ok (.newarray .int, 2) := by decide +kernel
theorem dX12_init_310 : decode prog_14_method_1_code 310 = .ok (.putfield 121, 3) := by decide +kernel
theorem dX12_init_313 : decode prog_14_method_1_code 313 = .ok (.aload_n 0, 1) := by decide +kernel
theorem dX12_init_314 : decode prog_14_method_1_code 314 = .ok (.bipush 120, 2) := by decide +kernel
theorem dX12_init_316 : decode prog_14_method_1_code 316 = .ok (.newarray .int, 2) := by decide +kernel
theorem dX12_init_318 : decode prog_14_method_1_code 318 = .ok (.putfield 124, 3) := by decide +kernel
theorem dX12_init_321 : decode prog_14_method_1_code 321 = .ok (.aload_n 0, 1) := by decide +kernel
theorem dX12_init_322 : decode prog_14_method_1_code 322 = .ok (.bipush 120, 2) := by decide +kernel
theorem dX12_init_324 : decode prog_14_method_1_code 324 = .ok (.newarray .int, 2) := by decide +kernel
theorem dX12_init_326 : decode prog_14_method_1_code 326 = .ok (.putfield 127, 3) := by decide +kernel
theorem dX12_init_329 : decode prog_14_method_1_code 329 = .ok (.aload_n 0, 1) := by decide +kernel
theorem dX12_init_330 : decode prog_14_method_1_code 330 = .ok (.bipush 120, 2) := by decide +kernel
theorem dX12_init_332 : decode prog_14_method_1_code 332 = .ok (.newarray .int, 2) := by decide +kernel
theorem dX12_init_334 : decode prog_14_method_1_code 334 = .ok (.putfield 130, 3) := by decide +kernel
theorem dX12_init_337 : decode prog_14_method_1_code 337 = .ok (.aload_n 0, 1) := by decide +kernel
theorem dX12_init_338 : decode prog_14_method_1_code 338 = .ok (.bipush 120, 2) := by decide +kernel
theorem dX12_init_340 : decode prog_14_method_1_code 340 = .ok (.newarray .boolean, 2) := by decide +kernel
theorem dX12_init_342 : decode prog_14_method_1_code 342 = .ok (.putfield 133, 3) := by decide +kernel
theorem dX12_init_345 : decode prog_14_method_1_code 345 = .ok (.aload_n 0, 1) := by decide +kernel
theorem dX12_init_346 : decode prog_14_method_1_code 346 = .ok (.bipush 120, 2) := by decide +kernel
theorem dX12_init_348 : decode prog_14_method_1_code 348 = .ok (.newarray .int, 2) := by decide +kernel
theorem dX12_init_350 : decode prog_14_method_1_code 350 = .ok (.putfield 137, 3) := by decide +kernel
theorem dX12_init_353 : decode prog_14_method_1_code 353 = .ok (.aload_n 0, 1) := by decide +kernel
theorem dX12_init_354 : decode prog_14_method_1_code 354 = .ok (.bipush 120, 2) := by decide +kernel
theorem dX12_init_356 : decode prog_14_method_1_code 356 = .ok (.newarray .int, 2) := by decide +kernel
theorem dX12_init_358 : decode prog_14_method_1_code 358 = .ok (.putfield 140, 3) := by decide +kernel
theorem dX12_init_361 : decode prog_14_method_1_code 361 = .ok (.aload_n 0, 1) := by decide +kernel
theorem dX12_init_362 : decode prog_14_method_1_code 362 = .ok (.bipush 120, 2) := by decide +kernel
theorem dX12_init_364 : decode prog_14_method_1_code 364 = .ok (.newarray .int, 2) := by decide +kernel
theorem dX12_init_366 : decode prog_14_method_1_code 366 = .ok (.putfield 143, 3) := by decide +kernel
theorem dX12_init_369 : decode prog_14_method_1_code 369 = .ok (.aload_n 0, 1) := by decide +kernel
theorem dX12_init_370 : decode prog_14_method_1_code 370 = .ok (.bipush 120, 2) := by decide +kernel
theorem dX12_init_372 : decode prog_14_method_1_code 372 = .ok (.newarray .int, 2) := by decide +kernel
theorem dX12_init_374 : decode prog_14_method_1_code 374 = .ok (.putfield 146, 3) := by decide +kernel
theorem dX12_init_377 : decode prog_14_method_1_code 377 = .ok (.aload_n 0, 1) := by decide +kernel
theorem dX12_init_378 : decode prog_14_method_1_code 378 = .ok (.sipush 1452, 3) := by decide +kernel
theorem dX12_init_381 : decode prog_14_method_1_code 381 = .ok (.newarray .long, 2) := by decide +kernel
theorem dX12_init_383 : decode prog_14_method_1_code 383 = .ok (.putfield 149, 3) := by decide +kernel
theorem dX12_init_386 : decode prog_14_method_1_code 386 = .ok (.aload_n 0, 1) := by decide +kernel
theorem dX12_init_387 : decode prog_14_method_1_code 387 = .ok (.sipush 1452, 3) := by decide +kernel
theorem dX12_init_390 : decode prog_14_method_1_code 390 = .ok (.newarray .int, 2) := by decide +kernel
theorem dX12_init_392 : decode prog_14_method_1_code 392 = .ok (.putfield 152, 3) := by decide +kernel
theorem dX12_init_395 : decode prog_14_method_1_code 395 = .ok (.aload_n 0, 1) := by decide +kernel
theorem dX12_init_396 : decode prog_14_method_1_code 396 = .ok (.bipush 121, 2) := by decide +kernel
theorem dX12_init_398 : decode prog_14_method_1_code 398 = .ok (.newarray .int, 2) := by decide +kernel
theorem dX12_init_400 : decode prog_14_method_1_code 400 = .ok (.putfield 155, 3) := by decide +kernel
theorem dX12_init_403 : decode prog_14_method_1_code 403 = .ok (.aload_n 0, 1) := by decide +kernel
theorem dX12_init_404 : decode prog_14_method_1_code 404 = .ok (.bipush 120, 2) := by decide +kernel
theorem dX12_init_406 : decode prog_14_method_1_code 406 = .ok (.newarray .boolean, 2) := by decide +kernel
theorem dX12_init_408 : decode prog_14_method_1_code 408 = .ok (.putfield 158, 3) := by decide +kernel
theorem dX12_init_411 : decode prog_14_method_1_code 411 = .ok (.aload_n 0, 1) := by decide +kernel
theorem dX12_init_412 : decode prog_14_method_1_code 412 = .ok (.bipush 90, 2) := by decide +kernel
theorem dX12_init_414 : decode prog_14_method_1_code 414 = .ok (.newarray .int, 2) := by decide +kernel
theorem dX12_init_416 : decode prog_14_method_1_code 416 = .ok (.putfield 161, 3) := by decide +kernel
theorem dX12_init_419 : decode prog_14_method_1_code 419 = .ok (.aload_n 0, 1) := by decide +kernel
theorem dX12_init_420 : decode prog_14_method_1_code 420 = .ok (.bipush 90, 2) := by decide +kernel
theorem dX12_init_422 : decode prog_14_method_1_code 422 = .ok (.newarray .int, 2) := by decide +kernel
theorem dX12_init_424 : decode prog_14_method_1_code 424 = .ok (.putfield 164, 3) := by decide +kernel
theorem dX12_init_427 : decode prog_14_method_1_code 427 = .ok (.aload_n 0, 1) := by decide +kernel
theorem dX12_init_428 : decode prog_14_method_1_code 428 = .ok (.bipush 30, 2) := by decide +kernel
theorem dX12_init_430 : decode prog_14_method_1_code 430 = .ok (.newarray .int, 2) := by decide +kernel
theorem dX12_init_432 : decode prog_14_method_1_code 432 = .ok (.putfield 167, 3) := by decide +kernel
theorem dX12_init_435 : decode prog_14_method_1_code 435 = .ok (.aload_n 0, 1) := by decide +kernel
theorem dX12_init_436 : decode prog_14_method_1_code 436 = .ok (.bipush 30, 2) := by decide +kernel
theorem dX12_init_438 : decode prog_14_method_1_code 438 = .ok (.newarray .int, 2) := by decide +kernel
theorem dX12_init_440 : decode prog_14_method_1_code 440 = .ok (.putfield 170, 3) := by decide +kernel
theorem dX12_init_443 : decode prog_14_method_1_code 443 = .ok (.aload_n 0, 1) := by decide +kernel
theorem dX12_init_444 : decode prog_14_method_1_code 444 = .ok (.bipush 30, 2) := by decide +kernel
theorem dX12_init_446 : decode prog_14_method_1_code 446 = .ok (.newarray .int, 2) := by decide +kernel
theorem dX12_init_448 : decode prog_14_method_1_code 448 = .ok (.putfield 173, 3) := by decide +kernel
theorem dX12_init_451 : decode prog_14_method_1_code 451 = .ok (.aload_n 0, 1) := by decide +kernel
theorem dX12_init_452 : decode prog_14_method_1_code 452 = .ok (.bipush 120, 2) := by decide +kernel
theorem dX12_init_454 : decode prog_14_method_1_code 454 = .ok (.newarray .boolean, 2) := by decide +kernel
theorem dX12_init_456 : decode prog_14_method_1_code 456 = .ok (.putfield 176, 3) := by decide +kernel
theorem dX12_init_459 : decode prog_14_method_1_code 459 = .ok (.aload_n 0, 1) := by decide +kernel
theorem dX12_init_460 : decode prog_14_method_1_code 460 = .ok (.bipush 120, 2) := by decide +kernel
theorem dX12_init_462 : decode prog_14_method_1_code 462 = .ok (.newarray .int, 2) := by decide +kernel
theorem dX12_init_464 : decode prog_14_method_1_code 464 = .ok (.putfield 179, 3) := by decide +kernel
theorem dX12_init_467 : decode prog_14_method_1_code 467 = .ok (.aload_n 0, 1) := by decide +kernel
theorem dX12_init_468 : decode prog_14_method_1_code 468 = .ok (.bipush 120, 2) := by decide +kernel
theorem dX12_init_470 : decode prog_14_method_1_code 470 = .ok (.newarray .int, 2) := by decide +kernel
theorem dX12_init_472 : decode prog_14_method_1_code 472 = .ok (.putfield 182, 3) := by decide +kernel
theorem dX12_init_475 : decode prog_14_method_1_code 475 = .ok (.aload_n 0, 1) := by decide +kernel
theorem dX12_init_476 : decode prog_14_method_1_code 476 = .ok (.bipush 60, 2) := by decide +kernel
theorem dX12_init_478 : decode prog_14_method_1_code 478 = .ok (.newarray .int, 2) := by decide +kernel
theorem dX12_init_480 : decode prog_14_method_1_code 480 = .ok (.putfield 185, 3) := by decide +kernel
theorem dX12_init_483 : decode prog_14_method_1_code 483 = .ok (.aload_n 0, 1) := by decide +kernel
theorem dX12_init_484 : decode prog_14_method_1_code 484 = .ok (.bipush 60, 2) := by decide +kernel
theorem dX12_init_486 : decode prog_14_method_1_code 486 = .ok (.newarray .int, 2) := by decide +kernel
theorem dX12_init_488 : decode prog_14_method_1_code 488 = .ok (.putfield 188, 3) := by decide +kernel
theorem dX12_init_491 : decode prog_14_method_1_code 491 = .ok (.aload_n 0, 1) := by decide +kernel
theorem dX12_init_492 : decode prog_14_method_1_code 492 = .ok (.bipush 8, 2) := by decide +kernel
theorem dX12_init_494 : decode prog_14_method_1_code 494 = .ok (.newarray .int, 2) := by decide +kernel
theorem dX12_init_496 : decode prog_14_method_1_code 496 = .ok (.putfield 191, 3) := by decide +kernel
theorem dX12_init_499 : decode prog_14_method_1_code 499 = .ok (.aload_n 0, 1) := by decide +kernel
theorem dX12_init_500 : decode prog_14_method_1_code 500 = .ok (.sipush 240, 3) := by decide +kernel
theorem dX12_init_503 : decode prog_14_method_1_code 503 = .ok (.newarray .int, 2) := by decide +kernel
theorem dX12_init_505 : decode prog_14_method_1_code 505 = .ok (.putfield 194, 3) := by decide +kernel
theorem dX12_init_508 : decode prog_14_method_1_code 508 = .ok (.aload_n 0, 1) := by decide +kernel
theorem dX12_init_509 : decode prog_14_method_1_code 509 = .ok (.sipush 900, 3) := by decide +kernel
theorem dX12_init_512 : decode prog_14_method_1_code 512 = .ok (.newarray .boolean, 2) := by decide +kernel
theorem dX12_init_514 : decode prog_14_method_1_code 514 = .ok (.putfield 197, 3) := by decide +kernel
theorem dX12_init_517 : decode prog_14_method_1_code 517 = .ok (.aload_n 0, 1) := by decide +kernel
theorem dX12_init_518 : decode prog_14_method_1_code 518 = .ok (.sipush 1800, 3) := by decide +kernel
theorem dX12_init_521 : decode prog_14_method_1_code 521 = .ok (.newarray .boolean, 2) := by decide +kernel
theorem dX12_init_523 : decode prog_14_method_1_code 523 = .ok (.putfield 200, 3) := by decide +kernel
theorem dX12_init_526 : decode prog_14_method_1_code 526 = .ok (.aload_n 0, 1) := by decide +kernel
theorem dX12_init_527 : decode prog_14_method_1_code 527 = .ok (.bipush 30, 2) := by decide +kernel
theorem dX12_init_529 : decode prog_14_method_1_code 529 = .ok (.newarray .boolean, 2) := by decide +kernel
theorem dX12_init_531 : decode prog_14_method_1_code 531 = .ok (.putfield 203, 3) := by decide +kernel
theorem dX12_init_534 : decode prog_14_method_1_code 534 = .ok (.aload_n 0, 1) := by decide +kernel
theorem dX12_init_535 : decode prog_14_method_1_code 535 = .ok (.bipush 8, 2) := by decide +kernel
theorem dX12_init_537 : decode prog_14_method_1_code 537 = .ok (.newarray .int, 2) := by decide +kernel
theorem dX12_init_539 : decode prog_14_method_1_code 539 = .ok (.putfield 206, 3) := by decide +kernel
theorem dX12_init_542 : decode prog_14_method_1_code 542 = .ok (.aload_n 0, 1) := by decide +kernel
theorem dX12_init_543 : decode prog_14_method_1_code 543 = .ok (.bipush 40, 2) := by decide +kernel
theorem dX12_init_545 : decode prog_14_method_1_code 545 = .ok (.newarray .int, 2) := by decide +kernel
theorem dX12_init_547 : decode prog_14_method_1_code 547 = .ok (.putfield 209, 3) := by decide +kernel
theorem dX12_init_550 : decode prog_14_method_1_code 550 = .ok (.aload_n 0, 1) := by decide +kernel
theorem dX12_init_551 : decode prog_14_method_1_code 551 = .ok (.bipush 40, 2) := by decide +kernel
theorem dX12_init_553 : decode prog_14_method_1_code 553 = .ok (.newarray .int, 2) := by decide +kernel
theorem dX12_init_555 : decode prog_14_method_1_code 555 = .ok (.putfield 212, 3) := by decide +kernel
theorem dX12_init_558 : decode prog_14_method_1_code 558 = .ok (.aload_n 0, 1) := by decide +kernel
theorem dX12_init_559 : decode prog_14_method_1_code 559 = .ok (.bipush 40, 2) := by decide +kernel
theorem dX12_init_561 : decode prog_14_method_1_code 561 = .ok (.newarray .int, 2) := by decide +kernel
theorem dX12_init_563 : decode prog_14_method_1_code 563 = .ok (.putfield 215, 3) := by decide +kernel
theorem dX12_init_566 : decode prog_14_method_1_code 566 = .ok (.aload_n 0, 1) := by decide +kernel
theorem dX12_init_567 : decode prog_14_method_1_code 567 = .ok (.bipush 40, 2) := by decide +kernel
theorem dX12_init_569 : decode prog_14_method_1_code 569 = .ok (.newarray .int, 2) := by decide +kernel
theorem dX12_init_571 : decode prog_14_method_1_code 571 = .ok (.putfield 218, 3) := by decide +kernel
theorem dX12_init_574 : decode prog_14_method_1_code 574 = .ok (.aload_n 0, 1) := by decide +kernel
theorem dX12_init_575 : decode prog_14_method_1_code 575 = .ok (.bipush 40, 2) := by decide +kernel
theorem dX12_init_577 : decode prog_14_method_1_code 577 = .ok (.newarray .int, 2) := by decide +kernel
theorem dX12_init_579 : decode prog_14_method_1_code 579 = .ok (.putfield 221, 3) := by decide +kernel
theorem dX12_init_582 : decode prog_14_method_1_code 582 = .ok (.aload_n 0, 1) := by decide +kernel
theorem dX12_init_583 : decode prog_14_method_1_code 583 = .ok (.bipush 40, 2) := by decide +kernel
theorem dX12_init_585 : decode prog_14_method_1_code 585 = .ok (.newarray .int, 2) := by decide +kernel
theorem dX12_init_587 : decode prog_14_method_1_code 587 = .ok (.putfield 224, 3) := by decide +kernel
theorem dX12_init_590 : decode prog_14_method_1_code 590 = .ok (.aload_n 0, 1) := by decide +kernel
theorem dX12_init_591 : decode prog_14_method_1_code 591 = .ok (.bipush 30, 2) := by decide +kernel
theorem dX12_init_593 : decode prog_14_method_1_code 593 = .ok (.newarray .int, 2) := by decide +kernel
theorem dX12_init_595 : decode prog_14_method_1_code 595 = .ok (.putfield 227, 3) := by decide +kernel
theorem dX12_init_598 : decode prog_14_method_1_code 598 = .ok (.aload_n 0, 1) := by decide +kernel
theorem dX12_init_599 : decode prog_14_method_1_code 599 = .ok (.bipush 30, 2) := by decide +kernel
theorem dX12_init_601 : decode prog_14_method_1_code 601 = .ok (.newarray .int, 2) := by decide +kernel
theorem dX12_init_603 : decode prog_14_method_1_code 603 = .ok (.putfield 230, 3) := by decide +kernel
theorem dX12_init_606 : decode prog_14_method_1_code 606 = .ok (.aload_n 0, 1) := by decide +kernel
theorem dX12_init_607 : decode prog_14_method_1_code 607 = .ok (.bipush 30, 2) := by decide +kernel
theorem dX12_init_609 : decode prog_14_method_1_code 609 = .ok (.newarray .int, 2) := by decide +kernel
theorem dX12_init_611 : decode prog_14_method_1_code 611 = .ok (.putfield 233, 3) := by decide +kernel
theorem dX12_init_614 : decode prog_14_method_1_code 614 = .ok (.aload_n 0, 1) := by decide +kernel
theorem dX12_init_615 : decode prog_14_method_1_code 615 = .ok (.bipush 30, 2) := by decide +kernel
theorem dX12_init_617 : decode prog_14_method_1_code 617 = .ok (.newarray .int, 2) := by decide +kernel
theorem dX12_init_619 : decode prog_14_method_1_code 619 = .ok (.putfield 236, 3) := by decide +kernel
theorem dX12_init_622 : decode prog_14_method_1_code 622 = .ok (.aload_n 0, 1) := by decide +kernel
theorem dX12_init_623 : decode prog_14_method_1_code 623 = .ok (.bipush 30, 2) := by decide +kernel
theorem dX12_init_625 : decode prog_14_method_1_code 625 = .ok (.newarray .int, 2) := by decide +kernel
theorem dX12_init_627 : decode prog_14_method_1_code 627 = .ok (.putfield 239, 3) := by decide +kernel
theorem dX12_init_630 : decode prog_14_method_1_code 630 = .ok (.aload_n 0, 1) := by decide +kernel
theorem dX12_init_631 : decode prog_14_method_1_code 631 = .ok (.bipush 60, 2) := by decide +kernel
theorem dX12_init_633 : decode prog_14_method_1_code 633 = .ok (.newarray .int, 2) := by decide +kernel
theorem dX12_init_635 : decode prog_14_method_1_code 635 = .ok (.putfield 242, 3) := by decide +kernel
theorem dX12_init_638 : decode prog_14_method_1_code 638 = .ok (.aload_n 0, 1) := by decide +kernel
theorem dX12_init_639 : decode prog_14_method_1_code 639 = .ok (.bipush 60, 2) := by decide +kernel
theorem dX12_init_641 : decode prog_14_method_1_code 641 = .ok (.newarray .int, 2) := by decide +kernel
theorem dX12_init_643 : decode prog_14_method_1_code 643 = .ok (.putfield 245, 3) := by decide +kernel
theorem dX12_init_646 : decode prog_14_method_1_code 646 = .ok (.aload_n 0, 1) := by decide +kernel
theorem dX12_init_647 : decode prog_14_method_1_code 647 = .ok (.bipush 60, 2) := by decide +kernel
theorem dX12_init_649 : decode prog_14_method_1_code 649 = .ok (.newarray .int, 2) := by decide +kernel
theorem dX12_init_651 : decode prog_14_method_1_code 651 = .ok (.putfield 248, 3) := by decide +kernel
theorem dX12_init_654 : decode prog_14_method_1_code 654 = .ok (.aload_n 0, 1) := by decide +kernel
theorem dX12_init_655 : decode prog_14_method_1_code 655 = .ok (.bipush 30, 2) := by decide +kernel
theorem dX12_init_657 : decode prog_14_method_1_code 657 = .ok (.newarray .int, 2) := by decide +kernel
theorem dX12_init_659 : decode prog_14_method_1_code 659 = .ok (.putfield 251, 3) := by decide +kernel
theorem dX12_init_662 : decode prog_14_method_1_code 662 = .ok (.aload_n 0, 1) := by decide +kernel
theorem dX12_init_663 : decode prog_14_method_1_code 663 = .ok (.bipush 30, 2) := by decide +kernel
theorem dX12_init_665 : decode prog_14_method_1_code 665 = .ok (.newarray .int, 2) := by decide +kernel
theorem dX12_init_667 : decode prog_14_method_1_code 667 = .ok (.putfield 254, 3) := by decide +kernel
theorem dX12_init_670 : decode prog_14_method_1_code 670 = .ok (.aload_n 0, 1) := by decide +kernel
theorem dX12_init_671 : decode prog_14_method_1_code 671 = .ok (.bipush 12, 2) := by decide +kernel
theorem dX12_init_673 : decode prog_14_method_1_code 673 = .ok (.newarray .int, 2) := by decide +kernel
theorem dX12_init_675 : decode prog_14_method_1_code 675 = .ok (.putfield 257, 3) := by decide +kernel
theorem dX12_init_678 : decode prog_14_method_1_code 678 = .ok (.aload_n 0, 1) := by decide +kernel
theorem dX12_init_679 : decode prog_14_method_1_code 679 = .ok (.bipush 12, 2) := by decide +kernel
theorem dX12_init_681 : decode prog_14_method_1_code 681 = .ok (.newarray .int, 2) := by decide +kernel
theorem dX12_init_683 : decode prog_14_method_1_code 683 = .ok (.putfield 260, 3) := by decide +kernel
theorem dX12_init_686 : decode prog_14_method_1_code 686 = .ok (.aload_n 0, 1) := by decide +kernel
theorem dX12_init_687 : decode prog_14_method_1_code 687 = .ok (.bipush 12, 2) := by decide +kernel
theorem dX12_init_689 : decode prog_14_method_1_code 689 = .ok (.newarray .int, 2) := by decide +kernel
theorem dX12_init_691 : decode prog_14_method_1_code 691 = .ok (.putfield 263, 3) := by decide +kernel
theorem dX12_init_694 : decode prog_14_method_1_code 694 = .ok (.aload_n 0, 1) := by decide +kernel
theorem dX12_init_695 : decode prog_14_method_1_code 695 = .ok (.iconst (-1), 1) := by decide +kernel
theorem dX12_init_696 : decode prog_14_method_1_code 696 = .ok (.putfield 266, 3) := by decide +kernel
theorem dX12_init_699 : decode prog_14_method_1_code 699 = .ok (.aload_n 0, 1) := by decide +kernel
theorem dX12_init_700 : decode prog_14_method_1_code 700 = .ok (.iconst (-1), 1) := by decide +kernel
theorem dX12_init_701 : decode prog_14_method_1_code 701 = .ok (.putfield 269, 3) := by decide +kernel
theorem dX12_init_704 : decode prog_14_method_1_code 704 = .ok (.aload_n 0, 1) := by decide +kernel
theorem dX12_init_705 : decode prog_14_method_1_code 705 = .ok (.sipush 4096, 3) := by decide +kernel
theorem dX12_init_708 : decode prog_14_method_1_code 708 = .ok (.newarray .int, 2) := by decide +kernel
theorem dX12_init_710 : decode prog_14_method_1_code 710 = .ok (.putfield 272, 3) := by decide +kernel
theorem dX12_init_713 : decode prog_14_method_1_code 713 = .ok (.iconst 0, 1) := by decide +kernel
theorem dX12_init_714 : decode prog_14_method_1_code 714 = .ok (.istore_n 1, 1) := by decide +kernel
theorem dX12_init_715 : decode prog_14_method_1_code 715 = .ok (.iload_n 1, 1) := by decide +kernel
theorem dX12_init_716 : decode prog_14_method_1_code 716 = .ok (.bipush 60, 2) := by decide +kernel
theorem dX12_init_718 : decode prog_14_method_1_code 718 = .ok (.if_icmp .ge 30, 3) := by decide +kernel
theorem dX12_init_721 : decode prog_14_method_1_code 721 = .ok (.aload_n 0, 1) := by decide +kernel
theorem dX12_init_722 : decode prog_14_method_1_code 722 = .ok (.getfield 42, 3) := by decide +kernel
theorem dX12_init_725 : decode prog_14_method_1_code 725 = .ok (.iload_n 1, 1) := by decide +kernel
theorem dX12_init_726 : decode prog_14_method_1_code 726 = .ok (.iconst (-1), 1) := by decide +kernel
theorem dX12_init_727 : decode prog_14_method_1_code 727 = .ok (.iastore, 1) := by decide +kernel
theorem dX12_init_728 : decode prog_14_method_1_code 728 = .ok (.aload_n 0, 1) := by decide +kernel
theorem dX12_init_729 : decode prog_14_method_1_code 729 = .ok (.getfield 185, 3) := by decide +kernel
theorem dX12_init_732 : decode prog_14_method_1_code 732 = .ok (.iload_n 1, 1) := by decide +kernel
theorem dX12_init_733 : decode prog_14_method_1_code 733 = .ok (.iconst (-1), 1) := by decide +kernel
theorem dX12_init_734 : decode prog_14_method_1_code 734 = .ok (.iastore, 1) := by decide +kernel
theorem dX12_init_735 : decode prog_14_method_1_code 735 = .ok (.aload_n 0, 1) := by decide +kernel
theorem dX12_init_736 : decode prog_14_method_1_code 736 = .ok (.getfield 242, 3) := by decide +kernel
theorem dX12_init_739 : decode prog_14_method_1_code 739 = .ok (.iload_n 1, 1) := by decide +kernel
theorem dX12_init_740 : decode prog_14_method_1_code 740 = .ok (.iconst (-1), 1) := by decide +kernel
theorem dX12_init_741 : decode prog_14_method_1_code 741 = .ok (.iastore, 1) := by decide +kernel
theorem dX12_init_742 : decode prog_14_method_1_code 742 = .ok (.iinc 1 1, 3) := by decide +kernel
theorem dX12_init_745 : decode prog_14_method_1_code 745 = .ok (.goto (-30), 3) := by decide +kernel
theorem dX12_init_748 : decode prog_14_method_1_code 748 = .ok (.iconst 0, 1) := by decide +kernel
theorem dX12_init_749 : decode prog_14_method_1_code 749 = .ok (.istore_n 1, 1) := by decide +kernel
theorem dX12_init_750 : decode prog_14_method_1_code 750 = .ok (.iload_n 1, 1) := by decide +kernel
theorem dX12_init_751 : decode prog_14_method_1_code 751 = .ok (.bipush 11, 2) := by decide +kernel
theorem dX12_init_753 : decode prog_14_method_1_code 753 = .ok (.if_icmp .ge 22, 3) := by decide +kernel
theorem dX12_init_756 : decode prog_14_method_1_code 756 = .ok (.aload_n 0, 1) := by decide +kernel
theorem dX12_init_757 : decode prog_14_method_1_code 757 = .ok (.getfield 79, 3) := by decide +kernel
theorem dX12_init_760 : decode prog_14_method_1_code 760 = .ok (.bipush 99, 2) := by decide +kernel
theorem dX12_init_762 : decode prog_14_method_1_code 762 = .ok (.iload_n 1, 1) := by decide +kernel
theorem dX12_init_763 : decode prog_14_method_1_code 763 = .ok (.iadd, 1) := by decide +kernel
theorem dX12_init_764 : decode prog_14_method_1_code 764 = .ok (.iload_n 1, 1) := by decide +kernel
theorem dX12_init_765 : decode prog_14_method_1_code 765 = .ok (.invokestatic 275, 3) := by decide +kernel
theorem dX12_init_768 : decode prog_14_method_1_code 768 = .ok (.iastore, 1) := by decide +kernel
theorem dX12_init_769 : decode prog_14_method_1_code 769 = .ok (.iinc 1 1, 3) := by decide +kernel
theorem dX12_init_772 : decode prog_14_method_1_code 772 = .ok (.goto (-22), 3) := by decide +kernel
theorem dX12_init_775 : decode prog_14_method_1_code 775 = .ok (.return_, 1) := by decide +kernel
abbrev b_L12a : List Nat := [0, 1, 72, 2, 76, 77, 78, 79, 80, 81, 82, 83, 84, 3, 85, 86, 87, 88, 89, 90, 91, 92, 93, 94, 95, 96, 97, 98, 99, 100, 101, 102, 103, 4, 107, 108, 109, 104, 105, 106, 12, 22, 32, 52, 62, 13, 23, 33, 53, 63, 14, 24, 34, 54, 64, 15, 25, 35, 55, 65, 16, 26, 36, 56, 66, 17, 27, 37, 57, 67, 18, 28, 38, 58, 68, 19, 29, 39, 59, 69, 20, 30, 40, 60, 70, 21, 31, 41, 61, 71, 5, 110, 111, 112, 113, 114, 115, 116, 117, 118, 119, 120, 121, 122, 123, 124, 125, 6, 126, 127, 128, 129, 7, 130, 131, 132, 133, 134, 135, 136, 137, 138, 139, 140, 141, 8, 142, 143, 144, 145, 146, 9, 147, 148, 149, 150, 151, 152, 153, 154, 10, 155, 156, 157, 158, 159, 160, 161, 11]
abbrev b_L12 : List Nat := [0, 1, 72, 2, 76, 77, 78, 79, 80, 81, 82, 83, 84, 3, 85, 86, 87, 88, 89, 90, 91, 92, 93, 94, 95, 96, 97, 98, 99, 100, 101, 102, 103, 4, 107, 108, 109, 104, 105, 106, 12, 22, 32, 52, 62, 13, 23, 33, 53, 63, 14, 24, 34, 54, 64, 15, 25, 35, 55, 65, 16, 26, 36, 56, 66, 17, 27, 37, 57, 67, 18, 28, 38, 58, 68, 19, 29, 39, 59, 69, 20, 30, 40, 60, 70, 21, 31, 41, 61, 71, 5, 110, 111, 112, 113, 114, 115, 116, 117, 118, 119, 120, 121, 122, 123, 124, 125, 6, 126, 127, 128, 129, 7, 130, 131, 132, 133, 134, 135, 136, 137, 138, 139, 140, 141, 8, 142, 143, 144, 145, 146, 9, 147, 148, 149, 150, 151, 152, 153, 154, 10, 155, 156, 157, 158, 159, 160, 161, 11, 162, 163, 164, 165, 166, 167, 168, 169, 170, 171, 172, 173, 174, 175, 176, 177, 178, 179, 180, 181, 182, 183, 184, 185, 186, 187, 188, 189, 190, 191, 192, 193, 194, 195, 196, 197, 198, 199, 200, 201, 202, 203, 204, 205, 206, 207, 208, 209, 210, 211, 212, 213, 214, 215, 216, 217, 218, 219, 220, 221, 222, 223, 224, 225, 226, 227, 228, 229, 230, 231, 232, 233, 234, 235, 236, 237, 238, 239, 240, 241, 242, 243, 244]
def mi1 (M : bM) (k : Int) : bM := fun c i => if (c = 171 ∨ c = 217 ∨ c = 236) ∧ 0 ≤ i ∧ i < k then -1 else M c i
def mi2 (M : bM) (k : Int) : bM := fun c i => if c = 183 ∧ 99 ≤ i ∧ i < 99 + k then s_plain (i - 99) else M c i
theorem mi1_s (M : bM) (k : Int) (h : 0 ≤ k) : b_up (b_up (b_up (mi1 M k) 171 k (-1)) 217 k (-1)) 236 k (-1) = mi1 M (k + 1) := by
  funext c i
  unfold b_up mi1
  repeat' split
  all_goals first | rfl | (exfalso; omega)
theorem mi2_s (M : bM) (k : Int) (h : 0 ≤ k) : b_up (mi2 M k) 183 (99 + k) (s_plain k) = mi2 M (k + 1) := by
  funext c i
  unfold b_up mi2
  repeat' split
  all_goals first | rfl | (exfalso; omega) | (congr 1; omega)
theorem mi1_11 (M : bM) (k i : Int) : mi1 M k 11 i = M 11 i := by unfold mi1; rw [if_neg (by omega)]
theorem mi2_11 (M : bM) (k i : Int) : mi2 M k 11 i = M 11 i := by unfold mi2; rw [if_neg (by omega)]
theorem mi1_0 (M : bM) : mi1 M 0 = M := by funext c i; unfold mi1; rw [if_neg (by omega)]
theorem mi2_0 (M : bM) : mi2 M 0 = M := by funext c i; unfold mi2; rw [if_neg (by omega)]
theorem w_X12_init2 {l : Launch} {E : bE} {M : bM} {Post : Option bV → bM → Prop} {L0 : List Nat} (h1 : M 11 37 = 1) (hp : Post none (mi2 M 11)) : ∀ (n : Nat) (k : Int), 0 ≤ k → k ≤ 11 → 11 - k < n → VL l E xX12_init b_L12 (83, 79481) 750 [(0, bR 11), (1, bI k)] [] (mi2 M k) (b_std E xX12_init L0 b_L12 Post) := by
  intro n
  induction n with
  | zero => intro k h0 h1 h2; omega
  | succ n ih =>
    intro k h0 h11 h2
    refine v_iload_n (f := 1) 1 rfl dX12_init_750 ?_
    refine v_bipush ⟨by decide, by decide⟩ (by decide) dX12_init_751 ?_
    refine v_icmp_ge (tgt := 775) dX12_init_753 (by decide) (fun h753 => ?_) (fun h753 => ?_)
    · refine v_return rfl dX12_init_775 ⟨by decide, by decide⟩ ?_
      have hk : k = 11 := by omega
      subst hk
      exact hp
    · refine v_aload_n (f := 0) 0 rfl dX12_init_756 ?_
      refine g_getR (Or.inr (by simp (disch := decide) only [b_upc, b_upi, b_ups, mi1_11, mi2_11]; omega))  (kf := 37) (kz := 37) rfl (by decide +kernel) kd_11 rfl ⟨by decide, by decide⟩ rfl wf_12_79 dX12_init_757 ?_
      refine v_bipush ⟨by decide, by decide⟩ (by decide) dX12_init_760 ?_
      refine v_iload_n (f := 1) 1 rfl dX12_init_762 ?_
      refine v_iaddN (by unfold b_r32; first | omega | (simp (disch := decide) only [b_upc, b_upi, b_ups]; omega)) dX12_init_763 ?_
      refine v_iload_n (f := 1) 1 rfl dX12_init_764 ?_
      refine v_callS (nA := 1) (ix := 275) (c_X12_plain) rfl wc_X12_plain wm_12_275 wi_X12_plain wn_12 ⟨by decide, by decide, by decide⟩ rfl ⟨by decide, by decide⟩ ⟨by decide, by decide⟩ (Nat.le_of_ble_eq_true rfl) dX12_init_765 (fun r765 M765 hp765 => ?_)
      obtain ⟨rfl, rfl⟩ := hp765
      dsimp only [Option.toList, List.cons_append, List.nil_append]
      refine g_iastore (by decide +kernel) kd_183 (by first | omega | (simp (disch := decide) only [b_upc, b_upi, b_ups]; omega)) (by decide) dX12_init_768 ?_
      refine v_iincN (ls' := [(1, bI _), (0, bR _)]) 1 rfl (by decide) (by unfold b_r32; first | omega | (simp (disch := decide) only [b_upc, b_upi, b_ups]; omega)) dX12_init_769 rfl ?_
      refine v_goto (tgt := 750) dX12_init_772 (by decide) ?_
      refine v_sub (ls2 := [(0, bR _), (1, bI _)]) [1, 0] rfl ?_
      rw [mi2_s M k h0]
      exact ih _ (by omega) (by omega) (by omega)
theorem w_X12_init1 {l : Launch} {E : bE} {M : bM} {G : bG} {kn : Nat × Nat} (h1 : M 11 23 = 1) (h3 : M 11 78 = 1) (h4 : M 11 113 = 1) (hk : VL l E xX12_init b_L12 kn 748 [(0, bR 11), (1, bI 60)] [] (mi1 M 60) G) : ∀ (n : Nat) (k : Int), 0 ≤ k → k ≤ 60 → 60 - k < n → VL l E xX12_init b_L12 kn 715 [(0, bR 11), (1, bI k)] [] (mi1 M k) G := by
  intro n
  induction n with
  | zero => intro k h0 h1 h2; omega
  | succ n ih =>
    intro k h0 h60 h2
    refine v_iload_n (f := 1) 1 rfl dX12_init_715 ?_
    refine v_bipush ⟨by decide, by decide⟩ (by decide) dX12_init_716 ?_
    refine v_icmp_ge (tgt := 748) dX12_init_718 (by decide) (fun h718 => ?_) (fun h718 => ?_)
    · refine v_sub (ls2 := [(0, bR _), (1, bI _)]) [0, 1] rfl ?_
      have hk2 : k = 60 := by omega
      subst hk2
      exact hk
    · refine v_aload_n (f := 0) 0 rfl dX12_init_721 ?_
      refine g_getR (Or.inr (by simp (disch := decide) only [b_upc, b_upi, b_ups, mi1_11, mi2_11]; omega))  (kf := 23) (kz := 23) rfl (by decide +kernel) kd_11 rfl ⟨by decide, by decide⟩ rfl wf_12_42 dX12_init_722 ?_
      refine v_iload_n (f := 1) 1 rfl dX12_init_725 ?_
      refine v_iconst ⟨by decide, by decide⟩ dX12_init_726 ?_
      refine g_iastore (by decide +kernel) kd_171 (by first | omega | (simp (disch := decide) only [b_upc, b_upi, b_ups]; omega)) (by decide) dX12_init_727 ?_
      refine v_aload_n (f := 0) 0 rfl dX12_init_728 ?_
      refine g_getR (Or.inr (by simp (disch := decide) only [b_upc, b_upi, b_ups, mi1_11, mi2_11]; omega))  (kf := 78) (kz := 78) rfl (by decide +kernel) kd_11 rfl ⟨by decide, by decide⟩ rfl wf_12_185 dX12_init_729 ?_
      refine v_iload_n (f := 1) 1 rfl dX12_init_732 ?_
      refine v_iconst ⟨by decide, by decide⟩ dX12_init_733 ?_
      refine g_iastore (by decide +kernel) kd_217 (by first | omega | (simp (disch := decide) only [b_upc, b_upi, b_ups]; omega)) (by decide) dX12_init_734 ?_
      refine v_aload_n (f := 0) 0 rfl dX12_init_735 ?_
      refine g_getR (Or.inr (by simp (disch := decide) only [b_upc, b_upi, b_ups, mi1_11, mi2_11]; omega))  (kf := 113) (kz := 113) rfl (by decide +kernel) kd_11 rfl ⟨by decide, by decide⟩ rfl wf_12_242 dX12_init_736 ?_
      refine v_iload_n (f := 1) 1 rfl dX12_init_739 ?_
      refine v_iconst ⟨by decide, by decide⟩ dX12_init_740 ?_
      refine g_iastore (by decide +kernel) kd_236 (by first | omega | (simp (disch := decide) only [b_upc, b_upi, b_ups]; omega)) (by decide) dX12_init_741 ?_
      refine v_iincN (ls' := [(1, bI _), (0, bR _)]) 1 rfl (by decide) (by unfold b_r32; first | omega | (simp (disch := decide) only [b_upc, b_upi, b_ups]; omega)) dX12_init_742 rfl ?_
      refine v_goto (tgt := 715) dX12_init_745 (by decide) ?_
      refine v_sub (ls2 := [(0, bR _), (1, bI _)]) [1, 0] rfl ?_
      rw [mi1_s M k h0]
      exact ih _ (by omega) (by omega) (by omega)
set_option maxRecDepth 100000 in
theorem c_X12_init {l : Launch} {E : bE} {M : bM} (h0 : ∀ c ∈ ([162, 163, 164, 165, 166, 167, 168, 169, 170, 171, 172, 173, 174, 175, 176, 177, 178, 179, 180, 181, 182, 183, 184, 185, 186, 187, 188, 189, 190, 191, 192, 193, 194, 195, 196, 197, 198, 199, 200, 201, 202, 203, 204, 205, 206, 207, 208, 209, 210, 211, 212, 213, 214, 215, 216, 217, 218, 219, 220, 221, 222, 223, 224, 225, 226, 227, 228, 229, 230, 231, 232, 233, 234, 235, 236, 237, 238, 239, 240, 241, 242, 243, 244] : List Nat), ∀ i, M c i = 0) : b_CL l E xX12_init yX12_init b_L12a b_L12 [bR 11] M (fun r M' => r = none ∧ M' = mi2 (mi1 (b_upl M [(11, 0, 1), (11, 9, -1), (11, 14, 1), (11, 15, 1), (11, 16, 1), (11, 17, 1), (11, 18, 1), (11, 19, 1), (11, 21, 1), (11, 22, 1), (11, 23, 1), (11, 24, 1), (11, 25, 1), (11, 26, 1), (11, 27, 1), (11, 28, 1), (11, 29, 1), (11, 30, 1), (11, 31, 1), (11, 33, 1), (11, 34, 1), (11, 36, 1), (11, 37, 1), (11, 38, 1), (11, 39, 1), (11, 40, 1), (11, 41, 1), (11, 42, 1), (11, 43, 1), (11, 44, 1), (11, 45, 1), (11, 46, 1), (11, 47, 1), (11, 54, 20), (11, 55, 1), (11, 56, 1), (11, 57, 1), (11, 58, 1), (11, 59, 1), (11, 60, 1), (11, 61, 1), (11, 62, 1), (11, 63, 1), (11, 64, 1), (11, 65, 1), (11, 66, 1), (11, 67, 1), (11, 68, 1), (11, 69, 1), (11, 70, 1), (11, 71, 1), (11, 72, 1), (11, 73, 1), (11, 74, 1), (11, 75, 1), (11, 76, 1), (11, 77, 1), (11, 78, 1), (11, 79, 1), (11, 88, 1), (11, 89, 1), (11, 90, 1), (11, 91, 1), (11, 92, 1), (11, 98, 1), (11, 100, 1), (11, 101, 1), (11, 102, 1), (11, 103, 1), (11, 104, 1), (11, 105, 1), (11, 108, 1), (11, 109, 1), (11, 110, 1), (11, 111, 1), (11, 112, 1), (11, 113, 1), (11, 114, 1), (11, 115, 1), (11, 116, 1), (11, 117, 1), (11, 119, 1), (11, 120, 1), (11, 121, 1), (11, 122, -1), (11, 123, -1), (11, 124, 1)]) 60) 11) := by
  refine b_met (by decide) ⟨rfl, rfl⟩ (Nat.le_of_ble_eq_true rfl) (fun hA hRg => ?_)
  refine v_sub (ls2 := [(0, bR _)]) [0] rfl ?_
  refine v_aload_n (f := 0) 0 rfl dX12_init_0 ?_
  refine g_objInit wm_12_1 wob_i wob_c (Nat.le_of_ble_eq_true rfl) ⟨by decide, by decide⟩ dX12_init_1 ?_
  refine v_aload_n (f := 0) 0 rfl dX12_init_4 ?_
  refine v_sipush ⟨by decide, by decide⟩ (by decide) dX12_init_5 ?_
  refine g_newa_byte kd_162 (by decide) (show (162 : Nat) ∉ ([0, 1, 72, 2, 76, 77, 78, 79, 80, 81, 82, 83, 84, 3, 85, 86, 87, 88, 89, 90, 91, 92, 93, 94, 95, 96, 97, 98, 99, 100, 101, 102, 103, 4, 107, 108, 109, 104, 105, 106, 12, 22, 32, 52, 62, 13, 23, 33, 53, 63, 14, 24, 34, 54, 64, 15, 25, 35, 55, 65, 16, 26, 36, 56, 66, 17, 27, 37, 57, 67, 18, 28, 38, 58, 68, 19, 29, 39, 59, 69, 20, 30, 40, 60, 70, 21, 31, 41, 61, 71, 5, 110, 111, 112, 113, 114, 115, 116, 117, 118, 119, 120, 121, 122, 123, 124, 125, 6, 126, 127, 128, 129, 7, 130, 131, 132, 133, 134, 135, 136, 137, 138, 139, 140, 141, 8, 142, 143, 144, 145, 146, 9, 147, 148, 149, 150, 151, 152, 153, 154, 10, 155, 156, 157, 158, 159, 160, 161, 11] : List Nat) from by decide) (by intro i; (try simp (disch := decide) only [b_upc]); exact h0 _ (by decide) i) (by decide +kernel) (by simp [b_nr]) (by simp [b_nr]) rfl (by decide) wa_byte ⟨by decide, by decide⟩ dX12_init_8 ?_
  refine g_putR (kf := 0) (kz := 0) rfl (by decide +kernel) kd_11 rfl ⟨by decide, by decide⟩ rfl (by decide) rfl rfl wf_12_9 rfl (ty := tyX12 0) rfl (fun _ => ⟨rfl, rfl⟩) dX12_init_10 ?_
  refine v_aload_n (f := 0) 0 rfl dX12_init_13 ?_
  refine v_iconst ⟨by decide, by decide⟩ dX12_init_14 ?_
  refine g_putI (kf := 9) (kz := 9) rfl (by decide +kernel) kd_11 rfl ⟨by decide, by decide⟩ rfl wf_12_13 rfl rfl dX12_init_15 ?_
  refine v_aload_n (f := 0) 0 rfl dX12_init_18 ?_
  refine v_bipush ⟨by decide, by decide⟩ (by decide) dX12_init_19 ?_
  refine g_newa_int kd_163 (by decide) (show (163 : Nat) ∉ ([0, 1, 72, 2, 76, 77, 78, 79, 80, 81, 82, 83, 84, 3, 85, 86, 87, 88, 89, 90, 91, 92, 93, 94, 95, 96, 97, 98, 99, 100, 101, 102, 103, 4, 107, 108, 109, 104, 105, 106, 12, 22, 32, 52, 62, 13, 23, 33, 53, 63, 14, 24, 34, 54, 64, 15, 25, 35, 55, 65, 16, 26, 36, 56, 66, 17, 27, 37, 57, 67, 18, 28, 38, 58, 68, 19, 29, 39, 59, 69, 20, 30, 40, 60, 70, 21, 31, 41, 61, 71, 5, 110, 111, 112, 113, 114, 115, 116, 117, 118, 119, 120, 121, 122, 123, 124, 125, 6, 126, 127, 128, 129, 7, 130, 131, 132, 133, 134, 135, 136, 137, 138, 139, 140, 141, 8, 142, 143, 144, 145, 146, 9, 147, 148, 149, 150, 151, 152, 153, 154, 10, 155, 156, 157, 158, 159, 160, 161, 11] : List Nat) from by decide) (by intro i; (try simp (disch := decide) only [b_upc]); exact h0 _ (by decide) i) (by decide +kernel) (by simp [b_nr]) (by simp [b_nr]) rfl (by decide) wa_int ⟨by decide, by decide⟩ dX12_init_21 ?_
  refine g_putR (kf := 14) (kz := 14) rfl (by decide +kernel) kd_11 rfl ⟨by decide, by decide⟩ rfl (by decide) rfl rfl wf_12_17 rfl (ty := tyX12 14) rfl (fun _ => ⟨rfl, rfl⟩) dX12_init_23 ?_
  refine v_aload_n (f := 0) 0 rfl dX12_init_26 ?_
  refine v_sipush ⟨by decide, by decide⟩ (by decide) dX12_init_27 ?_
  refine g_newa_int kd_164 (by decide) (show (164 : Nat) ∉ ([0, 1, 72, 2, 76, 77, 78, 79, 80, 81, 82, 83, 84, 3, 85, 86, 87, 88, 89, 90, 91, 92, 93, 94, 95, 96, 97, 98, 99, 100, 101, 102, 103, 4, 107, 108, 109, 104, 105, 106, 12, 22, 32, 52, 62, 13, 23, 33, 53, 63, 14, 24, 34, 54, 64, 15, 25, 35, 55, 65, 16, 26, 36, 56, 66, 17, 27, 37, 57, 67, 18, 28, 38, 58, 68, 19, 29, 39, 59, 69, 20, 30, 40, 60, 70, 21, 31, 41, 61, 71, 5, 110, 111, 112, 113, 114, 115, 116, 117, 118, 119, 120, 121, 122, 123, 124, 125, 6, 126, 127, 128, 129, 7, 130, 131, 132, 133, 134, 135, 136, 137, 138, 139, 140, 141, 8, 142, 143, 144, 145, 146, 9, 147, 148, 149, 150, 151, 152, 153, 154, 10, 155, 156, 157, 158, 159, 160, 161, 11] : List Nat) from by decide) (by intro i; (try simp (disch := decide) only [b_upc]); exact h0 _ (by decide) i) (by decide +kernel) (by simp [b_nr]) (by simp [b_nr]) rfl (by decide) wa_int ⟨by decide, by decide⟩ dX12_init_30 ?_
  refine g_putR (kf := 15) (kz := 15) rfl (by decide +kernel) kd_11 rfl ⟨by decide, by decide⟩ rfl (by decide) rfl rfl wf_12_21 rfl (ty := tyX12 15) rfl (fun _ => ⟨rfl, rfl⟩) dX12_init_32 ?_
  refine v_aload_n (f := 0) 0 rfl dX12_init_35 ?_
  refine v_sipush ⟨by decide, by decide⟩ (by decide) dX12_init_36 ?_
  refine g_newa_int kd_165 (by decide) (show (165 : Nat) ∉ ([0, 1, 72, 2, 76, 77, 78, 79, 80, 81, 82, 83, 84, 3, 85, 86, 87, 88, 89, 90, 91, 92, 93, 94, 95, 96, 97, 98, 99, 100, 101, 102, 103, 4, 107, 108, 109, 104, 105, 106, 12, 22, 32, 52, 62, 13, 23, 33, 53, 63, 14, 24, 34, 54, 64, 15, 25, 35, 55, 65, 16, 26, 36, 56, 66, 17, 27, 37, 57, 67, 18, 28, 38, 58, 68, 19, 29, 39, 59, 69, 20, 30, 40, 60, 70, 21, 31, 41, 61, 71, 5, 110, 111, 112, 113, 114, 115, 116, 117, 118, 119, 120, 121, 122, 123, 124, 125, 6, 126, 127, 128, 129, 7, 130, 131, 132, 133, 134, 135, 136, 137, 138, 139, 140, 141, 8, 142, 143, 144, 145, 146, 9, 147, 148, 149, 150, 151, 152, 153, 154, 10, 155, 156, 157, 158, 159, 160, 161, 11] : List Nat) from by decide) (by intro i; (try simp (disch := decide) only [b_upc]); exact h0 _ (by decide) i) (by decide +kernel) (by simp [b_nr]) (by simp [b_nr]) rfl (by decide) wa_int ⟨by decide, by decide⟩ dX12_init_39 ?_
  refine g_putR (kf := 16) (kz := 16) rfl (by decide +kernel) kd_11 rfl ⟨by decide, by decide⟩ rfl (by decide) rfl rfl wf_12_24 rfl (ty := tyX12 16) rfl (fun _ => ⟨rfl, rfl⟩) dX12_init_41 ?_
  refine v_aload_n (f := 0) 0 rfl dX12_init_44 ?_
  refine v_sipush ⟨by decide, by decide⟩ (by decide) dX12_init_45 ?_
  refine g_newa_int kd_166 (by decide) (show (166 : Nat) ∉ ([0, 1, 72, 2, 76, 77, 78, 79, 80, 81, 82, 83, 84, 3, 85, 86, 87, 88, 89, 90, 91, 92, 93, 94, 95, 96, 97, 98, 99, 100, 101, 102, 103, 4, 107, 108, 109, 104, 105, 106, 12, 22, 32, 52, 62, 13, 23, 33, 53, 63, 14, 24, 34, 54, 64, 15, 25, 35, 55, 65, 16, 26, 36, 56, 66, 17, 27, 37, 57, 67, 18, 28, 38, 58, 68, 19, 29, 39, 59, 69, 20, 30, 40, 60, 70, 21, 31, 41, 61, 71, 5, 110, 111, 112, 113, 114, 115, 116, 117, 118, 119, 120, 121, 122, 123, 124, 125, 6, 126, 127, 128, 129, 7, 130, 131, 132, 133, 134, 135, 136, 137, 138, 139, 140, 141, 8, 142, 143, 144, 145, 146, 9, 147, 148, 149, 150, 151, 152, 153, 154, 10, 155, 156, 157, 158, 159, 160, 161, 11] : List Nat) from by decide) (by intro i; (try simp (disch := decide) only [b_upc]); exact h0 _ (by decide) i) (by decide +kernel) (by simp [b_nr]) (by simp [b_nr]) rfl (by decide) wa_int ⟨by decide, by decide⟩ dX12_init_48 ?_
  refine g_putR (kf := 17) (kz := 17) rfl (by decide +kernel) kd_11 rfl ⟨by decide, by decide⟩ rfl (by decide) rfl rfl wf_12_27 rfl (ty := tyX12 17) rfl (fun _ => ⟨rfl, rfl⟩) dX12_init_50 ?_
  refine v_aload_n (f := 0) 0 rfl dX12_init_53 ?_
  refine v_sipush ⟨by decide, by decide⟩ (by decide) dX12_init_54 ?_
  refine g_newa_int kd_167 (by decide) (show (167 : Nat) ∉ ([0, 1, 72, 2, 76, 77, 78, 79, 80, 81, 82, 83, 84, 3, 85, 86, 87, 88, 89, 90, 91, 92, 93, 94, 95, 96, 97, 98, 99, 100, 101, 102, 103, 4, 107, 108, 109, 104, 105, 106, 12, 22, 32, 52, 62, 13, 23, 33, 53, 63, 14, 24, 34, 54, 64, 15, 25, 35, 55, 65, 16, 26, 36, 56, 66, 17, 27, 37, 57, 67, 18, 28, 38, 58, 68, 19, 29, 39, 59, 69, 20, 30, 40, 60, 70, 21, 31, 41, 61, 71, 5, 110, 111, 112, 113, 114, 115, 116, 117, 118, 119, 120, 121, 122, 123, 124, 125, 6, 126, 127, 128, 129, 7, 130, 131, 132, 133, 134, 135, 136, 137, 138, 139, 140, 141, 8, 142, 143, 144, 145, 146, 9, 147, 148, 149, 150, 151, 152, 153, 154, 10, 155, 156, 157, 158, 159, 160, 161, 11] : List Nat) from by decide) (by intro i; (try simp (disch := decide) only [b_upc]); exact h0 _ (by decide) i) (by decide +kernel) (by simp [b_nr]) (by simp [b_nr]) rfl (by decide) wa_int ⟨by decide, by decide⟩ dX12_init_57 ?_
  refine g_putR (kf := 18) (kz := 18) rfl (by decide +kernel) kd_11 rfl ⟨by decide, by decide⟩ rfl (by decide) rfl rfl wf_12_30 rfl (ty := tyX12 18) rfl (fun _ => ⟨rfl, rfl⟩) dX12_init_59 ?_
  refine v_aload_n (f := 0) 0 rfl dX12_init_62 ?_
  refine v_bipush ⟨by decide, by decide⟩ (by decide) dX12_init_63 ?_
  refine g_newa_int kd_168 (by decide) (show (168 : Nat) ∉ ([0, 1, 72, 2, 76, 77, 78, 79, 80, 81, 82, 83, 84, 3, 85, 86, 87, 88, 89, 90, 91, 92, 93, 94, 95, 96, 97, 98, 99, 100, 101, 102, 103, 4, 107, 108, 109, 104, 105, 106, 12, 22, 32, 52, 62, 13, 23, 33, 53, 63, 14, 24, 34, 54, 64, 15, 25, 35, 55, 65, 16, 26, 36, 56, 66, 17, 27, 37, 57, 67, 18, 28, 38, 58, 68, 19, 29, 39, 59, 69, 20, 30, 40, 60, 70, 21, 31, 41, 61, 71, 5, 110, 111, 112, 113, 114, 115, 116, 117, 118, 119, 120, 121, 122, 123, 124, 125, 6, 126, 127, 128, 129, 7, 130, 131, 132, 133, 134, 135, 136, 137, 138, 139, 140, 141, 8, 142, 143, 144, 145, 146, 9, 147, 148, 149, 150, 151, 152, 153, 154, 10, 155, 156, 157, 158, 159, 160, 161, 11] : List Nat) from by decide) (by intro i; (try simp (disch := decide) only [b_upc]); exact h0 _ (by decide) i) (by decide +kernel) (by simp [b_nr]) (by simp [b_nr]) rfl (by decide) wa_int ⟨by decide, by decide⟩ dX12_init_65 ?_
  refine g_putR (kf := 19) (kz := 19) rfl (by decide +kernel) kd_11 rfl ⟨by decide, by decide⟩ rfl (by decide) rfl rfl wf_12_33 rfl (ty := tyX12 19) rfl (fun _ => ⟨rfl, rfl⟩) dX12_init_67 ?_
  refine v_aload_n (f := 0) 0 rfl dX12_init_70 ?_
  refine v_bipush ⟨by decide, by decide⟩ (by decide) dX12_init_71 ?_
  refine g_newa_int kd_169 (by decide) (show (169 : Nat) ∉ ([0, 1, 72, 2, 76, 77, 78, 79, 80, 81, 82, 83, 84, 3, 85, 86, 87, 88, 89, 90, 91, 92, 93, 94, 95, 96, 97, 98, 99, 100, 101, 102, 103, 4, 107, 108, 109, 104, 105, 106, 12, 22, 32, 52, 62, 13, 23, 33, 53, 63, 14, 24, 34, 54, 64, 15, 25, 35, 55, 65, 16, 26, 36, 56, 66, 17, 27, 37, 57, 67, 18, 28, 38, 58, 68, 19, 29, 39, 59, 69, 20, 30, 40, 60, 70, 21, 31, 41, 61, 71, 5, 110, 111, 112, 113, 114, 115, 116, 117, 118, 119, 120, 121, 122, 123, 124, 125, 6, 126, 127, 128, 129, 7, 130, 131, 132, 133, 134, 135, 136, 137, 138, 139, 140, 141, 8, 142, 143, 144, 145, 146, 9, 147, 148, 149, 150, 151, 152, 153, 154, 10, 155, 156, 157, 158, 159, 160, 161, 11] : List Nat) from by decide) (by intro i; (try simp (disch := decide) only [b_upc]); exact h0 _ (by decide) i) (by decide +kernel) (by simp [b_nr]) (by simp [b_nr]) rfl (by decide) wa_int ⟨by decide, by decide⟩ dX12_init_73 ?_
  refine g_putR (kf := 21) (kz := 21) rfl (by decide +kernel) kd_11 rfl ⟨by decide, by decide⟩ rfl (by decide) rfl rfl wf_12_36 rfl (ty := tyX12 21) rfl (fun _ => ⟨rfl, rfl⟩) dX12_init_75 ?_
  refine v_aload_n (f := 0) 0 rfl dX12_init_78 ?_
  refine v_bipush ⟨by decide, by decide⟩ (by decide) dX12_init_79 ?_
  refine g_newa_int kd_170 (by decide) (show (170 : Nat) ∉ ([0, 1, 72, 2, 76, 77, 78, 79, 80, 81, 82, 83, 84, 3, 85, 86, 87, 88, 89, 90, 91, 92, 93, 94, 95, 96, 97, 98, 99, 100, 101, 102, 103, 4, 107, 108, 109, 104, 105, 106, 12, 22, 32, 52, 62, 13, 23, 33, 53, 63, 14, 24, 34, 54, 64, 15, 25, 35, 55, 65, 16, 26, 36, 56, 66, 17, 27, 37, 57, 67, 18, 28, 38, 58, 68, 19, 29, 39, 59, 69, 20, 30, 40, 60, 70, 21, 31, 41, 61, 71, 5, 110, 111, 112, 113, 114, 115, 116, 117, 118, 119, 120, 121, 122, 123, 124, 125, 6, 126, 127, 128, 129, 7, 130, 131, 132, 133, 134, 135, 136, 137, 138, 139, 140, 141, 8, 142, 143, 144, 145, 146, 9, 147, 148, 149, 150, 151, 152, 153, 154, 10, 155, 156, 157, 158, 159, 160, 161, 11] : List Nat) from by decide) (by intro i; (try simp (disch := decide) only [b_upc]); exact h0 _ (by decide) i) (by decide +kernel) (by simp [b_nr]) (by simp [b_nr]) rfl (by decide) wa_int ⟨by decide, by decide⟩ dX12_init_81 ?_
  refine g_putR (kf := 22) (kz := 22) rfl (by decide +kernel) kd_11 rfl ⟨by decide, by decide⟩ rfl (by decide) rfl rfl wf_12_39 rfl (ty := tyX12 22) rfl (fun _ => ⟨rfl, rfl⟩) dX12_init_83 ?_
  refine v_aload_n (f := 0) 0 rfl dX12_init_86 ?_
  refine v_bipush ⟨by decide, by decide⟩ (by decide) dX12_init_87 ?_
  refine g_newa_int kd_171 (by decide) (show (171 : Nat) ∉ ([0, 1, 72, 2, 76, 77, 78, 79, 80, 81, 82, 83, 84, 3, 85, 86, 87, 88, 89, 90, 91, 92, 93, 94, 95, 96, 97, 98, 99, 100, 101, 102, 103, 4, 107, 108, 109, 104, 105, 106, 12, 22, 32, 52, 62, 13, 23, 33, 53, 63, 14, 24, 34, 54, 64, 15, 25, 35, 55, 65, 16, 26, 36, 56, 66, 17, 27, 37, 57, 67, 18, 28, 38, 58, 68, 19, 29, 39, 59, 69, 20, 30, 40, 60, 70, 21, 31, 41, 61, 71, 5, 110, 111, 112, 113, 114, 115, 116, 117, 118, 119, 120, 121, 122, 123, 124, 125, 6, 126, 127, 128, 129, 7, 130, 131, 132, 133, 134, 135, 136, 137, 138, 139, 140, 141, 8, 142, 143, 144, 145, 146, 9, 147, 148, 149, 150, 151, 152, 153, 154, 10, 155, 156, 157, 158, 159, 160, 161, 11] : List Nat) from by decide) (by intro i; (try simp (disch := decide) only [b_upc]); exact h0 _ (by decide) i) (by decide +kernel) (by simp [b_nr]) (by simp [b_nr]) rfl (by decide) wa_int ⟨by decide, by decide⟩ dX12_init_89 ?_
  refine g_putR (kf := 23) (kz := 23) rfl (by decide +kernel) kd_11 rfl ⟨by decide, by decide⟩ rfl (by decide) rfl rfl wf_12_42 rfl (ty := tyX12 23) rfl (fun _ => ⟨rfl, rfl⟩) dX12_init_91 ?_
  refine v_aload_n (f := 0) 0 rfl dX12_init_94 ?_
  refine v_bipush ⟨by decide, by decide⟩ (by decide) dX12_init_95 ?_
  refine g_newa_int kd_172 (by decide) (show (172 : Nat) ∉ ([0, 1, 72, 2, 76, 77, 78, 79, 80, 81, 82, 83, 84, 3, 85, 86, 87, 88, 89, 90, 91, 92, 93, 94, 95, 96, 97, 98, 99, 100, 101, 102, 103, 4, 107, 108, 109, 104, 105, 106, 12, 22, 32, 52, 62, 13, 23, 33, 53, 63, 14, 24, 34, 54, 64, 15, 25, 35, 55, 65, 16, 26, 36, 56, 66, 17, 27, 37, 57, 67, 18, 28, 38, 58, 68, 19, 29, 39, 59, 69, 20, 30, 40, 60, 70, 21, 31, 41, 61, 71, 5, 110, 111, 112, 113, 114, 115, 116, 117, 118, 119, 120, 121, 122, 123, 124, 125, 6, 126, 127, 128, 129, 7, 130, 131, 132, 133, 134, 135, 136, 137, 138, 139, 140, 141, 8, 142, 143, 144, 145, 146, 9, 147, 148, 149, 150, 151, 152, 153, 154, 10, 155, 156, 157, 158, 159, 160, 161, 11] : List Nat) from by decide) (by intro i; (try simp (disch := decide) only [b_upc]); exact h0 _ (by decide) i) (by decide +kernel) (by simp [b_nr]) (by simp [b_nr]) rfl (by decide) wa_int ⟨by decide, by decide⟩ dX12_init_97 ?_
  refine g_putR (kf := 24) (kz := 24) rfl (by decide +kernel) kd_11 rfl ⟨by decide, by decide⟩ rfl (by decide) rfl rfl wf_12_45 rfl (ty := tyX12 24) rfl (fun _ => ⟨rfl, rfl⟩) dX12_init_99 ?_
  refine v_aload_n (f := 0) 0 rfl dX12_init_102 ?_
  refine v_bipush ⟨by decide, by decide⟩ (by decide) dX12_init_103 ?_
  refine g_newa_int kd_173 (by decide) (show (173 : Nat) ∉ ([0, 1, 72, 2, 76, 77, 78, 79, 80, 81, 82, 83, 84, 3, 85, 86, 87, 88, 89, 90, 91, 92, 93, 94, 95, 96, 97, 98, 99, 100, 101, 102, 103, 4, 107, 108, 109, 104, 105, 106, 12, 22, 32, 52, 62, 13, 23, 33, 53, 63, 14, 24, 34, 54, 64, 15, 25, 35, 55, 65, 16, 26, 36, 56, 66, 17, 27, 37, 57, 67, 18, 28, 38, 58, 68, 19, 29, 39, 59, 69, 20, 30, 40, 60, 70, 21, 31, 41, 61, 71, 5, 110, 111, 112, 113, 114, 115, 116, 117, 118, 119, 120, 121, 122, 123, 124, 125, 6, 126, 127, 128, 129, 7, 130, 131, 132, 133, 134, 135, 136, 137, 138, 139, 140, 141, 8, 142, 143, 144, 145, 146, 9, 147, 148, 149, 150, 151, 152, 153, 154, 10, 155, 156, 157, 158, 159, 160, 161, 11] : List Nat) from by decide) (by intro i; (try simp (disch := decide) only [b_upc]); exact h0 _ (by decide) i) (by decide +kernel) (by simp [b_nr]) (by simp [b_nr]) rfl (by decide) wa_int ⟨by decide, by decide⟩ dX12_init_105 ?_
  refine g_putR (kf := 25) (kz := 25) rfl (by decide +kernel) kd_11 rfl ⟨by decide, by decide⟩ rfl (by decide) rfl rfl wf_12_48 rfl (ty := tyX12 25) rfl (fun _ => ⟨rfl, rfl⟩) dX12_init_107 ?_
  refine v_aload_n (f := 0) 0 rfl dX12_init_110 ?_
  refine v_bipush ⟨by decide, by decide⟩ (by decide) dX12_init_111 ?_
  refine g_newa_long kd_174 (by decide) (show (174 : Nat) ∉ ([0, 1, 72, 2, 76, 77, 78, 79, 80, 81, 82, 83, 84, 3, 85, 86, 87, 88, 89, 90, 91, 92, 93, 94, 95, 96, 97, 98, 99, 100, 101, 102, 103, 4, 107, 108, 109, 104, 105, 106, 12, 22, 32, 52, 62, 13, 23, 33, 53, 63, 14, 24, 34, 54, 64, 15, 25, 35, 55, 65, 16, 26, 36, 56, 66, 17, 27, 37, 57, 67, 18, 28, 38, 58, 68, 19, 29, 39, 59, 69, 20, 30, 40, 60, 70, 21, 31, 41, 61, 71, 5, 110, 111, 112, 113, 114, 115, 116, 117, 118, 119, 120, 121, 122, 123, 124, 125, 6, 126, 127, 128, 129, 7, 130, 131, 132, 133, 134, 135, 136, 137, 138, 139, 140, 141, 8, 142, 143, 144, 145, 146, 9, 147, 148, 149, 150, 151, 152, 153, 154, 10, 155, 156, 157, 158, 159, 160, 161, 11] : List Nat) from by decide) (by intro i; (try simp (disch := decide) only [b_upc]); exact h0 _ (by decide) i) (by decide +kernel) (by simp [b_nr]) (by simp [b_nr]) rfl (by decide) wa_long ⟨by decide, by decide⟩ dX12_init_113 ?_
  refine g_putR (kf := 26) (kz := 26) rfl (by decide +kernel) kd_11 rfl ⟨by decide, by decide⟩ rfl (by decide) rfl rfl wf_12_51 rfl (ty := tyX12 26) rfl (fun _ => ⟨rfl, rfl⟩) dX12_init_115 ?_
  refine v_aload_n (f := 0) 0 rfl dX12_init_118 ?_
  refine v_bipush ⟨by decide, by decide⟩ (by decide) dX12_init_119 ?_
  refine g_newa_int kd_175 (by decide) (show (175 : Nat) ∉ ([0, 1, 72, 2, 76, 77, 78, 79, 80, 81, 82, 83, 84, 3, 85, 86, 87, 88, 89, 90, 91, 92, 93, 94, 95, 96, 97, 98, 99, 100, 101, 102, 103, 4, 107, 108, 109, 104, 105, 106, 12, 22, 32, 52, 62, 13, 23, 33, 53, 63, 14, 24, 34, 54, 64, 15, 25, 35, 55, 65, 16, 26, 36, 56, 66, 17, 27, 37, 57, 67, 18, 28, 38, 58, 68, 19, 29, 39, 59, 69, 20, 30, 40, 60, 70, 21, 31, 41, 61, 71, 5, 110, 111, 112, 113, 114, 115, 116, 117, 118, 119, 120, 121, 122, 123, 124, 125, 6, 126, 127, 128, 129, 7, 130, 131, 132, 133, 134, 135, 136, 137, 138, 139, 140, 141, 8, 142, 143, 144, 145, 146, 9, 147, 148, 149, 150, 151, 152, 153, 154, 10, 155, 156, 157, 158, 159, 160, 161, 11] : List Nat) from by decide) (by intro i; (try simp (disch := decide) only [b_upc]); exact h0 _ (by decide) i) (by decide +kernel) (by simp [b_nr]) (by simp [b_nr]) rfl (by decide) wa_int ⟨by decide, by decide⟩ dX12_init_121 ?_
  refine g_putR (kf := 27) (kz := 27) rfl (by decide +kernel) kd_11 rfl ⟨by decide, by decide⟩ rfl (by decide) rfl rfl wf_12_55 rfl (ty := tyX12 27) rfl (fun _ => ⟨rfl, rfl⟩) dX12_init_123 ?_
  refine v_aload_n (f := 0) 0 rfl dX12_init_126 ?_
  refine v_bipush ⟨by decide, by decide⟩ (by decide) dX12_init_127 ?_
  refine g_newa_int kd_176 (by decide) (show (176 : Nat) ∉ ([0, 1, 72, 2, 76, 77, 78, 79, 80, 81, 82, 83, 84, 3, 85, 86, 87, 88, 89, 90, 91, 92, 93, 94, 95, 96, 97, 98, 99, 100, 101, 102, 103, 4, 107, 108, 109, 104, 105, 106, 12, 22, 32, 52, 62, 13, 23, 33, 53, 63, 14, 24, 34, 54, 64, 15, 25, 35, 55, 65, 16, 26, 36, 56, 66, 17, 27, 37, 57, 67, 18, 28, 38, 58, 68, 19, 29, 39, 59, 69, 20, 30, 40, 60, 70, 21, 31, 41, 61, 71, 5, 110, 111, 112, 113, 114, 115, 116, 117, 118, 119, 120, 121, 122, 123, 124, 125, 6, 126, 127, 128, 129, 7, 130, 131, 132, 133, 134, 135, 136, 137, 138, 139, 140, 141, 8, 142, 143, 144, 145, 146, 9, 147, 148, 149, 150, 151, 152, 153, 154, 10, 155, 156, 157, 158, 159, 160, 161, 11] : List Nat) from by decide) (by intro i; (try simp (disch := decide) only [b_upc]); exact h0 _ (by decide) i) (by decide +kernel) (by simp [b_nr]) (by simp [b_nr]) rfl (by decide) wa_int ⟨by decide, by decide⟩ dX12_init_129 ?_
  refine g_putR (kf := 28) (kz := 28) rfl (by decide +kernel) kd_11 rfl ⟨by decide, by decide⟩ rfl (by decide) rfl rfl wf_12_58 rfl (ty := tyX12 28) rfl (fun _ => ⟨rfl, rfl⟩) dX12_init_131 ?_
  refine v_aload_n (f := 0) 0 rfl dX12_init_134 ?_
  refine v_bipush ⟨by decide, by decide⟩ (by decide) dX12_init_135 ?_
  refine g_newa_int kd_177 (by decide) (show (177 : Nat) ∉ ([0, 1, 72, 2, 76, 77, 78, 79, 80, 81, 82, 83, 84, 3, 85, 86, 87, 88, 89, 90, 91, 92, 93, 94, 95, 96, 97, 98, 99, 100, 101, 102, 103, 4, 107, 108, 109, 104, 105, 106, 12, 22, 32, 52, 62, 13, 23, 33, 53, 63, 14, 24, 34, 54, 64, 15, 25, 35, 55, 65, 16, 26, 36, 56, 66, 17, 27, 37, 57, 67, 18, 28, 38, 58, 68, 19, 29, 39, 59, 69, 20, 30, 40, 60, 70, 21, 31, 41, 61, 71, 5, 110, 111, 112, 113, 114, 115, 116, 117, 118, 119, 120, 121, 122, 123, 124, 125, 6, 126, 127, 128, 129, 7, 130, 131, 132, 133, 134, 135, 136, 137, 138, 139, 140, 141, 8, 142, 143, 144, 145, 146, 9, 147, 148, 149, 150, 151, 152, 153, 154, 10, 155, 156, 157, 158, 159, 160, 161, 11] : List Nat) from by decide) (by intro i; (try simp (disch := decide) only [b_upc]); exact h0 _ (by decide) i) (by decide +kernel) (by simp [b_nr]) (by simp [b_nr]) rfl (by decide) wa_int ⟨by decide, by decide⟩ dX12_init_137 ?_
  refine g_putR (kf := 29) (kz := 29) rfl (by decide +kernel) kd_11 rfl ⟨by decide, by decide⟩ rfl (by decide) rfl rfl wf_12_61 rfl (ty := tyX12 29) rfl (fun _ => ⟨rfl, rfl⟩) dX12_init_139 ?_
  refine v_aload_n (f := 0) 0 rfl dX12_init_142 ?_
  refine v_sipush ⟨by decide, by decide⟩ (by decide) dX12_init_143 ?_
  refine g_newa_int kd_178 (by decide) (show (178 : Nat) ∉ ([0, 1, 72, 2, 76, 77, 78, 79, 80, 81, 82, 83, 84, 3, 85, 86, 87, 88, 89, 90, 91, 92, 93, 94, 95, 96, 97, 98, 99, 100, 101, 102, 103, 4, 107, 108, 109, 104, 105, 106, 12, 22, 32, 52, 62, 13, 23, 33, 53, 63, 14, 24, 34, 54, 64, 15, 25, 35, 55, 65, 16, 26, 36, 56, 66, 17, 27, 37, 57, 67, 18, 28, 38, 58, 68, 19, 29, 39, 59, 69, 20, 30, 40, 60, 70, 21, 31, 41, 61, 71, 5, 110, 111, 112, 113, 114, 115, 116, 117, 118, 119, 120, 121, 122, 123, 124, 125, 6, 126, 127, 128, 129, 7, 130, 131, 132, 133, 134, 135, 136, 137, 138, 139, 140, 141, 8, 142, 143, 144, 145, 146, 9, 147, 148, 149, 150, 151, 152, 153, 154, 10, 155, 156, 157, 158, 159, 160, 161, 11] : List Nat) from by decide) (by intro i; (try simp (disch := decide) only [b_upc]); exact h0 _ (by decide) i) (by decide +kernel) (by simp [b_nr]) (by simp [b_nr]) rfl (by decide) wa_int ⟨by decide, by decide⟩ dX12_init_146 ?_
  refine g_putR (kf := 30) (kz := 30) rfl (by decide +kernel) kd_11 rfl ⟨by decide, by decide⟩ rfl (by decide) rfl rfl wf_12_64 rfl (ty := tyX12 30) rfl (fun _ => ⟨rfl, rfl⟩) dX12_init_148 ?_
  refine v_aload_n (f := 0) 0 rfl dX12_init_151 ?_
  refine v_sipush ⟨by decide, by decide⟩ (by decide) dX12_init_152 ?_
  refine g_newa_int kd_179 (by decide) (show (179 : Nat) ∉ ([0, 1, 72, 2, 76, 77, 78, 79, 80, 81, 82, 83, 84, 3, 85, 86, 87, 88, 89, 90, 91, 92, 93, 94, 95, 96, 97, 98, 99, 100, 101, 102, 103, 4, 107, 108, 109, 104, 105, 106, 12, 22, 32, 52, 62, 13, 23, 33, 53, 63, 14, 24, 34, 54, 64, 15, 25, 35, 55, 65, 16, 26, 36, 56, 66, 17, 27, 37, 57, 67, 18, 28, 38, 58, 68, 19, 29, 39, 59, 69, 20, 30, 40, 60, 70, 21, 31, 41, 61, 71, 5, 110, 111, 112, 113, 114, 115, 116, 117, 118, 119, 120, 121, 122, 123, 124, 125, 6, 126, 127, 128, 129, 7, 130, 131, 132, 133, 134, 135, 136, 137, 138, 139, 140, 141, 8, 142, 143, 144, 145, 146, 9, 147, 148, 149, 150, 151, 152, 153, 154, 10, 155, 156, 157, 158, 159, 160, 161, 11] : List Nat) from by decide) (by intro i; (try simp (disch := decide) only [b_upc]); exact h0 _ (by decide) i) (by decide +kernel) (by simp [b_nr]) (by simp [b_nr]) rfl (by decide) wa_int ⟨by decide, by decide⟩ dX12_init_155 ?_
  refine g_putR (kf := 31) (kz := 31) rfl (by decide +kernel) kd_11 rfl ⟨by decide, by decide⟩ rfl (by decide) rfl rfl wf_12_67 rfl (ty := tyX12 31) rfl (fun _ => ⟨rfl, rfl⟩) dX12_init_157 ?_
  refine v_aload_n (f := 0) 0 rfl dX12_init_160 ?_
  refine v_bipush ⟨by decide, by decide⟩ (by decide) dX12_init_161 ?_
  refine g_newa_int kd_180 (by decide) (show (180 : Nat) ∉ ([0, 1, 72, 2, 76, 77, 78, 79, 80, 81, 82, 83, 84, 3, 85, 86, 87, 88, 89, 90, 91, 92, 93, 94, 95, 96, 97, 98, 99, 100, 101, 102, 103, 4, 107, 108, 109, 104, 105, 106, 12, 22, 32, 52, 62, 13, 23, 33, 53, 63, 14, 24, 34, 54, 64, 15, 25, 35, 55, 65, 16, 26, 36, 56, 66, 17, 27, 37, 57, 67, 18, 28, 38, 58, 68, 19, 29, 39, 59, 69, 20, 30, 40, 60, 70, 21, 31, 41, 61, 71, 5, 110, 111, 112, 113, 114, 115, 116, 117, 118, 119, 120, 121, 122, 123, 124, 125, 6, 126, 127, 128, 129, 7, 130, 131, 132, 133, 134, 135, 136, 137, 138, 139, 140, 141, 8, 142, 143, 144, 145, 146, 9, 147, 148, 149, 150, 151, 152, 153, 154, 10, 155, 156, 157, 158, 159, 160, 161, 11] : List Nat) from by decide) (by intro i; (try simp (disch := decide) only [b_upc]); exact h0 _ (by decide) i) (by decide +kernel) (by simp [b_nr]) (by simp [b_nr]) rfl (by decide) wa_int ⟨by decide, by decide⟩ dX12_init_163 ?_
  refine g_putR (kf := 33) (kz := 33) rfl (by decide +kernel) kd_11 rfl ⟨by decide, by decide⟩ rfl (by decide) rfl rfl wf_12_70 rfl (ty := tyX12 33) rfl (fun _ => ⟨rfl, rfl⟩) dX12_init_165 ?_
  refine v_aload_n (f := 0) 0 rfl dX12_init_168 ?_
  refine v_bipush ⟨by decide, by decide⟩ (by decide) dX12_init_169 ?_
  refine g_newa_int kd_181 (by decide) (show (181 : Nat) ∉ ([0, 1, 72, 2, 76, 77, 78, 79, 80, 81, 82, 83, 84, 3, 85, 86, 87, 88, 89, 90, 91, 92, 93, 94, 95, 96, 97, 98, 99, 100, 101, 102, 103, 4, 107, 108, 109, 104, 105, 106, 12, 22, 32, 52, 62, 13, 23, 33, 53, 63, 14, 24, 34, 54, 64, 15, 25, 35, 55, 65, 16, 26, 36, 56, 66, 17, 27, 37, 57, 67, 18, 28, 38, 58, 68, 19, 29, 39, 59, 69, 20, 30, 40, 60, 70, 21, 31, 41, 61, 71, 5, 110, 111, 112, 113, 114, 115, 116, 117, 118, 119, 120, 121, 122, 123, 124, 125, 6, 126, 127, 128, 129, 7, 130, 131, 132, 133, 134, 135, 136, 137, 138, 139, 140, 141, 8, 142, 143, 144, 145, 146, 9, 147, 148, 149, 150, 151, 152, 153, 154, 10, 155, 156, 157, 158, 159, 160, 161, 11] : List Nat) from by decide) (by intro i; (try simp (disch := decide) only [b_upc]); exact h0 _ (by decide) i) (by decide +kernel) (by simp [b_nr]) (by simp [b_nr]) rfl (by decide) wa_int ⟨by decide, by decide⟩ dX12_init_171 ?_
  refine g_putR (kf := 34) (kz := 34) rfl (by decide +kernel) kd_11 rfl ⟨by decide, by decide⟩ rfl (by decide) rfl rfl wf_12_73 rfl (ty := tyX12 34) rfl (fun _ => ⟨rfl, rfl⟩) dX12_init_173 ?_
  refine v_aload_n (f := 0) 0 rfl dX12_init_176 ?_
  refine v_bipush ⟨by decide, by decide⟩ (by decide) dX12_init_177 ?_
  refine g_newa_int kd_182 (by decide) (show (182 : Nat) ∉ ([0, 1, 72, 2, 76, 77, 78, 79, 80, 81, 82, 83, 84, 3, 85, 86, 87, 88, 89, 90, 91, 92, 93, 94, 95, 96, 97, 98, 99, 100, 101, 102, 103, 4, 107, 108, 109, 104, 105, 106, 12, 22, 32, 52, 62, 13, 23, 33, 53, 63, 14, 24, 34, 54, 64, 15, 25, 35, 55, 65, 16, 26, 36, 56, 66, 17, 27, 37, 57, 67, 18, 28, 38, 58, 68, 19, 29, 39, 59, 69, 20, 30, 40, 60, 70, 21, 31, 41, 61, 71, 5, 110, 111, 112, 113, 114, 115, 116, 117, 118, 119, 120, 121, 122, 123, 124, 125, 6, 126, 127, 128, 129, 7, 130, 131, 132, 133, 134, 135, 136, 137, 138, 139, 140, 141, 8, 142, 143, 144, 145, 146, 9, 147, 148, 149, 150, 151, 152, 153, 154, 10, 155, 156, 157, 158, 159, 160, 161, 11] : List Nat) from by decide) (by intro i; (try simp (disch := decide) only [b_upc]); exact h0 _ (by decide) i) (by decide +kernel) (by simp [b_nr]) (by simp [b_nr]) rfl (by decide) wa_int ⟨by decide, by decide⟩ dX12_init_179 ?_
  refine g_putR (kf := 36) (kz := 36) rfl (by decide +kernel) kd_11 rfl ⟨by decide, by decide⟩ rfl (by decide) rfl rfl wf_12_76 rfl (ty := tyX12 36) rfl (fun _ => ⟨rfl, rfl⟩) dX12_init_181 ?_
  refine v_aload_n (f := 0) 0 rfl dX12_init_184 ?_
  refine v_bipush ⟨by decide, by decide⟩ (by decide) dX12_init_185 ?_
  refine g_newa_int kd_183 (by decide) (show (183 : Nat) ∉ ([0, 1, 72, 2, 76, 77, 78, 79, 80, 81, 82, 83, 84, 3, 85, 86, 87, 88, 89, 90, 91, 92, 93, 94, 95, 96, 97, 98, 99, 100, 101, 102, 103, 4, 107, 108, 109, 104, 105, 106, 12, 22, 32, 52, 62, 13, 23, 33, 53, 63, 14, 24, 34, 54, 64, 15, 25, 35, 55, 65, 16, 26, 36, 56, 66, 17, 27, 37, 57, 67, 18, 28, 38, 58, 68, 19, 29, 39, 59, 69, 20, 30, 40, 60, 70, 21, 31, 41, 61, 71, 5, 110, 111, 112, 113, 114, 115, 116, 117, 118, 119, 120, 121, 122, 123, 124, 125, 6, 126, 127, 128, 129, 7, 130, 131, 132, 133, 134, 135, 136, 137, 138, 139, 140, 141, 8, 142, 143, 144, 145, 146, 9, 147, 148, 149, 150, 151, 152, 153, 154, 10, 155, 156, 157, 158, 159, 160, 161, 11] : List Nat) from by decide) (by intro i; (try simp (disch := decide) only [b_upc]); exact h0 _ (by decide) i) (by decide +kernel) (by simp [b_nr]) (by simp [b_nr]) rfl (by decide) wa_int ⟨by decide, by decide⟩ dX12_init_187 ?_
  refine g_putR (kf := 37) (kz := 37) rfl (by decide +kernel) kd_11 rfl ⟨by decide, by decide⟩ rfl (by decide) rfl rfl wf_12_79 rfl (ty := tyX12 37) rfl (fun _ => ⟨rfl, rfl⟩) dX12_init_189 ?_
  refine v_aload_n (f := 0) 0 rfl dX12_init_192 ?_
  refine v_sipush ⟨by decide, by decide⟩ (by decide) dX12_init_193 ?_
  refine g_newa_int kd_184 (by decide) (show (184 : Nat) ∉ ([0, 1, 72, 2, 76, 77, 78, 79, 80, 81, 82, 83, 84, 3, 85, 86, 87, 88, 89, 90, 91, 92, 93, 94, 95, 96, 97, 98, 99, 100, 101, 102, 103, 4, 107, 108, 109, 104, 105, 106, 12, 22, 32, 52, 62, 13, 23, 33, 53, 63, 14, 24, 34, 54, 64, 15, 25, 35, 55, 65, 16, 26, 36, 56, 66, 17, 27, 37, 57, 67, 18, 28, 38, 58, 68, 19, 29, 39, 59, 69, 20, 30, 40, 60, 70, 21, 31, 41, 61, 71, 5, 110, 111, 112, 113, 114, 115, 116, 117, 118, 119, 120, 121, 122, 123, 124, 125, 6, 126, 127, 128, 129, 7, 130, 131, 132, 133, 134, 135, 136, 137, 138, 139, 140, 141, 8, 142, 143, 144, 145, 146, 9, 147, 148, 149, 150, 151, 152, 153, 154, 10, 155, 156, 157, 158, 159, 160, 161, 11] : List Nat) from by decide) (by intro i; (try simp (disch := decide) only [b_upc]); exact h0 _ (by decide) i) (by decide +kernel) (by simp [b_nr]) (by simp [b_nr]) rfl (by decide) wa_int ⟨by decide, by decide⟩ dX12_init_196 ?_
  refine g_putR (kf := 38) (kz := 38) rfl (by decide +kernel) kd_11 rfl ⟨by decide, by decide⟩ rfl (by decide) rfl rfl wf_12_82 rfl (ty := tyX12 38) rfl (fun _ => ⟨rfl, rfl⟩) dX12_init_198 ?_
  refine v_aload_n (f := 0) 0 rfl dX12_init_201 ?_
  refine v_sipush ⟨by decide, by decide⟩ (by decide) dX12_init_202 ?_
  refine g_newa_int kd_185 (by decide) (show (185 : Nat) ∉ ([0, 1, 72, 2, 76, 77, 78, 79, 80, 81, 82, 83, 84, 3, 85, 86, 87, 88, 89, 90, 91, 92, 93, 94, 95, 96, 97, 98, 99, 100, 101, 102, 103, 4, 107, 108, 109, 104, 105, 106, 12, 22, 32, 52, 62, 13, 23, 33, 53, 63, 14, 24, 34, 54, 64, 15, 25, 35, 55, 65, 16, 26, 36, 56, 66, 17, 27, 37, 57, 67, 18, 28, 38, 58, 68, 19, 29, 39, 59, 69, 20, 30, 40, 60, 70, 21, 31, 41, 61, 71, 5, 110, 111, 112, 113, 114, 115, 116, 117, 118, 119, 120, 121, 122, 123, 124, 125, 6, 126, 127, 128, 129, 7, 130, 131, 132, 133, 134, 135, 136, 137, 138, 139, 140, 141, 8, 142, 143, 144, 145, 146, 9, 147, 148, 149, 150, 151, 152, 153, 154, 10, 155, 156, 157, 158, 159, 160, 161, 11] : List Nat) from by decide) (by intro i; (try simp (disch := decide) only [b_upc]); exact h0 _ (by decide) i) (by decide +kernel) (by simp [b_nr]) (by simp [b_nr]) rfl (by decide) wa_int ⟨by decide, by decide⟩ dX12_init_205 ?_
  refine g_putR (kf := 39) (kz := 39) rfl (by decide +kernel) kd_11 rfl ⟨by decide, by decide⟩ rfl (by decide) rfl rfl wf_12_85 rfl (ty := tyX12 39) rfl (fun _ => ⟨rfl, rfl⟩) dX12_init_207 ?_
  refine v_aload_n (f := 0) 0 rfl dX12_init_210 ?_
  refine v_sipush ⟨by decide, by decide⟩ (by decide) dX12_init_211 ?_
  refine g_newa_int kd_186 (by decide) (show (186 : Nat) ∉ ([0, 1, 72, 2, 76, 77, 78, 79, 80, 81, 82, 83, 84, 3, 85, 86, 87, 88, 89, 90, 91, 92, 93, 94, 95, 96, 97, 98, 99, 100, 101, 102, 103, 4, 107, 108, 109, 104, 105, 106, 12, 22, 32, 52, 62, 13, 23, 33, 53, 63, 14, 24, 34, 54, 64, 15, 25, 35, 55, 65, 16, 26, 36, 56, 66, 17, 27, 37, 57, 67, 18, 28, 38, 58, 68, 19, 29, 39, 59, 69, 20, 30, 40, 60, 70, 21, 31, 41, 61, 71, 5, 110, 111, 112, 113, 114, 115, 116, 117, 118, 119, 120, 121, 122, 123, 124, 125, 6, 126, 127, 128, 129, 7, 130, 131, 132, 133, 134, 135, 136, 137, 138, 139, 140, 141, 8, 142, 143, 144, 145, 146, 9, 147, 148, 149, 150, 151, 152, 153, 154, 10, 155, 156, 157, 158, 159, 160, 161, 11] : List Nat) from by decide) (by intro i; (try simp (disch := decide) only [b_upc]); exact h0 _ (by decide) i) (by decide +kernel) (by simp [b_nr]) (by simp [b_nr]) rfl (by decide) wa_int ⟨by decide, by decide⟩ dX12_init_214 ?_
  refine g_putR (kf := 40) (kz := 40) rfl (by decide +kernel) kd_11 rfl ⟨by decide, by decide⟩ rfl (by decide) rfl rfl wf_12_88 rfl (ty := tyX12 40) rfl (fun _ => ⟨rfl, rfl⟩) dX12_init_216 ?_
  refine v_aload_n (f := 0) 0 rfl dX12_init_219 ?_
  refine v_sipush ⟨by decide, by decide⟩ (by decide) dX12_init_220 ?_
  refine g_newa_int kd_187 (by decide) (show (187 : Nat) ∉ ([0, 1, 72, 2, 76, 77, 78, 79, 80, 81, 82, 83, 84, 3, 85, 86, 87, 88, 89, 90, 91, 92, 93, 94, 95, 96, 97, 98, 99, 100, 101, 102, 103, 4, 107, 108, 109, 104, 105, 106, 12, 22, 32, 52, 62, 13, 23, 33, 53, 63, 14, 24, 34, 54, 64, 15, 25, 35, 55, 65, 16, 26, 36, 56, 66, 17, 27, 37, 57, 67, 18, 28, 38, 58, 68, 19, 29, 39, 59, 69, 20, 30, 40, 60, 70, 21, 31, 41, 61, 71, 5, 110, 111, 112, 113, 114, 115, 116, 117, 118, 119, 120, 121, 122, 123, 124, 125, 6, 126, 127, 128, 129, 7, 130, 131, 132, 133, 134, 135, 136, 137, 138, 139, 140, 141, 8, 142, 143, 144, 145, 146, 9, 147, 148, 149, 150, 151, 152, 153, 154, 10, 155, 156, 157, 158, 159, 160, 161, 11] : List Nat) from by decide) (by intro i; (try simp (disch := decide) only [b_upc]); exact h0 _ (by decide) i) (by decide +kernel) (by simp [b_nr]) (by simp [b_nr]) rfl (by decide) wa_int ⟨by decide, by decide⟩ dX12_init_223 ?_
  refine g_putR (kf := 41) (kz := 41) rfl (by decide +kernel) kd_11 rfl ⟨by decide, by decide⟩ rfl (by decide) rfl rfl wf_12_91 rfl (ty := tyX12 41) rfl (fun _ => ⟨rfl, rfl⟩) dX12_init_225 ?_
  refine v_aload_n (f := 0) 0 rfl dX12_init_228 ?_
  refine v_sipush ⟨by decide, by decide⟩ (by decide) dX12_init_229 ?_
  refine g_newa_int kd_188 (by decide) (show (188 : Nat) ∉ ([0, 1, 72, 2, 76, 77, 78, 79, 80, 81, 82, 83, 84, 3, 85, 86, 87, 88, 89, 90, 91, 92, 93, 94, 95, 96, 97, 98, 99, 100, 101, 102, 103, 4, 107, 108, 109, 104, 105, 106, 12, 22, 32, 52, 62, 13, 23, 33, 53, 63, 14, 24, 34, 54, 64, 15, 25, 35, 55, 65, 16, 26, 36, 56, 66, 17, 27, 37, 57, 67, 18, 28, 38, 58, 68, 19, 29, 39, 59, 69, 20, 30, 40, 60, 70, 21, 31, 41, 61, 71, 5, 110, 111, 112, 113, 114, 115, 116, 117, 118, 119, 120, 121, 122, 123, 124, 125, 6, 126, 127, 128, 129, 7, 130, 131, 132, 133, 134, 135, 136, 137, 138, 139, 140, 141, 8, 142, 143, 144, 145, 146, 9, 147, 148, 149, 150, 151, 152, 153, 154, 10, 155, 156, 157, 158, 159, 160, 161, 11] : List Nat) from by decide) (by intro i; (try simp (disch := decide) only [b_upc]); exact h0 _ (by decide) i) (by decide +kernel) (by simp [b_nr]) (by simp [b_nr]) rfl (by decide) wa_int ⟨by decide, by decide⟩ dX12_init_232 ?_
  refine g_putR (kf := 42) (kz := 42) rfl (by decide +kernel) kd_11 rfl ⟨by decide, by decide⟩ rfl (by decide) rfl rfl wf_12_94 rfl (ty := tyX12 42) rfl (fun _ => ⟨rfl, rfl⟩) dX12_init_234 ?_
  refine v_aload_n (f := 0) 0 rfl dX12_init_237 ?_
  refine v_sipush ⟨by decide, by decide⟩ (by decide) dX12_init_238 ?_
  refine g_newa_int kd_189 (by decide) (show (189 : Nat) ∉ ([0, 1, 72, 2, 76, 77, 78, 79, 80, 81, 82, 83, 84, 3, 85, 86, 87, 88, 89, 90, 91, 92, 93, 94, 95, 96, 97, 98, 99, 100, 101, 102, 103, 4, 107, 108, 109, 104, 105, 106, 12, 22, 32, 52, 62, 13, 23, 33, 53, 63, 14, 24, 34, 54, 64, 15, 25, 35, 55, 65, 16, 26, 36, 56, 66, 17, 27, 37, 57, 67, 18, 28, 38, 58, 68, 19, 29, 39, 59, 69, 20, 30, 40, 60, 70, 21, 31, 41, 61, 71, 5, 110, 111, 112, 113, 114, 115, 116, 117, 118, 119, 120, 121, 122, 123, 124, 125, 6, 126, 127, 128, 129, 7, 130, 131, 132, 133, 134, 135, 136, 137, 138, 139, 140, 141, 8, 142, 143, 144, 145, 146, 9, 147, 148, 149, 150, 151, 152, 153, 154, 10, 155, 156, 157, 158, 159, 160, 161, 11] : List Nat) from by decide) (by intro i; (try simp (disch := decide) only [b_upc]); exact h0 _ (by decide) i) (by decide +kernel) (by simp [b_nr]) (by simp [b_nr]) rfl (by decide) wa_int ⟨by decide, by decide⟩ dX12_init_241 ?_
  refine g_putR (kf := 43) (kz := 43) rfl (by decide +kernel) kd_11 rfl ⟨by decide, by decide⟩ rfl (by decide) rfl rfl wf_12_97 rfl (ty := tyX12 43) rfl (fun _ => ⟨rfl, rfl⟩) dX12_init_243 ?_
  refine v_aload_n (f := 0) 0 rfl dX12_init_246 ?_
  refine v_sipush ⟨by decide, by decide⟩ (by decide) dX12_init_247 ?_
  refine g_newa_int kd_190 (by decide) (show (190 : Nat) ∉ ([0, 1, 72, 2, 76, 77, 78, 79, 80, 81, 82, 83, 84, 3, 85, 86, 87, 88, 89, 90, 91, 92, 93, 94, 95, 96, 97, 98, 99, 100, 101, 102, 103, 4, 107, 108, 109, 104, 105, 106, 12, 22, 32, 52, 62, 13, 23, 33, 53, 63, 14, 24, 34, 54, 64, 15, 25, 35, 55, 65, 16, 26, 36, 56, 66, 17, 27, 37, 57, 67, 18, 28, 38, 58, 68, 19, 29, 39, 59, 69, 20, 30, 40, 60, 70, 21, 31, 41, 61, 71, 5, 110, 111, 112, 113, 114, 115, 116, 117, 118, 119, 120, 121, 122, 123, 124, 125, 6, 126, 127, 128, 129, 7, 130, 131, 132, 133, 134, 135, 136, 137, 138, 139, 140, 141, 8, 142, 143, 144, 145, 146, 9, 147, 148, 149, 150, 151, 152, 153, 154, 10, 155, 156, 157, 158, 159, 160, 161, 11] : List Nat) from by decide) (by intro i; (try simp (disch := decide) only [b_upc]); exact h0 _ (by decide) i) (by decide +kernel) (by simp [b_nr]) (by simp [b_nr]) rfl (by decide) wa_int ⟨by decide, by decide⟩ dX12_init_250 ?_
  refine g_putR (kf := 44) (kz := 44) rfl (by decide +kernel) kd_11 rfl ⟨by decide, by decide⟩ rfl (by decide) rfl rfl wf_12_100 rfl (ty := tyX12 44) rfl (fun _ => ⟨rfl, rfl⟩) dX12_init_252 ?_
  refine v_aload_n (f := 0) 0 rfl dX12_init_255 ?_
  refine v_sipush ⟨by decide, by decide⟩ (by decide) dX12_init_256 ?_
  refine g_newa_int kd_191 (by decide) (show (191 : Nat) ∉ ([0, 1, 72, 2, 76, 77, 78, 79, 80, 81, 82, 83, 84, 3, 85, 86, 87, 88, 89, 90, 91, 92, 93, 94, 95, 96, 97, 98, 99, 100, 101, 102, 103, 4, 107, 108, 109, 104, 105, 106, 12, 22, 32, 52, 62, 13, 23, 33, 53, 63, 14, 24, 34, 54, 64, 15, 25, 35, 55, 65, 16, 26, 36, 56, 66, 17, 27, 37, 57, 67, 18, 28, 38, 58, 68, 19, 29, 39, 59, 69, 20, 30, 40, 60, 70, 21, 31, 41, 61, 71, 5, 110, 111, 112, 113, 114, 115, 116, 117, 118, 119, 120, 121, 122, 123, 124, 125, 6, 126, 127, 128, 129, 7, 130, 131, 132, 133, 134, 135, 136, 137, 138, 139, 140, 141, 8, 142, 143, 144, 145, 146, 9, 147, 148, 149, 150, 151, 152, 153, 154, 10, 155, 156, 157, 158, 159, 160, 161, 11] : List Nat) from by decide) (by intro i; (try simp (disch := decide) only [b_upc]); exact h0 _ (by decide) i) (by decide +kernel) (by simp [b_nr]) (by simp [b_nr]) rfl (by decide) wa_int ⟨by decide, by decide⟩ dX12_init_259 ?_
  refine g_putR (kf := 45) (kz := 45) rfl (by decide +kernel) kd_11 rfl ⟨by decide, by decide⟩ rfl (by decide) rfl rfl wf_12_103 rfl (ty := tyX12 45) rfl (fun _ => ⟨rfl, rfl⟩) dX12_init_261 ?_
  refine v_aload_n (f := 0) 0 rfl dX12_init_264 ?_
  refine v_sipush ⟨by decide, by decide⟩ (by decide) dX12_init_265 ?_
  refine g_newa_long kd_192 (by decide) (show (192 : Nat) ∉ ([0, 1, 72, 2, 76, 77, 78, 79, 80, 81, 82, 83, 84, 3, 85, 86, 87, 88, 89, 90, 91, 92, 93, 94, 95, 96, 97, 98, 99, 100, 101, 102, 103, 4, 107, 108, 109, 104, 105, 106, 12, 22, 32, 52, 62, 13, 23, 33, 53, 63, 14, 24, 34, 54, 64, 15, 25, 35, 55, 65, 16, 26, 36, 56, 66, 17, 27, 37, 57, 67, 18, 28, 38, 58, 68, 19, 29, 39, 59, 69, 20, 30, 40, 60, 70, 21, 31, 41, 61, 71, 5, 110, 111, 112, 113, 114, 115, 116, 117, 118, 119, 120, 121, 122, 123, 124, 125, 6, 126, 127, 128, 129, 7, 130, 131, 132, 133, 134, 135, 136, 137, 138, 139, 140, 141, 8, 142, 143, 144, 145, 146, 9, 147, 148, 149, 150, 151, 152, 153, 154, 10, 155, 156, 157, 158, 159, 160, 161, 11] : List Nat) from by decide) (by intro i; (try simp (disch := decide) only [b_upc]); exact h0 _ (by decide) i) (by decide +kernel) (by simp [b_nr]) (by simp [b_nr]) rfl (by decide) wa_long ⟨by decide, by decide⟩ dX12_init_268 ?_
  refine g_putR (kf := 46) (kz := 46) rfl (by decide +kernel) kd_11 rfl ⟨by decide, by decide⟩ rfl (by decide) rfl rfl wf_12_106 rfl (ty := tyX12 46) rfl (fun _ => ⟨rfl, rfl⟩) dX12_init_270 ?_
  refine v_aload_n (f := 0) 0 rfl dX12_init_273 ?_
  refine v_sipush ⟨by decide, by decide⟩ (by decide) dX12_init_274 ?_
  refine g_newa_int kd_193 (by decide) (show (193 : Nat) ∉ ([0, 1, 72, 2, 76, 77, 78, 79, 80, 81, 82, 83, 84, 3, 85, 86, 87, 88, 89, 90, 91, 92, 93, 94, 95, 96, 97, 98, 99, 100, 101, 102, 103, 4, 107, 108, 109, 104, 105, 106, 12, 22, 32, 52, 62, 13, 23, 33, 53, 63, 14, 24, 34, 54, 64, 15, 25, 35, 55, 65, 16, 26, 36, 56, 66, 17, 27, 37, 57, 67, 18, 28, 38, 58, 68, 19, 29, 39, 59, 69, 20, 30, 40, 60, 70, 21, 31, 41, 61, 71, 5, 110, 111, 112, 113, 114, 115, 116, 117, 118, 119, 120, 121, 122, 123, 124, 125, 6, 126, 127, 128, 129, 7, 130, 131, 132, 133, 134, 135, 136, 137, 138, 139, 140, 141, 8, 142, 143, 144, 145, 146, 9, 147, 148, 149, 150, 151, 152, 153, 154, 10, 155, 156, 157, 158, 159, 160, 161, 11] : List Nat) from by decide) (by intro i; (try simp (disch := decide) only [b_upc]); exact h0 _ (by decide) i) (by decide +kernel) (by simp [b_nr]) (by simp [b_nr]) rfl (by decide) wa_int ⟨by decide, by decide⟩ dX12_init_277 ?_
  refine g_putR (kf := 47) (kz := 47) rfl (by decide +kernel) kd_11 rfl ⟨by decide, by decide⟩ rfl (by decide) rfl rfl wf_12_109 rfl (ty := tyX12 47) rfl (fun _ => ⟨rfl, rfl⟩) dX12_init_279 ?_
  refine v_aload_n (f := 0) 0 rfl dX12_init_282 ?_
  refine v_bipush ⟨by decide, by decide⟩ (by decide) dX12_init_283 ?_
  refine g_putI (kf := 54) (kz := 54) rfl (by decide +kernel) kd_11 rfl ⟨by decide, by decide⟩ rfl wf_12_112 rfl rfl dX12_init_285 ?_
  refine v_aload_n (f := 0) 0 rfl dX12_init_288 ?_
  refine v_bipush ⟨by decide, by decide⟩ (by decide) dX12_init_289 ?_
  refine g_newa_int kd_194 (by decide) (show (194 : Nat) ∉ ([0, 1, 72, 2, 76, 77, 78, 79, 80, 81, 82, 83, 84, 3, 85, 86, 87, 88, 89, 90, 91, 92, 93, 94, 95, 96, 97, 98, 99, 100, 101, 102, 103, 4, 107, 108, 109, 104, 105, 106, 12, 22, 32, 52, 62, 13, 23, 33, 53, 63, 14, 24, 34, 54, 64, 15, 25, 35, 55, 65, 16, 26, 36, 56, 66, 17, 27, 37, 57, 67, 18, 28, 38, 58, 68, 19, 29, 39, 59, 69, 20, 30, 40, 60, 70, 21, 31, 41, 61, 71, 5, 110, 111, 112, 113, 114, 115, 116, 117, 118, 119, 120, 121, 122, 123, 124, 125, 6, 126, 127, 128, 129, 7, 130, 131, 132, 133, 134, 135, 136, 137, 138, 139, 140, 141, 8, 142, 143, 144, 145, 146, 9, 147, 148, 149, 150, 151, 152, 153, 154, 10, 155, 156, 157, 158, 159, 160, 161, 11] : List Nat) from by decide) (by intro i; (try simp (disch := decide) only [b_upc]); exact h0 _ (by decide) i) (by decide +kernel) (by simp [b_nr]) (by simp [b_nr]) rfl (by decide) wa_int ⟨by decide, by decide⟩ dX12_init_291 ?_
  refine g_putR (kf := 55) (kz := 55) rfl (by decide +kernel) kd_11 rfl ⟨by decide, by decide⟩ rfl (by decide) rfl rfl wf_12_115 rfl (ty := tyX12 55) rfl (fun _ => ⟨rfl, rfl⟩) dX12_init_293 ?_
  refine v_aload_n (f := 0) 0 rfl dX12_init_296 ?_
  refine v_bipush ⟨by decide, by decide⟩ (by decide) dX12_init_297 ?_
  refine g_newa_int kd_195 (by decide) (show (195 : Nat) ∉ ([0, 1, 72, 2, 76, 77, 78, 79, 80, 81, 82, 83, 84, 3, 85, 86, 87, 88, 89, 90, 91, 92, 93, 94, 95, 96, 97, 98, 99, 100, 101, 102, 103, 4, 107, 108, 109, 104, 105, 106, 12, 22, 32, 52, 62, 13, 23, 33, 53, 63, 14, 24, 34, 54, 64, 15, 25, 35, 55, 65, 16, 26, 36, 56, 66, 17, 27, 37, 57, 67, 18, 28, 38, 58, 68, 19, 29, 39, 59, 69, 20, 30, 40, 60, 70, 21, 31, 41, 61, 71, 5, 110, 111, 112, 113, 114, 115, 116, 117, 118, 119, 120, 121, 122, 123, 124, 125, 6, 126, 127, 128, 129, 7, 130, 131, 132, 133, 134, 135, 136, 137, 138, 139, 140, 141, 8, 142, 143, 144, 145, 146, 9, 147, 148, 149, 150, 151, 152, 153, 154, 10, 155, 156, 157, 158, 159, 160, 161, 11] : List Nat) from by decide) (by intro i; (try simp (disch := decide) only [b_upc]); exact h0 _ (by decide) i) (by decide +kernel) (by simp [b_nr]) (by simp [b_nr]) rfl (by decide) wa_int ⟨by decide, by decide⟩ dX12_init_299 ?_
  refine g_putR (kf := 56) (kz := 56) rfl (by decide +kernel) kd_11 rfl ⟨by decide, by decide⟩ rfl (by decide) rfl rfl wf_12_118 rfl (ty := tyX12 56) rfl (fun _ => ⟨rfl, rfl⟩) dX12_init_301 ?_
  refine v_aload_n (f := 0) 0 rfl dX12_init_304 ?_
  refine v_sipush ⟨by decide, by decide⟩ (by decide) dX12_init_305 ?_
  refine g_newa_int kd_196 (by decide) (show (196 : Nat) ∉ ([0, 1, 72, 2, 76, 77, 78, 79, 80, 81, 82, 83, 84, 3, 85, 86, 87, 88, 89, 90, 91, 92, 93, 94, 95, 96, 97, 98, 99, 100, 101, 102, 103, 4, 107, 108, 109, 104, 105, 106, 12, 22, 32, 52, 62, 13, 23, 33, 53, 63, 14, 24, 34, 54, 64, 15, 25, 35, 55, 65, 16, 26, 36, 56, 66, 17, 27, 37, 57, 67, 18, 28, 38, 58, 68, 19, 29, 39, 59, 69, 20, 30, 40, 60, 70, 21, 31, 41, 61, 71, 5, 110, 111, 112, 113, 114, 115, 116, 117, 118, 119, 120, 121, 122, 123, 124, 125, 6, 126, 127, 128, 129, 7, 130, 131, 132, 133, 134, 135, 136, 137, 138, 139, 140, 141, 8, 142, 143, 144, 145, 146, 9, 147, 148, 149, 150, 151, 152, 153, 154, 10, 155, 156, 157, 158, 159, 160, 161, 11] : List Nat) from by decide) (by intro i; (try simp (disch := decide) only [b_upc]); exact h0 _ (by decide) i) (by decide +kernel) (by simp [b_nr]) (by simp [b_nr]) rfl (by decide) wa_int ⟨by decide, by decide⟩ dX12_init_308 ?_
  refine g_putR (kf := 57) (kz := 57) rfl (by decide +kernel) kd_11 rfl ⟨by decide, by decide⟩ rfl (by decide) rfl rfl wf_12_121 rfl (ty := tyX12 57) rfl (fun _ => ⟨rfl, rfl⟩) dX12_init_310 ?_
  refine v_aload_n (f := 0) 0 rfl dX12_init_313 ?_
  refine v_bipush ⟨by decide, by decide⟩ (by decide) dX12_init_314 ?_
  refine g_newa_int kd_197 (by decide) (show (197 : Nat) ∉ ([0, 1, 72, 2, 76, 77, 78, 79, 80, 81, 82, 83, 84, 3, 85, 86, 87, 88, 89, 90, 91, 92, 93, 94, 95, 96, 97, 98, 99, 100, 101, 102, 103, 4, 107, 108, 109, 104, 105, 106, 12, 22, 32, 52, 62, 13, 23, 33, 53, 63, 14, 24, 34, 54, 64, 15, 25, 35, 55, 65, 16, 26, 36, 56, 66, 17, 27, 37, 57, 67, 18, 28, 38, 58, 68, 19, 29, 39, 59, 69, 20, 30, 40, 60, 70, 21, 31, 41, 61, 71, 5, 110, 111, 112, 113, 114, 115, 116, 117, 118, 119, 120, 121, 122, 123, 124, 125, 6, 126, 127, 128, 129, 7, 130, 131, 132, 133, 134, 135, 136, 137, 138, 139, 140, 141, 8, 142, 143, 144, 145, 146, 9, 147, 148, 149, 150, 151, 152, 153, 154, 10, 155, 156, 157, 158, 159, 160, 161, 11] : List Nat) from by decide) (by intro i; (try simp (disch := decide) only [b_upc]); exact h0 _ (by decide) i) (by decide +kernel) (by simp [b_nr]) (by simp [b_nr]) rfl (by decide) wa_int ⟨by decide, by decide⟩ dX12_init_316 ?_
  refine g_putR (kf := 58) (kz := 58) rfl (by decide +kernel) kd_11 rfl ⟨by decide, by decide⟩ rfl (by decide) rfl rfl wf_12_124 rfl (ty := tyX12 58) rfl (fun _ => ⟨rfl, rfl⟩) dX12_init_318 ?_
  refine v_aload_n (f := 0) 0 rfl dX12_init_321 ?_
  refine v_bipush ⟨by decide, by decide⟩ (by decide) dX12_init_322 ?_
  refine g_newa_int kd_198 (by decide) (show (198 : Nat) ∉ ([0, 1, 72, 2, 76, 77, 78, 79, 80, 81, 82, 83, 84, 3, 85, 86, 87, 88, 89, 90, 91, 92, 93, 94, 95, 96, 97, 98, 99, 100, 101, 102, 103, 4, 107, 108, 109, 104, 105, 106, 12, 22, 32, 52, 62, 13, 23, 33, 53, 63, 14, 24, 34, 54, 64, 15, 25, 35, 55, 65, 16, 26, 36, 56, 66, 17, 27, 37, 57, 67, 18, 28, 38, 58, 68, 19, 29, 39, 59, 69, 20, 30, 40, 60, 70, 21, 31, 41, 61, 71, 5, 110, 111, 112, 113, 114, 115, 116, 117, 118, 119, 120, 121, 122, 123, 124, 125, 6, 126, 127, 128, 129, 7, 130, 131, 132, 133, 134, 135, 136, 137, 138, 139, 140, 141, 8, 142, 143, 144, 145, 146, 9, 147, 148, 149, 150, 151, 152, 153, 154, 10, 155, 156, 157, 158, 159, 160, 161, 11] : List Nat) from by decide) (by intro i; (try simp (disch := decide) only [b_upc]); exact h0 _ (by decide) i) (by decide +kernel) (by simp [b_nr]) (by simp [b_nr]) rfl (by decide) wa_int ⟨by decide, by decide⟩ dX12_init_324 ?_
  refine g_putR (kf := 59) (kz := 59) rfl (by decide +kernel) kd_11 rfl ⟨by decide, by decide⟩ rfl (by decide) rfl rfl wf_12_127 rfl (ty := tyX12 59) rfl (fun _ => ⟨rfl, rfl⟩) dX12_init_326 ?_
  refine v_aload_n (f := 0) 0 rfl dX12_init_329 ?_
  refine v_bipush ⟨by decide, by decide⟩ (by decide) dX12_init_330 ?_
  refine g_newa_int kd_199 (by decide) (show (199 : Nat) ∉ ([0, 1, 72, 2, 76, 77, 78, 79, 80, 81, 82, 83, 84, 3, 85, 86, 87, 88, 89, 90, 91, 92, 93, 94, 95, 96, 97, 98, 99, 100, 101, 102, 103, 4, 107, 108, 109, 104, 105, 106, 12, 22, 32, 52, 62, 13, 23, 33, 53, 63, 14, 24, 34, 54, 64, 15, 25, 35, 55, 65, 16, 26, 36, 56, 66, 17, 27, 37, 57, 67, 18, 28, 38, 58, 68, 19, 29, 39, 59, 69, 20, 30, 40, 60, 70, 21, 31, 41, 61, 71, 5, 110, 111, 112, 113, 114, 115, 116, 117, 118, 119, 120, 121, 122, 123, 124, 125, 6, 126, 127, 128, 129, 7, 130, 131, 132, 133, 134, 135, 136, 137, 138, 139, 140, 141, 8, 142, 143, 144, 145, 146, 9, 147, 148, 149, 150, 151, 152, 153, 154, 10, 155, 156, 157, 158, 159, 160, 161, 11] : List Nat) from by decide) (by intro i; (try simp (disch := decide) only [b_upc]); exact h0 _ (by decide) i) (by decide +kernel) (by simp [b_nr]) (by simp [b_nr]) rfl (by decide) wa_int ⟨by decide, by decide⟩ dX12_init_332 ?_
  refine g_putR (kf := 60) (kz := 60) rfl (by decide +kernel) kd_11 rfl ⟨by decide, by decide⟩ rfl (by decide) rfl rfl wf_12_130 rfl (ty := tyX12 60) rfl (fun _ => ⟨rfl, rfl⟩) dX12_init_334 ?_
  refine v_aload_n (f := 0) 0 rfl dX12_init_337 ?_
  refine v_bipush ⟨by decide, by decide⟩ (by decide) dX12_init_338 ?_
  refine g_newa_boolean kd_200 (by decide) (show (200 : Nat) ∉ ([0, 1, 72, 2, 76, 77, 78, 79, 80, 81, 82, 83, 84, 3, 85, 86, 87, 88, 89, 90, 91, 92, 93, 94, 95, 96, 97, 98, 99, 100, 101, 102, 103, 4, 107, 108, 109, 104, 105, 106, 12, 22, 32, 52, 62, 13, 23, 33, 53, 63, 14, 24, 34, 54, 64, 15, 25, 35, 55, 65, 16, 26, 36, 56, 66, 17, 27, 37, 57, 67, 18, 28, 38, 58, 68, 19, 29, 39, 59, 69, 20, 30, 40, 60, 70, 21, 31, 41, 61, 71, 5, 110, 111, 112, 113, 114, 115, 116, 117, 118, 119, 120, 121, 122, 123, 124, 125, 6, 126, 127, 128, 129, 7, 130, 131, 132, 133, 134, 135, 136, 137, 138, 139, 140, 141, 8, 142, 143, 144, 145, 146, 9, 147, 148, 149, 150, 151, 152, 153, 154, 10, 155, 156, 157, 158, 159, 160, 161, 11] : List Nat) from by decide) (by intro i; (try simp (disch := decide) only [b_upc]); exact h0 _ (by decide) i) (by decide +kernel) (by simp [b_nr]) (by simp [b_nr]) rfl (by decide) wa_boolean ⟨by decide, by decide⟩ dX12_init_340 ?_
  refine g_putR (kf := 61) (kz := 61) rfl (by decide +kernel) kd_11 rfl ⟨by decide, by decide⟩ rfl (by decide) rfl rfl wf_12_133 rfl (ty := tyX12 61) rfl (fun _ => ⟨rfl, rfl⟩) dX12_init_342 ?_
  refine v_aload_n (f := 0) 0 rfl dX12_init_345 ?_
  refine v_bipush ⟨by decide, by decide⟩ (by decide) dX12_init_346 ?_
  refine g_newa_int kd_201 (by decide) (show (201 : Nat) ∉ ([0, 1, 72, 2, 76, 77, 78, 79, 80, 81, 82, 83, 84, 3, 85, 86, 87, 88, 89, 90, 91, 92, 93, 94, 95, 96, 97, 98, 99, 100, 101, 102, 103, 4, 107, 108, 109, 104, 105, 106, 12, 22, 32, 52, 62, 13, 23, 33, 53, 63, 14, 24, 34, 54, 64, 15, 25, 35, 55, 65, 16, 26, 36, 56, 66, 17, 27, 37, 57, 67, 18, 28, 38, 58, 68, 19, 29, 39, 59, 69, 20, 30, 40, 60, 70, 21, 31, 41, 61, 71, 5, 110, 111, 112, 113, 114, 115, 116, 117, 118, 119, 120, 121, 122, 123, 124, 125, 6, 126, 127, 128, 129, 7, 130, 131, 132, 133, 134, 135, 136, 137, 138, 139, 140, 141, 8, 142, 143, 144, 145, 146, 9, 147, 148, 149, 150, 151, 152, 153, 154, 10, 155, 156, 157, 158, 159, 160, 161, 11] : List Nat) from by decide) (by intro i; (try simp (disch := decide) only [b_upc]); exact h0 _ (by decide) i) (by decide +kernel) (by simp [b_nr]) (by simp [b_nr]) rfl (by decide) wa_int ⟨by decide, by decide⟩ dX12_init_348 ?_
  refine g_putR (kf := 62) (kz := 62) rfl (by decide +kernel) kd_11 rfl ⟨by decide, by decide⟩ rfl (by decide) rfl rfl wf_12_137 rfl (ty := tyX12 62) rfl (fun _ => ⟨rfl, rfl⟩) dX12_init_350 ?_
  refine v_aload_n (f := 0) 0 rfl dX12_init_353 ?_
  refine v_bipush ⟨by decide, by decide⟩ (by decide) dX12_init_354 ?_
  refine g_newa_int kd_202 (by decide) (show (202 : Nat) ∉ ([0, 1, 72, 2, 76, 77, 78, 79, 80, 81, 82, 83, 84, 3, 85, 86, 87, 88, 89, 90, 91, 92, 93, 94, 95, 96, 97, 98, 99, 100, 101, 102, 103, 4, 107, 108, 109, 104, 105, 106, 12, 22, 32, 52, 62, 13, 23, 33, 53, 63, 14, 24, 34, 54, 64, 15, 25, 35, 55, 65, 16, 26, 36, 56, 66, 17, 27, 37, 57, 67, 18, 28, 38, 58, 68, 19, 29, 39, 59, 69, 20, 30, 40, 60, 70, 21, 31, 41, 61, 71, 5, 110, 111, 112, 113, 114, 115, 116, 117, 118, 119, 120, 121, 122, 123, 124, 125, 6, 126, 127, 128, 129, 7, 130, 131, 132, 133, 134, 135, 136, 137, 138, 139, 140, 141, 8, 142, 143, 144, 145, 146, 9, 147, 148, 149, 150, 151, 152, 153, 154, 10, 155, 156, 157, 158, 159, 160, 161, 11] : List Nat) from by decide) (by intro i; (try simp (disch := decide) only [b_upc]); exact h0 _ (by decide) i) (by decide +kernel) (by simp [b_nr]) (by simp [b_nr]) rfl (by decide) wa_int ⟨by decide, by decide⟩ dX12_init_356 ?_
  refine g_putR (kf := 63) (kz := 63) rfl (by decide +kernel) kd_11 rfl ⟨by decide, by decide⟩ rfl (by decide) rfl rfl wf_12_140 rfl (ty := tyX12 63) rfl (fun _ => ⟨rfl, rfl⟩) dX12_init_358 ?_
  refine v_aload_n (f := 0) 0 rfl dX12_init_361 ?_
  refine v_bipush ⟨by decide, by decide⟩ (by decide) dX12_init_362 ?_
  refine g_newa_int kd_203 (by decide) (show (203 : Nat) ∉ ([0, 1, 72, 2, 76, 77, 78, 79, 80, 81, 82, 83, 84, 3, 85, 86, 87, 88, 89, 90, 91, 92, 93, 94, 95, 96, 97, 98, 99, 100, 101, 102, 103, 4, 107, 108, 109, 104, 105, 106, 12, 22, 32, 52, 62, 13, 23, 33, 53, 63, 14, 24, 34, 54, 64, 15, 25, 35, 55, 65, 16, 26, 36, 56, 66, 17, 27, 37, 57, 67, 18, 28, 38, 58, 68, 19, 29, 39, 59, 69, 20, 30, 40, 60, 70, 21, 31, 41, 61, 71, 5, 110, 111, 112, 113, 114, 115, 116, 117, 118, 119, 120, 121, 122, 123, 124, 125, 6, 126, 127, 128, 129, 7, 130, 131, 132, 133, 134, 135, 136, 137, 138, 139, 140, 141, 8, 142, 143, 144, 145, 146, 9, 147, 148, 149, 150, 151, 152, 153, 154, 10, 155, 156, 157, 158, 159, 160, 161, 11] : List Nat) from by decide) (by intro i; (try simp (disch := decide) only [b_upc]); exact h0 _ (by decide) i) (by decide +kernel) (by simp [b_nr]) (by simp [b_nr]) rfl (by decide) wa_int ⟨by decide, by decide⟩ dX12_init_364 ?_
  refine g_putR (kf := 64) (kz := 64) rfl (by decide +kernel) kd_11 rfl ⟨by decide, by decide⟩ rfl (by decide) rfl rfl wf_12_143 rfl (ty := tyX12 64) rfl (fun _ => ⟨rfl, rfl⟩) dX12_init_366 ?_
  refine v_aload_n (f := 0) 0 rfl dX12_init_369 ?_
  refine v_bipush ⟨by decide, by decide⟩ (by decide) dX12_init_370 ?_
  refine g_newa_int kd_204 (by decide) (show (204 : Nat) ∉ ([0, 1, 72, 2, 76, 77, 78, 79, 80, 81, 82, 83, 84, 3, 85, 86, 87, 88, 89, 90, 91, 92, 93, 94, 95, 96, 97, 98, 99, 100, 101, 102, 103, 4, 107, 108, 109, 104, 105, 106, 12, 22, 32, 52, 62, 13, 23, 33, 53, 63, 14, 24, 34, 54, 64, 15, 25, 35, 55, 65, 16, 26, 36, 56, 66, 17, 27, 37, 57, 67, 18, 28, 38, 58, 68, 19, 29, 39, 59, 69, 20, 30, 40, 60, 70, 21, 31, 41, 61, 71, 5, 110, 111, 112, 113, 114, 115, 116, 117, 118, 119, 120, 121, 122, 123, 124, 125, 6, 126, 127, 128, 129, 7, 130, 131, 132, 133, 134, 135, 136, 137, 138, 139, 140, 141, 8, 142, 143, 144, 145, 146, 9, 147, 148, 149, 150, 151, 152, 153, 154, 10, 155, 156, 157, 158, 159, 160, 161, 11] : List Nat) from by decide) (by intro i; (try simp (disch := decide) only [b_upc]); exact h0 _ (by decide) i) (by decide +kernel) (by simp [b_nr]) (by simp [b_nr]) rfl (by decide) wa_int ⟨by decide, by decide⟩ dX12_init_372 ?_
  refine g_putR (kf := 65) (kz := 65) rfl (by decide +kernel) kd_11 rfl ⟨by decide, by decide⟩ rfl (by decide) rfl rfl wf_12_146 rfl (ty := tyX12 65) rfl (fun _ => ⟨rfl, rfl⟩) dX12_init_374 ?_
  refine v_aload_n (f := 0) 0 rfl dX12_init_377 ?_
  refine v_sipush ⟨by decide, by decide⟩ (by decide) dX12_init_378 ?_
  refine g_newa_long kd_205 (by decide) (show (205 : Nat) ∉ ([0, 1, 72, 2, 76, 77, 78, 79, 80, 81, 82, 83, 84, 3, 85, 86, 87, 88, 89, 90, 91, 92, 93, 94, 95, 96, 97, 98, 99, 100, 101, 102, 103, 4, 107, 108, 109, 104, 105, 106, 12, 22, 32, 52, 62, 13, 23, 33, 53, 63, 14, 24, 34, 54, 64, 15, 25, 35, 55, 65, 16, 26, 36, 56, 66, 17, 27, 37, 57, 67, 18, 28, 38, 58, 68, 19, 29, 39, 59, 69, 20, 30, 40, 60, 70, 21, 31, 41, 61, 71, 5, 110, 111, 112, 113, 114, 115, 116, 117, 118, 119, 120, 121, 122, 123, 124, 125, 6, 126, 127, 128, 129, 7, 130, 131, 132, 133, 134, 135, 136, 137, 138, 139, 140, 141, 8, 142, 143, 144, 145, 146, 9, 147, 148, 149, 150, 151, 152, 153, 154, 10, 155, 156, 157, 158, 159, 160, 161, 11] : List Nat) from by decide) (by intro i; (try simp (disch := decide) only [b_upc]); exact h0 _ (by decide) i) (by decide +kernel) (by simp [b_nr]) (by simp [b_nr]) rfl (by decide) wa_long ⟨by decide, by decide⟩ dX12_init_381 ?_
  refine g_putR (kf := 66) (kz := 66) rfl (by decide +kernel) kd_11 rfl ⟨by decide, by decide⟩ rfl (by decide) rfl rfl wf_12_149 rfl (ty := tyX12 66) rfl (fun _ => ⟨rfl, rfl⟩) dX12_init_383 ?_
  refine v_aload_n (f := 0) 0 rfl dX12_init_386 ?_
  refine v_sipush ⟨by decide, by decide⟩ (by decide) dX12_init_387 ?_
  refine g_newa_int kd_206 (by decide) (show (206 : Nat) ∉ ([0, 1, 72, 2, 76, 77, 78, 79, 80, 81, 82, 83, 84, 3, 85, 86, 87, 88, 89, 90, 91, 92, 93, 94, 95, 96, 97, 98, 99, 100, 101, 102, 103, 4, 107, 108, 109, 104, 105, 106, 12, 22, 32, 52, 62, 13, 23, 33, 53, 63, 14, 24, 34, 54, 64, 15, 25, 35, 55, 65, 16, 26, 36, 56, 66, 17, 27, 37, 57, 67, 18, 28, 38, 58, 68, 19, 29, 39, 59, 69, 20, 30, 40, 60, 70, 21, 31, 41, 61, 71, 5, 110, 111, 112, 113, 114, 115, 116, 117, 118, 119, 120, 121, 122, 123, 124, 125, 6, 126, 127, 128, 129, 7, 130, 131, 132, 133, 134, 135, 136, 137, 138, 139, 140, 141, 8, 142, 143, 144, 145, 146, 9, 147, 148, 149, 150, 151, 152, 153, 154, 10, 155, 156, 157, 158, 159, 160, 161, 11] : List Nat) from by decide) (by intro i; (try simp (disch := decide) only [b_upc]); exact h0 _ (by decide) i) (by decide +kernel) (by simp [b_nr]) (by simp [b_nr]) rfl (by decide) wa_int ⟨by decide, by decide⟩ dX12_init_390 ?_
  refine g_putR (kf := 67) (kz := 67) rfl (by decide +kernel) kd_11 rfl ⟨by decide, by decide⟩ rfl (by decide) rfl rfl wf_12_152 rfl (ty := tyX12 67) rfl (fun _ => ⟨rfl, rfl⟩) dX12_init_392 ?_
  refine v_aload_n (f := 0) 0 rfl dX12_init_395 ?_
  refine v_bipush ⟨by decide, by decide⟩ (by decide) dX12_init_396 ?_
  refine g_newa_int kd_207 (by decide) (show (207 : Nat) ∉ ([0, 1, 72, 2, 76, 77, 78, 79, 80, 81, 82, 83, 84, 3, 85, 86, 87, 88, 89, 90, 91, 92, 93, 94, 95, 96, 97, 98, 99, 100, 101, 102, 103, 4, 107, 108, 109, 104, 105, 106, 12, 22, 32, 52, 62, 13, 23, 33, 53, 63, 14, 24, 34, 54, 64, 15, 25, 35, 55, 65, 16, 26, 36, 56, 66, 17, 27, 37, 57, 67, 18, 28, 38, 58, 68, 19, 29, 39, 59, 69, 20, 30, 40, 60, 70, 21, 31, 41, 61, 71, 5, 110, 111, 112, 113, 114, 115, 116, 117, 118, 119, 120, 121, 122, 123, 124, 125, 6, 126, 127, 128, 129, 7, 130, 131, 132, 133, 134, 135, 136, 137, 138, 139, 140, 141, 8, 142, 143, 144, 145, 146, 9, 147, 148, 149, 150, 151, 152, 153, 154, 10, 155, 156, 157, 158, 159, 160, 161, 11] : List Nat) from by decide) (by intro i; (try simp (disch := decide) only [b_upc]); exact h0 _ (by decide) i) (by decide +kernel) (by simp [b_nr]) (by simp [b_nr]) rfl (by decide) wa_int ⟨by decide, by decide⟩ dX12_init_398 ?_
  refine g_putR (kf := 68) (kz := 68) rfl (by decide +kernel) kd_11 rfl ⟨by decide, by decide⟩ rfl (by decide) rfl rfl wf_12_155 rfl (ty := tyX12 68) rfl (fun _ => ⟨rfl, rfl⟩) dX12_init_400 ?_
  refine v_aload_n (f := 0) 0 rfl dX12_init_403 ?_
  refine v_bipush ⟨by decide, by decide⟩ (by decide) dX12_init_404 ?_
  refine g_newa_boolean kd_208 (by decide) (show (208 : Nat) ∉ ([0, 1, 72, 2, 76, 77, 78, 79, 80, 81, 82, 83, 84, 3, 85, 86, 87, 88, 89, 90, 91, 92, 93, 94, 95, 96, 97, 98, 99, 100, 101, 102, 103, 4, 107, 108, 109, 104, 105, 106, 12, 22, 32, 52, 62, 13, 23, 33, 53, 63, 14, 24, 34, 54, 64, 15, 25, 35, 55, 65, 16, 26, 36, 56, 66, 17, 27, 37, 57, 67, 18, 28, 38, 58, 68, 19, 29, 39, 59, 69, 20, 30, 40, 60, 70, 21, 31, 41, 61, 71, 5, 110, 111, 112, 113, 114, 115, 116, 117, 118, 119, 120, 121, 122, 123, 124, 125, 6, 126, 127, 128, 129, 7, 130, 131, 132, 133, 134, 135, 136, 137, 138, 139, 140, 141, 8, 142, 143, 144, 145, 146, 9, 147, 148, 149, 150, 151, 152, 153, 154, 10, 155, 156, 157, 158, 159, 160, 161, 11] : List Nat) from by decide) (by intro i; (try simp (disch := decide) only [b_upc]); exact h0 _ (by decide) i) (by decide +kernel) (by simp [b_nr]) (by simp [b_nr]) rfl (by decide) wa_boolean ⟨by decide, by decide⟩ dX12_init_406 ?_
  refine g_putR (kf := 69) (kz := 69) rfl (by decide +kernel) kd_11 rfl ⟨by decide, by decide⟩ rfl (by decide) rfl rfl wf_12_158 rfl (ty := tyX12 69) rfl (fun _ => ⟨rfl, rfl⟩) dX12_init_408 ?_
  refine v_aload_n (f := 0) 0 rfl dX12_init_411 ?_
  refine v_bipush ⟨by decide, by decide⟩ (by decide) dX12_init_412 ?_
  refine g_newa_int kd_209 (by decide) (show (209 : Nat) ∉ ([0, 1, 72, 2, 76, 77, 78, 79, 80, 81, 82, 83, 84, 3, 85, 86, 87, 88, 89, 90, 91, 92, 93, 94, 95, 96, 97, 98, 99, 100, 101, 102, 103, 4, 107, 108, 109, 104, 105, 106, 12, 22, 32, 52, 62, 13, 23, 33, 53, 63, 14, 24, 34, 54, 64, 15, 25, 35, 55, 65, 16, 26, 36, 56, 66, 17, 27, 37, 57, 67, 18, 28, 38, 58, 68, 19, 29, 39, 59, 69, 20, 30, 40, 60, 70, 21, 31, 41, 61, 71, 5, 110, 111, 112, 113, 114, 115, 116, 117, 118, 119, 120, 121, 122, 123, 124, 125, 6, 126, 127, 128, 129, 7, 130, 131, 132, 133, 134, 135, 136, 137, 138, 139, 140, 141, 8, 142, 143, 144, 145, 146, 9, 147, 148, 149, 150, 151, 152, 153, 154, 10, 155, 156, 157, 158, 159, 160, 161, 11] : List Nat) from by decide) (by intro i; (try simp (disch := decide) only [b_upc]); exact h0 _ (by decide) i) (by decide +kernel) (by simp [b_nr]) (by simp [b_nr]) rfl (by decide) wa_int ⟨by decide, by decide⟩ dX12_init_414 ?_
  refine g_putR (kf := 70) (kz := 70) rfl (by decide +kernel) kd_11 rfl ⟨by decide, by decide⟩ rfl (by decide) rfl rfl wf_12_161 rfl (ty := tyX12 70) rfl (fun _ => ⟨rfl, rfl⟩) dX12_init_416 ?_
  refine v_aload_n (f := 0) 0 rfl dX12_init_419 ?_
  refine v_bipush ⟨by decide, by decide⟩ (by decide) dX12_init_420 ?_
  refine g_newa_int kd_210 (by decide) (show (210 : Nat) ∉ ([0, 1, 72, 2, 76, 77, 78, 79, 80, 81, 82, 83, 84, 3, 85, 86, 87, 88, 89, 90, 91, 92, 93, 94, 95, 96, 97, 98, 99, 100, 101, 102, 103, 4, 107, 108, 109, 104, 105, 106, 12, 22, 32, 52, 62, 13, 23, 33, 53, 63, 14, 24, 34, 54, 64, 15, 25, 35, 55, 65, 16, 26, 36, 56, 66, 17, 27, 37, 57, 67, 18, 28, 38, 58, 68, 19, 29, 39, 59, 69, 20, 30, 40, 60, 70, 21, 31, 41, 61, 71, 5, 110, 111, 112, 113, 114, 115, 116, 117, 118, 119, 120, 121, 122, 123, 124, 125, 6, 126, 127, 128, 129, 7, 130, 131, 132, 133, 134, 135, 136, 137, 138, 139, 140, 141, 8, 142, 143, 144, 145, 146, 9, 147, 148, 149, 150, 151, 152, 153, 154, 10, 155, 156, 157, 158, 159, 160, 161, 11] : List Nat) from by decide) (by intro i; (try simp (disch := decide) only [b_upc]); exact h0 _ (by decide) i) (by decide +kernel) (by simp [b_nr]) (by simp [b_nr]) rfl (by decide) wa_int ⟨by decide, by decide⟩ dX12_init_422 ?_
  refine g_putR (kf := 71) (kz := 71) rfl (by decide +kernel) kd_11 rfl ⟨by decide, by decide⟩ rfl (by decide) rfl rfl wf_12_164 rfl (ty := tyX12 71) rfl (fun _ => ⟨rfl, rfl⟩) dX12_init_424 ?_
  refine v_aload_n (f := 0) 0 rfl dX12_init_427 ?_
  refine v_bipush ⟨by decide, by decide⟩ (by decide) dX12_init_428 ?_
  refine g_newa_int kd_211 (by decide) (show (211 : Nat) ∉ ([0, 1, 72, 2, 76, 77, 78, 79, 80, 81, 82, 83, 84, 3, 85, 86, 87, 88, 89, 90, 91, 92, 93, 94, 95, 96, 97, 98, 99, 100, 101, 102, 103, 4, 107, 108, 109, 104, 105, 106, 12, 22, 32, 52, 62, 13, 23, 33, 53, 63, 14, 24, 34, 54, 64, 15, 25, 35, 55, 65, 16, 26, 36, 56, 66, 17, 27, 37, 57, 67, 18, 28, 38, 58, 68, 19, 29, 39, 59, 69, 20, 30, 40, 60, 70, 21, 31, 41, 61, 71, 5, 110, 111, 112, 113, 114, 115, 116, 117, 118, 119, 120, 121, 122, 123, 124, 125, 6, 126, 127, 128, 129, 7, 130, 131, 132, 133, 134, 135, 136, 137, 138, 139, 140, 141, 8, 142, 143, 144, 145, 146, 9, 147, 148, 149, 150, 151, 152, 153, 154, 10, 155, 156, 157, 158, 159, 160, 161, 11] : List Nat) from by decide) (by intro i; (try simp (disch := decide) only [b_upc]); exact h0 _ (by decide) i) (by decide +kernel) (by simp [b_nr]) (by simp [b_nr]) rfl (by decide) wa_int ⟨by decide, by decide⟩ dX12_init_430 ?_
  refine g_putR (kf := 72) (kz := 72) rfl (by decide +kernel) kd_11 rfl ⟨by decide, by decide⟩ rfl (by decide) rfl rfl wf_12_167 rfl (ty := tyX12 72) rfl (fun _ => ⟨rfl, rfl⟩) dX12_init_432 ?_
  refine v_aload_n (f := 0) 0 rfl dX12_init_435 ?_
  refine v_bipush ⟨by decide, by decide⟩ (by decide) dX12_init_436 ?_
  refine g_newa_int kd_212 (by decide) (show (212 : Nat) ∉ ([0, 1, 72, 2, 76, 77, 78, 79, 80, 81, 82, 83, 84, 3, 85, 86, 87, 88, 89, 90, 91, 92, 93, 94, 95, 96, 97, 98, 99, 100, 101, 102, 103, 4, 107, 108, 109, 104, 105, 106, 12, 22, 32, 52, 62, 13, 23, 33, 53, 63, 14, 24, 34, 54, 64, 15, 25, 35, 55, 65, 16, 26, 36, 56, 66, 17, 27, 37, 57, 67, 18, 28, 38, 58, 68, 19, 29, 39, 59, 69, 20, 30, 40, 60, 70, 21, 31, 41, 61, 71, 5, 110, 111, 112, 113, 114, 115, 116, 117, 118, 119, 120, 121, 122, 123, 124, 125, 6, 126, 127, 128, 129, 7, 130, 131, 132, 133, 134, 135, 136, 137, 138, 139, 140, 141, 8, 142, 143, 144, 145, 146, 9, 147, 148, 149, 150, 151, 152, 153, 154, 10, 155, 156, 157, 158, 159, 160, 161, 11] : List Nat) from by decide) (by intro i; (try simp (disch := decide) only [b_upc]); exact h0 _ (by decide) i) (by decide +kernel) (by simp [b_nr]) (by simp [b_nr]) rfl (by decide) wa_int ⟨by decide, by decide⟩ dX12_init_438 ?_
  refine g_putR (kf := 73) (kz := 73) rfl (by decide +kernel) kd_11 rfl ⟨by decide, by decide⟩ rfl (by decide) rfl rfl wf_12_170 rfl (ty := tyX12 73) rfl (fun _ => ⟨rfl, rfl⟩) dX12_init_440 ?_
  refine v_aload_n (f := 0) 0 rfl dX12_init_443 ?_
  refine v_bipush ⟨by decide, by decide⟩ (by decide) dX12_init_444 ?_
  refine g_newa_int kd_213 (by decide) (show (213 : Nat) ∉ ([0, 1, 72, 2, 76, 77, 78, 79, 80, 81, 82, 83, 84, 3, 85, 86, 87, 88, 89, 90, 91, 92, 93, 94, 95, 96, 97, 98, 99, 100, 101, 102, 103, 4, 107, 108, 109, 104, 105, 106, 12, 22, 32, 52, 62, 13, 23, 33, 53, 63, 14, 24, 34, 54, 64, 15, 25, 35, 55, 65, 16, 26, 36, 56, 66, 17, 27, 37, 57, 67, 18, 28, 38, 58, 68, 19, 29, 39, 59, 69, 20, 30, 40, 60, 70, 21, 31, 41, 61, 71, 5, 110, 111, 112, 113, 114, 115, 116, 117, 118, 119, 120, 121, 122, 123, 124, 125, 6, 126, 127, 128, 129, 7, 130, 131, 132, 133, 134, 135, 136, 137, 138, 139, 140, 141, 8, 142, 143, 144, 145, 146, 9, 147, 148, 149, 150, 151, 152, 153, 154, 10, 155, 156, 157, 158, 159, 160, 161, 11] : List Nat) from by decide) (by intro i; (try simp (disch := decide) only [b_upc]); exact h0 _ (by decide) i) (by decide +kernel) (by simp [b_nr]) (by simp [b_nr]) rfl (by decide) wa_int ⟨by decide, by decide⟩ dX12_init_446 ?_
  refine g_putR (kf := 74) (kz := 74) rfl (by decide +kernel) kd_11 rfl ⟨by decide, by decide⟩ rfl (by decide) rfl rfl wf_12_173 rfl (ty := tyX12 74) rfl (fun _ => ⟨rfl, rfl⟩) dX12_init_448 ?_
  refine v_aload_n (f := 0) 0 rfl dX12_init_451 ?_
  refine v_bipush ⟨by decide, by decide⟩ (by decide) dX12_init_452 ?_
  refine g_newa_boolean kd_214 (by decide) (show (214 : Nat) ∉ ([0, 1, 72, 2, 76, 77, 78, 79, 80, 81, 82, 83, 84, 3, 85, 86, 87, 88, 89, 90, 91, 92, 93, 94, 95, 96, 97, 98, 99, 100, 101, 102, 103, 4, 107, 108, 109, 104, 105, 106, 12, 22, 32, 52, 62, 13, 23, 33, 53, 63, 14, 24, 34, 54, 64, 15, 25, 35, 55, 65, 16, 26, 36, 56, 66, 17, 27, 37, 57, 67, 18, 28, 38, 58, 68, 19, 29, 39, 59, 69, 20, 30, 40, 60, 70, 21, 31, 41, 61, 71, 5, 110, 111, 112, 113, 114, 115, 116, 117, 118, 119, 120, 121, 122, 123, 124, 125, 6, 126, 127, 128, 129, 7, 130, 131, 132, 133, 134, 135, 136, 137, 138, 139, 140, 141, 8, 142, 143, 144, 145, 146, 9, 147, 148, 149, 150, 151, 152, 153, 154, 10, 155, 156, 157, 158, 159, 160, 161, 11] : List Nat) from by decide) (by intro i; (try simp (disch := decide) only [b_upc]); exact h0 _ (by decide) i) (by decide +kernel) (by simp [b_nr]) (by simp [b_nr]) rfl (by decide) wa_boolean ⟨by decide, by decide⟩ dX12_init_454 ?_
  refine g_putR (kf := 75) (kz := 75) rfl (by decide +kernel) kd_11 rfl ⟨by decide, by decide⟩ rfl (by decide) rfl rfl wf_12_176 rfl (ty := tyX12 75) rfl (fun _ => ⟨rfl, rfl⟩) dX12_init_456 ?_
  refine v_aload_n (f := 0) 0 rfl dX12_init_459 ?_
  refine v_bipush ⟨by decide, by decide⟩ (by decide) dX12_init_460 ?_
  refine g_newa_int kd_215 (by decide) (show (215 : Nat) ∉ ([0, 1, 72, 2, 76, 77, 78, 79, 80, 81, 82, 83, 84, 3, 85, 86, 87, 88, 89, 90, 91, 92, 93, 94, 95, 96, 97, 98, 99, 100, 101, 102, 103, 4, 107, 108, 109, 104, 105, 106, 12, 22, 32, 52, 62, 13, 23, 33, 53, 63, 14, 24, 34, 54, 64, 15, 25, 35, 55, 65, 16, 26, 36, 56, 66, 17, 27, 37, 57, 67, 18, 28, 38, 58, 68, 19, 29, 39, 59, 69, 20, 30, 40, 60, 70, 21, 31, 41, 61, 71, 5, 110, 111, 112, 113, 114, 115, 116, 117, 118, 119, 120, 121, 122, 123, 124, 125, 6, 126, 127, 128, 129, 7, 130, 131, 132, 133, 134, 135, 136, 137, 138, 139, 140, 141, 8, 142, 143, 144, 145, 146, 9, 147, 148, 149, 150, 151, 152, 153, 154, 10, 155, 156, 157, 158, 159, 160, 161, 11] : List Nat) from by decide) (by intro i; (try simp (disch := decide) only [b_upc]); exact h0 _ (by decide) i) (by decide +kernel) (by simp [b_nr]) (by simp [b_nr]) rfl (by decide) wa_int ⟨by decide, by decide⟩ dX12_init_462 ?_
  refine g_putR (kf := 76) (kz := 76) rfl (by decide +kernel) kd_11 rfl ⟨by decide, by decide⟩ rfl (by decide) rfl rfl wf_12_179 rfl (ty := tyX12 76) rfl (fun _ => ⟨rfl, rfl⟩) dX12_init_464 ?_
  refine v_aload_n (f := 0) 0 rfl dX12_init_467 ?_
  refine v_bipush ⟨by decide, by decide⟩ (by decide) dX12_init_468 ?_
  refine g_newa_int kd_216 (by decide) (show (216 : Nat) ∉ ([0, 1, 72, 2, 76, 77, 78, 79, 80, 81, 82, 83, 84, 3, 85, 86, 87, 88, 89, 90, 91, 92, 93, 94, 95, 96, 97, 98, 99, 100, 101, 102, 103, 4, 107, 108, 109, 104, 105, 106, 12, 22, 32, 52, 62, 13, 23, 33, 53, 63, 14, 24, 34, 54, 64, 15, 25, 35, 55, 65, 16, 26, 36, 56, 66, 17, 27, 37, 57, 67, 18, 28, 38, 58, 68, 19, 29, 39, 59, 69, 20, 30, 40, 60, 70, 21, 31, 41, 61, 71, 5, 110, 111, 112, 113, 114, 115, 116, 117, 118, 119, 120, 121, 122, 123, 124, 125, 6, 126, 127, 128, 129, 7, 130, 131, 132, 133, 134, 135, 136, 137, 138, 139, 140, 141, 8, 142, 143, 144, 145, 146, 9, 147, 148, 149, 150, 151, 152, 153, 154, 10, 155, 156, 157, 158, 159, 160, 161, 11] : List Nat) from by decide) (by intro i; (try simp (disch := decide) only [b_upc]); exact h0 _ (by decide) i) (by decide +kernel) (by simp [b_nr]) (by simp [b_nr]) rfl (by decide) wa_int ⟨by decide, by decide⟩ dX12_init_470 ?_
  refine g_putR (kf := 77) (kz := 77) rfl (by decide +kernel) kd_11 rfl ⟨by decide, by decide⟩ rfl (by decide) rfl rfl wf_12_182 rfl (ty := tyX12 77) rfl (fun _ => ⟨rfl, rfl⟩) dX12_init_472 ?_
  refine v_aload_n (f := 0) 0 rfl dX12_init_475 ?_
  refine v_bipush ⟨by decide, by decide⟩ (by decide) dX12_init_476 ?_
  refine g_newa_int kd_217 (by decide) (show (217 : Nat) ∉ ([0, 1, 72, 2, 76, 77, 78, 79, 80, 81, 82, 83, 84, 3, 85, 86, 87, 88, 89, 90, 91, 92, 93, 94, 95, 96, 97, 98, 99, 100, 101, 102, 103, 4, 107, 108, 109, 104, 105, 106, 12, 22, 32, 52, 62, 13, 23, 33, 53, 63, 14, 24, 34, 54, 64, 15, 25, 35, 55, 65, 16, 26, 36, 56, 66, 17, 27, 37, 57, 67, 18, 28, 38, 58, 68, 19, 29, 39, 59, 69, 20, 30, 40, 60, 70, 21, 31, 41, 61, 71, 5, 110, 111, 112, 113, 114, 115, 116, 117, 118, 119, 120, 121, 122, 123, 124, 125, 6, 126, 127, 128, 129, 7, 130, 131, 132, 133, 134, 135, 136, 137, 138, 139, 140, 141, 8, 142, 143, 144, 145, 146, 9, 147, 148, 149, 150, 151, 152, 153, 154, 10, 155, 156, 157, 158, 159, 160, 161, 11] : List Nat) from by decide) (by intro i; (try simp (disch := decide) only [b_upc]); exact h0 _ (by decide) i) (by decide +kernel) (by simp [b_nr]) (by simp [b_nr]) rfl (by decide) wa_int ⟨by decide, by decide⟩ dX12_init_478 ?_
  refine g_putR (kf := 78) (kz := 78) rfl (by decide +kernel) kd_11 rfl ⟨by decide, by decide⟩ rfl (by decide) rfl rfl wf_12_185 rfl (ty := tyX12 78) rfl (fun _ => ⟨rfl, rfl⟩) dX12_init_480 ?_
  refine v_aload_n (f := 0) 0 rfl dX12_init_483 ?_
  refine v_bipush ⟨by decide, by decide⟩ (by decide) dX12_init_484 ?_
  refine g_newa_int kd_218 (by decide) (show (218 : Nat) ∉ ([0, 1, 72, 2, 76, 77, 78, 79, 80, 81, 82, 83, 84, 3, 85, 86, 87, 88, 89, 90, 91, 92, 93, 94, 95, 96, 97, 98, 99, 100, 101, 102, 103, 4, 107, 108, 109, 104, 105, 106, 12, 22, 32, 52, 62, 13, 23, 33, 53, 63, 14, 24, 34, 54, 64, 15, 25, 35, 55, 65, 16, 26, 36, 56, 66, 17, 27, 37, 57, 67, 18, 28, 38, 58, 68, 19, 29, 39, 59, 69, 20, 30, 40, 60, 70, 21, 31, 41, 61, 71, 5, 110, 111, 112, 113, 114, 115, 116, 117, 118, 119, 120, 121, 122, 123, 124, 125, 6, 126, 127, 128, 129, 7, 130, 131, 132, 133, 134, 135, 136, 137, 138, 139, 140, 141, 8, 142, 143, 144, 145, 146, 9, 147, 148, 149, 150, 151, 152, 153, 154, 10, 155, 156, 157, 158, 159, 160, 161, 11] : List Nat) from by decide) (by intro i; (try simp (disch := decide) only [b_upc]); exact h0 _ (by decide) i) (by decide +kernel) (by simp [b_nr]) (by simp [b_nr]) rfl (by decide) wa_int ⟨by decide, by decide⟩ dX12_init_486 ?_
  refine g_putR (kf := 79) (kz := 79) rfl (by decide +kernel) kd_11 rfl ⟨by decide, by decide⟩ rfl (by decide) rfl rfl wf_12_188 rfl (ty := tyX12 79) rfl (fun _ => ⟨rfl, rfl⟩) dX12_init_488 ?_
  refine v_aload_n (f := 0) 0 rfl dX12_init_491 ?_
  refine v_bipush ⟨by decide, by decide⟩ (by decide) dX12_init_492 ?_
  refine g_newa_int kd_219 (by decide) (show (219 : Nat) ∉ ([0, 1, 72, 2, 76, 77, 78, 79, 80, 81, 82, 83, 84, 3, 85, 86, 87, 88, 89, 90, 91, 92, 93, 94, 95, 96, 97, 98, 99, 100, 101, 102, 103, 4, 107, 108, 109, 104, 105, 106, 12, 22, 32, 52, 62, 13, 23, 33, 53, 63, 14, 24, 34, 54, 64, 15, 25, 35, 55, 65, 16, 26, 36, 56, 66, 17, 27, 37, 57, 67, 18, 28, 38, 58, 68, 19, 29, 39, 59, 69, 20, 30, 40, 60, 70, 21, 31, 41, 61, 71, 5, 110, 111, 112, 113, 114, 115, 116, 117, 118, 119, 120, 121, 122, 123, 124, 125, 6, 126, 127, 128, 129, 7, 130, 131, 132, 133, 134, 135, 136, 137, 138, 139, 140, 141, 8, 142, 143, 144, 145, 146, 9, 147, 148, 149, 150, 151, 152, 153, 154, 10, 155, 156, 157, 158, 159, 160, 161, 11] : List Nat) from by decide) (by intro i; (try simp (disch := decide) only [b_upc]); exact h0 _ (by decide) i) (by decide +kernel) (by simp [b_nr]) (by simp [b_nr]) rfl (by decide) wa_int ⟨by decide, by decide⟩ dX12_init_494 ?_
  refine g_putR (kf := 88) (kz := 88) rfl (by decide +kernel) kd_11 rfl ⟨by decide, by decide⟩ rfl (by decide) rfl rfl wf_12_191 rfl (ty := tyX12 88) rfl (fun _ => ⟨rfl, rfl⟩) dX12_init_496 ?_
  refine v_aload_n (f := 0) 0 rfl dX12_init_499 ?_
  refine v_sipush ⟨by decide, by decide⟩ (by decide) dX12_init_500 ?_
  refine g_newa_int kd_220 (by decide) (show (220 : Nat) ∉ ([0, 1, 72, 2, 76, 77, 78, 79, 80, 81, 82, 83, 84, 3, 85, 86, 87, 88, 89, 90, 91, 92, 93, 94, 95, 96, 97, 98, 99, 100, 101, 102, 103, 4, 107, 108, 109, 104, 105, 106, 12, 22, 32, 52, 62, 13, 23, 33, 53, 63, 14, 24, 34, 54, 64, 15, 25, 35, 55, 65, 16, 26, 36, 56, 66, 17, 27, 37, 57, 67, 18, 28, 38, 58, 68, 19, 29, 39, 59, 69, 20, 30, 40, 60, 70, 21, 31, 41, 61, 71, 5, 110, 111, 112, 113, 114, 115, 116, 117, 118, 119, 120, 121, 122, 123, 124, 125, 6, 126, 127, 128, 129, 7, 130, 131, 132, 133, 134, 135, 136, 137, 138, 139, 140, 141, 8, 142, 143, 144, 145, 146, 9, 147, 148, 149, 150, 151, 152, 153, 154, 10, 155, 156, 157, 158, 159, 160, 161, 11] : List Nat) from by decide) (by intro i; (try simp (disch := decide) only [b_upc]); exact h0 _ (by decide) i) (by decide +kernel) (by simp [b_nr]) (by simp [b_nr]) rfl (by decide) wa_int ⟨by decide, by decide⟩ dX12_init_503 ?_
  refine g_putR (kf := 89) (kz := 89) rfl (by decide +kernel) kd_11 rfl ⟨by decide, by decide⟩ rfl (by decide) rfl rfl wf_12_194 rfl (ty := tyX12 89) rfl (fun _ => ⟨rfl, rfl⟩) dX12_init_505 ?_
  refine v_aload_n (f := 0) 0 rfl dX12_init_508 ?_
  refine v_sipush ⟨by decide, by decide⟩ (by decide) dX12_init_509 ?_
  refine g_newa_boolean kd_221 (by decide) (show (221 : Nat) ∉ ([0, 1, 72, 2, 76, 77, 78, 79, 80, 81, 82, 83, 84, 3, 85, 86, 87, 88, 89, 90, 91, 92, 93, 94, 95, 96, 97, 98, 99, 100, 101, 102, 103, 4, 107, 108, 109, 104, 105, 106, 12, 22, 32, 52, 62, 13, 23, 33, 53, 63, 14, 24, 34, 54, 64, 15, 25, 35, 55, 65, 16, 26, 36, 56, 66, 17, 27, 37, 57, 67, 18, 28, 38, 58, 68, 19, 29, 39, 59, 69, 20, 30, 40, 60, 70, 21, 31, 41, 61, 71, 5, 110, 111, 112, 113, 114, 115, 116, 117, 118, 119, 120, 121, 122, 123, 124, 125, 6, 126, 127, 128, 129, 7, 130, 131, 132, 133, 134, 135, 136, 137, 138, 139, 140, 141, 8, 142, 143, 144, 145, 146, 9, 147, 148, 149, 150, 151, 152, 153, 154, 10, 155, 156, 157, 158, 159, 160, 161, 11] : List Nat) from by decide) (by intro i; (try simp (disch := decide) only [b_upc]); exact h0 _ (by decide) i) (by decide +kernel) (by simp [b_nr]) (by simp [b_nr]) rfl (by decide) wa_boolean ⟨by decide, by decide⟩ dX12_init_512 ?_
  refine g_putR (kf := 90) (kz := 90) rfl (by decide +kernel) kd_11 rfl ⟨by decide, by decide⟩ rfl (by decide) rfl rfl wf_12_197 rfl (ty := tyX12 90) rfl (fun _ => ⟨rfl, rfl⟩) dX12_init_514 ?_
  refine v_aload_n (f := 0) 0 rfl dX12_init_517 ?_
  refine v_sipush ⟨by decide, by decide⟩ (by decide) dX12_init_518 ?_
  refine g_newa_boolean kd_222 (by decide) (show (222 : Nat) ∉ ([0, 1, 72, 2, 76, 77, 78, 79, 80, 81, 82, 83, 84, 3, 85, 86, 87, 88, 89, 90, 91, 92, 93, 94, 95, 96, 97, 98, 99, 100, 101, 102, 103, 4, 107, 108, 109, 104, 105, 106, 12, 22, 32, 52, 62, 13, 23, 33, 53, 63, 14, 24, 34, 54, 64, 15, 25, 35, 55, 65, 16, 26, 36, 56, 66, 17, 27, 37, 57, 67, 18, 28, 38, 58, 68, 19, 29, 39, 59, 69, 20, 30, 40, 60, 70, 21, 31, 41, 61, 71, 5, 110, 111, 112, 113, 114, 115, 116, 117, 118, 119, 120, 121, 122, 123, 124, 125, 6, 126, 127, 128, 129, 7, 130, 131, 132, 133, 134, 135, 136, 137, 138, 139, 140, 141, 8, 142, 143, 144, 145, 146, 9, 147, 148, 149, 150, 151, 152, 153, 154, 10, 155, 156, 157, 158, 159, 160, 161, 11] : List Nat) from by decide) (by intro i; (try simp (disch := decide) only [b_upc]); exact h0 _ (by decide) i) (by decide +kernel) (by simp [b_nr]) (by simp [b_nr]) rfl (by decide) wa_boolean ⟨by decide, by decide⟩ dX12_init_521 ?_
  refine g_putR (kf := 91) (kz := 91) rfl (by decide +kernel) kd_11 rfl ⟨by decide, by decide⟩ rfl (by decide) rfl rfl wf_12_200 rfl (ty := tyX12 91) rfl (fun _ => ⟨rfl, rfl⟩) dX12_init_523 ?_
  refine v_aload_n (f := 0) 0 rfl dX12_init_526 ?_
  refine v_bipush ⟨by decide, by decide⟩ (by decide) dX12_init_527 ?_
  refine g_newa_boolean kd_223 (by decide) (show (223 : Nat) ∉ ([0, 1, 72, 2, 76, 77, 78, 79, 80, 81, 82, 83, 84, 3, 85, 86, 87, 88, 89, 90, 91, 92, 93, 94, 95, 96, 97, 98, 99, 100, 101, 102, 103, 4, 107, 108, 109, 104, 105, 106, 12, 22, 32, 52, 62, 13, 23, 33, 53, 63, 14, 24, 34, 54, 64, 15, 25, 35, 55, 65, 16, 26, 36, 56, 66, 17, 27, 37, 57, 67, 18, 28, 38, 58, 68, 19, 29, 39, 59, 69, 20, 30, 40, 60, 70, 21, 31, 41, 61, 71, 5, 110, 111, 112, 113, 114, 115, 116, 117, 118, 119, 120, 121, 122, 123, 124, 125, 6, 126, 127, 128, 129, 7, 130, 131, 132, 133, 134, 135, 136, 137, 138, 139, 140, 141, 8, 142, 143, 144, 145, 146, 9, 147, 148, 149, 150, 151, 152, 153, 154, 10, 155, 156, 157, 158, 159, 160, 161, 11] : List Nat) from by decide) (by intro i; (try simp (disch := decide) only [b_upc]); exact h0 _ (by decide) i) (by decide +kernel) (by simp [b_nr]) (by simp [b_nr]) rfl (by decide) wa_boolean ⟨by decide, by decide⟩ dX12_init_529 ?_
  refine g_putR (kf := 92) (kz := 92) rfl (by decide +kernel) kd_11 rfl ⟨by decide, by decide⟩ rfl (by decide) rfl rfl wf_12_203 rfl (ty := tyX12 92) rfl (fun _ => ⟨rfl, rfl⟩) dX12_init_531 ?_
  refine v_aload_n (f := 0) 0 rfl dX12_init_534 ?_
  refine v_bipush ⟨by decide, by decide⟩ (by decide) dX12_init_535 ?_
  refine g_newa_int kd_224 (by decide) (show (224 : Nat) ∉ ([0, 1, 72, 2, 76, 77, 78, 79, 80, 81, 82, 83, 84, 3, 85, 86, 87, 88, 89, 90, 91, 92, 93, 94, 95, 96, 97, 98, 99, 100, 101, 102, 103, 4, 107, 108, 109, 104, 105, 106, 12, 22, 32, 52, 62, 13, 23, 33, 53, 63, 14, 24, 34, 54, 64, 15, 25, 35, 55, 65, 16, 26, 36, 56, 66, 17, 27, 37, 57, 67, 18, 28, 38, 58, 68, 19, 29, 39, 59, 69, 20, 30, 40, 60, 70, 21, 31, 41, 61, 71, 5, 110, 111, 112, 113, 114, 115, 116, 117, 118, 119, 120, 121, 122, 123, 124, 125, 6, 126, 127, 128, 129, 7, 130, 131, 132, 133, 134, 135, 136, 137, 138, 139, 140, 141, 8, 142, 143, 144, 145, 146, 9, 147, 148, 149, 150, 151, 152, 153, 154, 10, 155, 156, 157, 158, 159, 160, 161, 11] : List Nat) from by decide) (by intro i; (try simp (disch := decide) only [b_upc]); exact h0 _ (by decide) i) (by decide +kernel) (by simp [b_nr]) (by simp [b_nr]) rfl (by decide) wa_int ⟨by decide, by decide⟩ dX12_init_537 ?_
  refine g_putR (kf := 98) (kz := 98) rfl (by decide +kernel) kd_11 rfl ⟨by decide, by decide⟩ rfl (by decide) rfl rfl wf_12_206 rfl (ty := tyX12 98) rfl (fun _ => ⟨rfl, rfl⟩) dX12_init_539 ?_
  refine v_aload_n (f := 0) 0 rfl dX12_init_542 ?_
  refine v_bipush ⟨by decide, by decide⟩ (by decide) dX12_init_543 ?_
  refine g_newa_int kd_225 (by decide) (show (225 : Nat) ∉ ([0, 1, 72, 2, 76, 77, 78, 79, 80, 81, 82, 83, 84, 3, 85, 86, 87, 88, 89, 90, 91, 92, 93, 94, 95, 96, 97, 98, 99, 100, 101, 102, 103, 4, 107, 108, 109, 104, 105, 106, 12, 22, 32, 52, 62, 13, 23, 33, 53, 63, 14, 24, 34, 54, 64, 15, 25, 35, 55, 65, 16, 26, 36, 56, 66, 17, 27, 37, 57, 67, 18, 28, 38, 58, 68, 19, 29, 39, 59, 69, 20, 30, 40, 60, 70, 21, 31, 41, 61, 71, 5, 110, 111, 112, 113, 114, 115, 116, 117, 118, 119, 120, 121, 122, 123, 124, 125, 6, 126, 127, 128, 129, 7, 130, 131, 132, 133, 134, 135, 136, 137, 138, 139, 140, 141, 8, 142, 143, 144, 145, 146, 9, 147, 148, 149, 150, 151, 152, 153, 154, 10, 155, 156, 157, 158, 159, 160, 161, 11] : List Nat) from by decide) (by intro i; (try simp (disch := decide) only [b_upc]); exact h0 _ (by decide) i) (by decide +kernel) (by simp [b_nr]) (by simp [b_nr]) rfl (by decide) wa_int ⟨by decide, by decide⟩ dX12_init_545 ?_
  refine g_putR (kf := 100) (kz := 100) rfl (by decide +kernel) kd_11 rfl ⟨by decide, by decide⟩ rfl (by decide) rfl rfl wf_12_209 rfl (ty := tyX12 100) rfl (fun _ => ⟨rfl, rfl⟩) dX12_init_547 ?_
  refine v_aload_n (f := 0) 0 rfl dX12_init_550 ?_
  refine v_bipush ⟨by decide, by decide⟩ (by decide) dX12_init_551 ?_
  refine g_newa_int kd_226 (by decide) (show (226 : Nat) ∉ ([0, 1, 72, 2, 76, 77, 78, 79, 80, 81, 82, 83, 84, 3, 85, 86, 87, 88, 89, 90, 91, 92, 93, 94, 95, 96, 97, 98, 99, 100, 101, 102, 103, 4, 107, 108, 109, 104, 105, 106, 12, 22, 32, 52, 62, 13, 23, 33, 53, 63, 14, 24, 34, 54, 64, 15, 25, 35, 55, 65, 16, 26, 36, 56, 66, 17, 27, 37, 57, 67, 18, 28, 38, 58, 68, 19, 29, 39, 59, 69, 20, 30, 40, 60, 70, 21, 31, 41, 61, 71, 5, 110, 111, 112, 113, 114, 115, 116, 117, 118, 119, 120, 121, 122, 123, 124, 125, 6, 126, 127, 128, 129, 7, 130, 131, 132, 133, 134, 135, 136, 137, 138, 139, 140, 141, 8, 142, 143, 144, 145, 146, 9, 147, 148, 149, 150, 151, 152, 153, 154, 10, 155, 156, 157, 158, 159, 160, 161, 11] : List Nat) from by decide) (by intro i; (try simp (disch := decide) only [b_upc]); exact h0 _ (by decide) i) (by decide +kernel) (by simp [b_nr]) (by simp [b_nr]) rfl (by decide) wa_int ⟨by decide, by decide⟩ dX12_init_553 ?_
  refine g_putR (kf := 101) (kz := 101) rfl (by decide +kernel) kd_11 rfl ⟨by decide, by decide⟩ rfl (by decide) rfl rfl wf_12_212 rfl (ty := tyX12 101) rfl (fun _ => ⟨rfl, rfl⟩) dX12_init_555 ?_
  refine v_aload_n (f := 0) 0 rfl dX12_init_558 ?_
  refine v_bipush ⟨by decide, by decide⟩ (by decide) dX12_init_559 ?_
  refine g_newa_int kd_227 (by decide) (show (227 : Nat) ∉ ([0, 1, 72, 2, 76, 77, 78, 79, 80, 81, 82, 83, 84, 3, 85, 86, 87, 88, 89, 90, 91, 92, 93, 94, 95, 96, 97, 98, 99, 100, 101, 102, 103, 4, 107, 108, 109, 104, 105, 106, 12, 22, 32, 52, 62, 13, 23, 33, 53, 63, 14, 24, 34, 54, 64, 15, 25, 35, 55, 65, 16, 26, 36, 56, 66, 17, 27, 37, 57, 67, 18, 28, 38, 58, 68, 19, 29, 39, 59, 69, 20, 30, 40, 60, 70, 21, 31, 41, 61, 71, 5, 110, 111, 112, 113, 114, 115, 116, 117, 118, 119, 120, 121, 122, 123, 124, 125, 6, 126, 127, 128, 129, 7, 130, 131, 132, 133, 134, 135, 136, 137, 138, 139, 140, 141, 8, 142, 143, 144, 145, 146, 9, 147, 148, 149, 150, 151, 152, 153, 154, 10, 155, 156, 157, 158, 159, 160, 161, 11] : List Nat) from by decide) (by intro i; (try simp (disch := decide) only [b_upc]); exact h0 _ (by decide) i) (by decide +kernel) (by simp [b_nr]) (by simp [b_nr]) rfl (by decide) wa_int ⟨by decide, by decide⟩ dX12_init_561 ?_
  refine g_putR (kf := 102) (kz := 102) rfl (by decide +kernel) kd_11 rfl ⟨by decide, by decide⟩ rfl (by decide) rfl rfl wf_12_215 rfl (ty := tyX12 102) rfl (fun _ => ⟨rfl, rfl⟩) dX12_init_563 ?_
  refine v_aload_n (f := 0) 0 rfl dX12_init_566 ?_
  refine v_bipush ⟨by decide, by decide⟩ (by decide) dX12_init_567 ?_
  refine g_newa_int kd_228 (by decide) (show (228 : Nat) ∉ ([0, 1, 72, 2, 76, 77, 78, 79, 80, 81, 82, 83, 84, 3, 85, 86, 87, 88, 89, 90, 91, 92, 93, 94, 95, 96, 97, 98, 99, 100, 101, 102, 103, 4, 107, 108, 109, 104, 105, 106, 12, 22, 32, 52, 62, 13, 23, 33, 53, 63, 14, 24, 34, 54, 64, 15, 25, 35, 55, 65, 16, 26, 36, 56, 66, 17, 27, 37, 57, 67, 18, 28, 38, 58, 68, 19, 29, 39, 59, 69, 20, 30, 40, 60, 70, 21, 31, 41, 61, 71, 5, 110, 111, 112, 113, 114, 115, 116, 117, 118, 119, 120, 121, 122, 123, 124, 125, 6, 126, 127, 128, 129, 7, 130, 131, 132, 133, 134, 135, 136, 137, 138, 139, 140, 141, 8, 142, 143, 144, 145, 146, 9, 147, 148, 149, 150, 151, 152, 153, 154, 10, 155, 156, 157, 158, 159, 160, 161, 11] : List Nat) from by decide) (by intro i; (try simp (disch := decide) only [b_upc]); exact h0 _ (by decide) i) (by decide +kernel) (by simp [b_nr]) (by simp [b_nr]) rfl (by decide) wa_int ⟨by decide, by decide⟩ dX12_init_569 ?_
  refine g_putR (kf := 103) (kz := 103) rfl (by decide +kernel) kd_11 rfl ⟨by decide, by decide⟩ rfl (by decide) rfl rfl wf_12_218 rfl (ty := tyX12 103) rfl (fun _ => ⟨rfl, rfl⟩) dX12_init_571 ?_
  refine v_aload_n (f := 0) 0 rfl dX12_init_574 ?_
  refine v_bipush ⟨by decide, by decide⟩ (by decide) dX12_init_575 ?_
  refine g_newa_int kd_229 (by decide) (show (229 : Nat) ∉ ([0, 1, 72, 2, 76, 77, 78, 79, 80, 81, 82, 83, 84, 3, 85, 86, 87, 88, 89, 90, 91, 92, 93, 94, 95, 96, 97, 98, 99, 100, 101, 102, 103, 4, 107, 108, 109, 104, 105, 106, 12, 22, 32, 52, 62, 13, 23, 33, 53, 63, 14, 24, 34, 54, 64, 15, 25, 35, 55, 65, 16, 26, 36, 56, 66, 17, 27, 37, 57, 67, 18, 28, 38, 58, 68, 19, 29, 39, 59, 69, 20, 30, 40, 60, 70, 21, 31, 41, 61, 71, 5, 110, 111, 112, 113, 114, 115, 116, 117, 118, 119, 120, 121, 122, 123, 124, 125, 6, 126, 127, 128, 129, 7, 130, 131, 132, 133, 134, 135, 136, 137, 138, 139, 140, 141, 8, 142, 143, 144, 145, 146, 9, 147, 148, 149, 150, 151, 152, 153, 154, 10, 155, 156, 157, 158, 159, 160, 161, 11] : List Nat) from by decide) (by intro i; (try simp (disch := decide) only [b_upc]); exact h0 _ (by decide) i) (by decide +kernel) (by simp [b_nr]) (by simp [b_nr]) rfl (by decide) wa_int ⟨by decide, by decide⟩ dX12_init_577 ?_
  refine g_putR (kf := 104) (kz := 104) rfl (by decide +kernel) kd_11 rfl ⟨by decide, by decide⟩ rfl (by decide) rfl rfl wf_12_221 rfl (ty := tyX12 104) rfl (fun _ => ⟨rfl, rfl⟩) dX12_init_579 ?_
  refine v_aload_n (f := 0) 0 rfl dX12_init_582 ?_
  refine v_bipush ⟨by decide, by decide⟩ (by decide) dX12_init_583 ?_
  refine g_newa_int kd_230 (by decide) (show (230 : Nat) ∉ ([0, 1, 72, 2, 76, 77, 78, 79, 80, 81, 82, 83, 84, 3, 85, 86, 87, 88, 89, 90, 91, 92, 93, 94, 95, 96, 97, 98, 99, 100, 101, 102, 103, 4, 107, 108, 109, 104, 105, 106, 12, 22, 32, 52, 62, 13, 23, 33, 53, 63, 14, 24, 34, 54, 64, 15, 25, 35, 55, 65, 16, 26, 36, 56, 66, 17, 27, 37, 57, 67, 18, 28, 38, 58, 68, 19, 29, 39, 59, 69, 20, 30, 40, 60, 70, 21, 31, 41, 61, 71, 5, 110, 111, 112, 113, 114, 115, 116, 117, 118, 119, 120, 121, 122, 123, 124, 125, 6, 126, 127, 128, 129, 7, 130, 131, 132, 133, 134, 135, 136, 137, 138, 139, 140, 141, 8, 142, 143, 144, 145, 146, 9, 147, 148, 149, 150, 151, 152, 153, 154, 10, 155, 156, 157, 158, 159, 160, 161, 11] : List Nat) from by decide) (by intro i; (try simp (disch := decide) only [b_upc]); exact h0 _ (by decide) i) (by decide +kernel) (by simp [b_nr]) (by simp [b_nr]) rfl (by decide) wa_int ⟨by decide, by decide⟩ dX12_init_585 ?_
  refine g_putR (kf := 105) (kz := 105) rfl (by decide +kernel) kd_11 rfl ⟨by decide, by decide⟩ rfl (by decide) rfl rfl wf_12_224 rfl (ty := tyX12 105) rfl (fun _ => ⟨rfl, rfl⟩) dX12_init_587 ?_
  refine v_aload_n (f := 0) 0 rfl dX12_init_590 ?_
  refine v_bipush ⟨by decide, by decide⟩ (by decide) dX12_init_591 ?_
  refine g_newa_int kd_231 (by decide) (show (231 : Nat) ∉ ([0, 1, 72, 2, 76, 77, 78, 79, 80, 81, 82, 83, 84, 3, 85, 86, 87, 88, 89, 90, 91, 92, 93, 94, 95, 96, 97, 98, 99, 100, 101, 102, 103, 4, 107, 108, 109, 104, 105, 106, 12, 22, 32, 52, 62, 13, 23, 33, 53, 63, 14, 24, 34, 54, 64, 15, 25, 35, 55, 65, 16, 26, 36, 56, 66, 17, 27, 37, 57, 67, 18, 28, 38, 58, 68, 19, 29, 39, 59, 69, 20, 30, 40, 60, 70, 21, 31, 41, 61, 71, 5, 110, 111, 112, 113, 114, 115, 116, 117, 118, 119, 120, 121, 122, 123, 124, 125, 6, 126, 127, 128, 129, 7, 130, 131, 132, 133, 134, 135, 136, 137, 138, 139, 140, 141, 8, 142, 143, 144, 145, 146, 9, 147, 148, 149, 150, 151, 152, 153, 154, 10, 155, 156, 157, 158, 159, 160, 161, 11] : List Nat) from by decide) (by intro i; (try simp (disch := decide) only [b_upc]); exact h0 _ (by decide) i) (by decide +kernel) (by simp [b_nr]) (by simp [b_nr]) rfl (by decide) wa_int ⟨by decide, by decide⟩ dX12_init_593 ?_
  refine g_putR (kf := 108) (kz := 108) rfl (by decide +kernel) kd_11 rfl ⟨by decide, by decide⟩ rfl (by decide) rfl rfl wf_12_227 rfl (ty := tyX12 108) rfl (fun _ => ⟨rfl, rfl⟩) dX12_init_595 ?_
  refine v_aload_n (f := 0) 0 rfl dX12_init_598 ?_
  refine v_bipush ⟨by decide, by decide⟩ (by decide) dX12_init_599 ?_
  refine g_newa_int kd_232 (by decide) (show (232 : Nat) ∉ ([0, 1, 72, 2, 76, 77, 78, 79, 80, 81, 82, 83, 84, 3, 85, 86, 87, 88, 89, 90, 91, 92, 93, 94, 95, 96, 97, 98, 99, 100, 101, 102, 103, 4, 107, 108, 109, 104, 105, 106, 12, 22, 32, 52, 62, 13, 23, 33, 53, 63, 14, 24, 34, 54, 64, 15, 25, 35, 55, 65, 16, 26, 36, 56, 66, 17, 27, 37, 57, 67, 18, 28, 38, 58, 68, 19, 29, 39, 59, 69, 20, 30, 40, 60, 70, 21, 31, 41, 61, 71, 5, 110, 111, 112, 113, 114, 115, 116, 117, 118, 119, 120, 121, 122, 123, 124, 125, 6, 126, 127, 128, 129, 7, 130, 131, 132, 133, 134, 135, 136, 137, 138, 139, 140, 141, 8, 142, 143, 144, 145, 146, 9, 147, 148, 149, 150, 151, 152, 153, 154, 10, 155, 156, 157, 158, 159, 160, 161, 11] : List Nat) from by decide) (by intro i; (try simp (disch := decide) only [b_upc]); exact h0 _ (by decide) i) (by decide +kernel) (by simp [b_nr]) (by simp [b_nr]) rfl (by decide) wa_int ⟨by decide, by decide⟩ dX12_init_601 ?_
  refine g_putR (kf := 109) (kz := 109) rfl (by decide +kernel) kd_11 rfl ⟨by decide, by decide⟩ rfl (by decide) rfl rfl wf_12_230 rfl (ty := tyX12 109) rfl (fun _ => ⟨rfl, rfl⟩) dX12_init_603 ?_
  refine v_aload_n (f := 0) 0 rfl dX12_init_606 ?_
  refine v_bipush ⟨by decide, by decide⟩ (by decide) dX12_init_607 ?_
  refine g_newa_int kd_233 (by decide) (show (233 : Nat) ∉ ([0, 1, 72, 2, 76, 77, 78, 79, 80, 81, 82, 83, 84, 3, 85, 86, 87, 88, 89, 90, 91, 92, 93, 94, 95, 96, 97, 98, 99, 100, 101, 102, 103, 4, 107, 108, 109, 104, 105, 106, 12, 22, 32, 52, 62, 13, 23, 33, 53, 63, 14, 24, 34, 54, 64, 15, 25, 35, 55, 65, 16, 26, 36, 56, 66, 17, 27, 37, 57, 67, 18, 28, 38, 58, 68, 19, 29, 39, 59, 69, 20, 30, 40, 60, 70, 21, 31, 41, 61, 71, 5, 110, 111, 112, 113, 114, 115, 116, 117, 118, 119, 120, 121, 122, 123, 124, 125, 6, 126, 127, 128, 129, 7, 130, 131, 132, 133, 134, 135, 136, 137, 138, 139, 140, 141, 8, 142, 143, 144, 145, 146, 9, 147, 148, 149, 150, 151, 152, 153, 154, 10, 155, 156, 157, 158, 159, 160, 161, 11] : List Nat) from by decide) (by intro i; (try simp (disch := decide) only [b_upc]); exact h0 _ (by decide) i) (by decide +kernel) (by simp [b_nr]) (by simp [b_nr]) rfl (by decide) wa_int ⟨by decide, by decide⟩ dX12_init_609 ?_
  refine g_putR (kf := 110) (kz := 110) rfl (by decide +kernel) kd_11 rfl ⟨by decide, by decide⟩ rfl (by decide) rfl rfl wf_12_233 rfl (ty := tyX12 110) rfl (fun _ => ⟨rfl, rfl⟩) dX12_init_611 ?_
  refine v_aload_n (f := 0) 0 rfl dX12_init_614 ?_
  refine v_bipush ⟨by decide, by decide⟩ (by decide) dX12_init_615 ?_
  refine g_newa_int kd_234 (by decide) (show (234 : Nat) ∉ ([0, 1, 72, 2, 76, 77, 78, 79, 80, 81, 82, 83, 84, 3, 85, 86, 87, 88, 89, 90, 91, 92, 93, 94, 95, 96, 97, 98, 99, 100, 101, 102, 103, 4, 107, 108, 109, 104, 105, 106, 12, 22, 32, 52, 62, 13, 23, 33, 53, 63, 14, 24, 34, 54, 64, 15, 25, 35, 55, 65, 16, 26, 36, 56, 66, 17, 27, 37, 57, 67, 18, 28, 38, 58, 68, 19, 29, 39, 59, 69, 20, 30, 40, 60, 70, 21, 31, 41, 61, 71, 5, 110, 111, 112, 113, 114, 115, 116, 117, 118, 119, 120, 121, 122, 123, 124, 125, 6, 126, 127, 128, 129, 7, 130, 131, 132, 133, 134, 135, 136, 137, 138, 139, 140, 141, 8, 142, 143, 144, 145, 146, 9, 147, 148, 149, 150, 151, 152, 153, 154, 10, 155, 156, 157, 158, 159, 160, 161, 11] : List Nat) from by decide) (by intro i; (try simp (disch := decide) only [b_upc]); exact h0 _ (by decide) i) (by decide +kernel) (by simp [b_nr]) (by simp [b_nr]) rfl (by decide) wa_int ⟨by decide, by decide⟩ dX12_init_617 ?_
  refine g_putR (kf := 111) (kz := 111) rfl (by decide +kernel) kd_11 rfl ⟨by decide, by decide⟩ rfl (by decide) rfl rfl wf_12_236 rfl (ty := tyX12 111) rfl (fun _ => ⟨rfl, rfl⟩) dX12_init_619 ?_
  refine v_aload_n (f := 0) 0 rfl dX12_init_622 ?_
  refine v_bipush ⟨by decide, by decide⟩ (by decide) dX12_init_623 ?_
  refine g_newa_int kd_235 (by decide) (show (235 : Nat) ∉ ([0, 1, 72, 2, 76, 77, 78, 79, 80, 81, 82, 83, 84, 3, 85, 86, 87, 88, 89, 90, 91, 92, 93, 94, 95, 96, 97, 98, 99, 100, 101, 102, 103, 4, 107, 108, 109, 104, 105, 106, 12, 22, 32, 52, 62, 13, 23, 33, 53, 63, 14, 24, 34, 54, 64, 15, 25, 35, 55, 65, 16, 26, 36, 56, 66, 17, 27, 37, 57, 67, 18, 28, 38, 58, 68, 19, 29, 39, 59, 69, 20, 30, 40, 60, 70, 21, 31, 41, 61, 71, 5, 110, 111, 112, 113, 114, 115, 116, 117, 118, 119, 120, 121, 122, 123, 124, 125, 6, 126, 127, 128, 129, 7, 130, 131, 132, 133, 134, 135, 136, 137, 138, 139, 140, 141, 8, 142, 143, 144, 145, 146, 9, 147, 148, 149, 150, 151, 152, 153, 154, 10, 155, 156, 157, 158, 159, 160, 161, 11] : List Nat) from by decide) (by intro i; (try simp (disch := decide) only [b_upc]); exact h0 _ (by decide) i) (by decide +kernel) (by simp [b_nr]) (by simp [b_nr]) rfl (by decide) wa_int ⟨by decide, by decide⟩ dX12_init_625 ?_
  refine g_putR (kf := 112) (kz := 112) rfl (by decide +kernel) kd_11 rfl ⟨by decide, by decide⟩ rfl (by decide) rfl rfl wf_12_239 rfl (ty := tyX12 112) rfl (fun _ => ⟨rfl, rfl⟩) dX12_init_627 ?_
  refine v_aload_n (f := 0) 0 rfl dX12_init_630 ?_
  refine v_bipush ⟨by decide, by decide⟩ (by decide) dX12_init_631 ?_
  refine g_newa_int kd_236 (by decide) (show (236 : Nat) ∉ ([0, 1, 72, 2, 76, 77, 78, 79, 80, 81, 82, 83, 84, 3, 85, 86, 87, 88, 89, 90, 91, 92, 93, 94, 95, 96, 97, 98, 99, 100, 101, 102, 103, 4, 107, 108, 109, 104, 105, 106, 12, 22, 32, 52, 62, 13, 23, 33, 53, 63, 14, 24, 34, 54, 64, 15, 25, 35, 55, 65, 16, 26, 36, 56, 66, 17, 27, 37, 57, 67, 18, 28, 38, 58, 68, 19, 29, 39, 59, 69, 20, 30, 40, 60, 70, 21, 31, 41, 61, 71, 5, 110, 111, 112, 113, 114, 115, 116, 117, 118, 119, 120, 121, 122, 123, 124, 125, 6, 126, 127, 128, 129, 7, 130, 131, 132, 133, 134, 135, 136, 137, 138, 139, 140, 141, 8, 142, 143, 144, 145, 146, 9, 147, 148, 149, 150, 151, 152, 153, 154, 10, 155, 156, 157, 158, 159, 160, 161, 11] : List Nat) from by decide) (by intro i; (try simp (disch := decide) only [b_upc]); exact h0 _ (by decide) i) (by decide +kernel) (by simp [b_nr]) (by simp [b_nr]) rfl (by decide) wa_int ⟨by decide, by decide⟩ dX12_init_633 ?_
  refine g_putR (kf := 113) (kz := 113) rfl (by decide +kernel) kd_11 rfl ⟨by decide, by decide⟩ rfl (by decide) rfl rfl wf_12_242 rfl (ty := tyX12 113) rfl (fun _ => ⟨rfl, rfl⟩) dX12_init_635 ?_
  refine v_aload_n (f := 0) 0 rfl dX12_init_638 ?_
  refine v_bipush ⟨by decide, by decide⟩ (by decide) dX12_init_639 ?_
  refine g_newa_int kd_237 (by decide) (show (237 : Nat) ∉ ([0, 1, 72, 2, 76, 77, 78, 79, 80, 81, 82, 83, 84, 3, 85, 86, 87, 88, 89, 90, 91, 92, 93, 94, 95, 96, 97, 98, 99, 100, 101, 102, 103, 4, 107, 108, 109, 104, 105, 106, 12, 22, 32, 52, 62, 13, 23, 33, 53, 63, 14, 24, 34, 54, 64, 15, 25, 35, 55, 65, 16, 26, 36, 56, 66, 17, 27, 37, 57, 67, 18, 28, 38, 58, 68, 19, 29, 39, 59, 69, 20, 30, 40, 60, 70, 21, 31, 41, 61, 71, 5, 110, 111, 112, 113, 114, 115, 116, 117, 118, 119, 120, 121, 122, 123, 124, 125, 6, 126, 127, 128, 129, 7, 130, 131, 132, 133, 134, 135, 136, 137, 138, 139, 140, 141, 8, 142, 143, 144, 145, 146, 9, 147, 148, 149, 150, 151, 152, 153, 154, 10, 155, 156, 157, 158, 159, 160, 161, 11] : List Nat) from by decide) (by intro i; (try simp (disch := decide) only [b_upc]); exact h0 _ (by decide) i) (by decide +kernel) (by simp [b_nr]) (by simp [b_nr]) rfl (by decide) wa_int ⟨by decide, by decide⟩ dX12_init_641 ?_
  refine g_putR (kf := 114) (kz := 114) rfl (by decide +kernel) kd_11 rfl ⟨by decide, by decide⟩ rfl (by decide) rfl rfl wf_12_245 rfl (ty := tyX12 114) rfl (fun _ => ⟨rfl, rfl⟩) dX12_init_643 ?_
  refine v_aload_n (f := 0) 0 rfl dX12_init_646 ?_
  refine v_bipush ⟨by decide, by decide⟩ (by decide) dX12_init_647 ?_
  refine g_newa_int kd_238 (by decide) (show (238 : Nat) ∉ ([0, 1, 72, 2, 76, 77, 78, 79, 80, 81, 82, 83, 84, 3, 85, 86, 87, 88, 89, 90, 91, 92, 93, 94, 95, 96, 97, 98, 99, 100, 101, 102, 103, 4, 107, 108, 109, 104, 105, 106, 12, 22, 32, 52, 62, 13, 23, 33, 53, 63, 14, 24, 34, 54, 64, 15, 25, 35, 55, 65, 16, 26, 36, 56, 66, 17, 27, 37, 57, 67, 18, 28, 38, 58, 68, 19, 29, 39, 59, 69, 20, 30, 40, 60, 70, 21, 31, 41, 61, 71, 5, 110, 111, 112, 113, 114, 115, 116, 117, 118, 119, 120, 121, 122, 123, 124, 125, 6, 126, 127, 128, 129, 7, 130, 131, 132, 133, 134, 135, 136, 137, 138, 139, 140, 141, 8, 142, 143, 144, 145, 146, 9, 147, 148, 149, 150, 151, 152, 153, 154, 10, 155, 156, 157, 158, 159, 160, 161, 11] : List Nat) from by decide) (by intro i; (try simp (disch := decide) only [b_upc]); exact h0 _ (by decide) i) (by decide +kernel) (by simp [b_nr]) (by simp [b_nr]) rfl (by decide) wa_int ⟨by decide, by decide⟩ dX12_init_649 ?_
  refine g_putR (kf := 115) (kz := 115) rfl (by decide +kernel) kd_11 rfl ⟨by decide, by decide⟩ rfl (by decide) rfl rfl wf_12_248 rfl (ty := tyX12 115) rfl (fun _ => ⟨rfl, rfl⟩) dX12_init_651 ?_
  refine v_aload_n (f := 0) 0 rfl dX12_init_654 ?_
  refine v_bipush ⟨by decide, by decide⟩ (by decide) dX12_init_655 ?_
  refine g_newa_int kd_239 (by decide) (show (239 : Nat) ∉ ([0, 1, 72, 2, 76, 77, 78, 79, 80, 81, 82, 83, 84, 3, 85, 86, 87, 88, 89, 90, 91, 92, 93, 94, 95, 96, 97, 98, 99, 100, 101, 102, 103, 4, 107, 108, 109, 104, 105, 106, 12, 22, 32, 52, 62, 13, 23, 33, 53, 63, 14, 24, 34, 54, 64, 15, 25, 35, 55, 65, 16, 26, 36, 56, 66, 17, 27, 37, 57, 67, 18, 28, 38, 58, 68, 19, 29, 39, 59, 69, 20, 30, 40, 60, 70, 21, 31, 41, 61, 71, 5, 110, 111, 112, 113, 114, 115, 116, 117, 118, 119, 120, 121, 122, 123, 124, 125, 6, 126, 127, 128, 129, 7, 130, 131, 132, 133, 134, 135, 136, 137, 138, 139, 140, 141, 8, 142, 143, 144, 145, 146, 9, 147, 148, 149, 150, 151, 152, 153, 154, 10, 155, 156, 157, 158, 159, 160, 161, 11] : List Nat) from by decide) (by intro i; (try simp (disch := decide) only [b_upc]); exact h0 _ (by decide) i) (by decide +kernel) (by simp [b_nr]) (by simp [b_nr]) rfl (by decide) wa_int ⟨by decide, by decide⟩ dX12_init_657 ?_
  refine g_putR (kf := 116) (kz := 116) rfl (by decide +kernel) kd_11 rfl ⟨by decide, by decide⟩ rfl (by decide) rfl rfl wf_12_251 rfl (ty := tyX12 116) rfl (fun _ => ⟨rfl, rfl⟩) dX12_init_659 ?_
  refine v_aload_n (f := 0) 0 rfl dX12_init_662 ?_
  refine v_bipush ⟨by decide, by decide⟩ (by decide) dX12_init_663 ?_
  refine g_newa_int kd_240 (by decide) (show (240 : Nat) ∉ ([0, 1, 72, 2, 76, 77, 78, 79, 80, 81, 82, 83, 84, 3, 85, 86, 87, 88, 89, 90, 91, 92, 93, 94, 95, 96, 97, 98, 99, 100, 101, 102, 103, 4, 107, 108, 109, 104, 105, 106, 12, 22, 32, 52, 62, 13, 23, 33, 53, 63, 14, 24, 34, 54, 64, 15, 25, 35, 55, 65, 16, 26, 36, 56, 66, 17, 27, 37, 57, 67, 18, 28, 38, 58, 68, 19, 29, 39, 59, 69, 20, 30, 40, 60, 70, 21, 31, 41, 61, 71, 5, 110, 111, 112, 113, 114, 115, 116, 117, 118, 119, 120, 121, 122, 123, 124, 125, 6, 126, 127, 128, 129, 7, 130, 131, 132, 133, 134, 135, 136, 137, 138, 139, 140, 141, 8, 142, 143, 144, 145, 146, 9, 147, 148, 149, 150, 151, 152, 153, 154, 10, 155, 156, 157, 158, 159, 160, 161, 11] : List Nat) from by decide) (by intro i; (try simp (disch := decide) only [b_upc]); exact h0 _ (by decide) i) (by decide +kernel) (by simp [b_nr]) (by simp [b_nr]) rfl (by decide) wa_int ⟨by decide, by decide⟩ dX12_init_665 ?_
  refine g_putR (kf := 117) (kz := 117) rfl (by decide +kernel) kd_11 rfl ⟨by decide, by decide⟩ rfl (by decide) rfl rfl wf_12_254 rfl (ty := tyX12 117) rfl (fun _ => ⟨rfl, rfl⟩) dX12_init_667 ?_
  refine v_aload_n (f := 0) 0 rfl dX12_init_670 ?_
  refine v_bipush ⟨by decide, by decide⟩ (by decide) dX12_init_671 ?_
  refine g_newa_int kd_241 (by decide) (show (241 : Nat) ∉ ([0, 1, 72, 2, 76, 77, 78, 79, 80, 81, 82, 83, 84, 3, 85, 86, 87, 88, 89, 90, 91, 92, 93, 94, 95, 96, 97, 98, 99, 100, 101, 102, 103, 4, 107, 108, 109, 104, 105, 106, 12, 22, 32, 52, 62, 13, 23, 33, 53, 63, 14, 24, 34, 54, 64, 15, 25, 35, 55, 65, 16, 26, 36, 56, 66, 17, 27, 37, 57, 67, 18, 28, 38, 58, 68, 19, 29, 39, 59, 69, 20, 30, 40, 60, 70, 21, 31, 41, 61, 71, 5, 110, 111, 112, 113, 114, 115, 116, 117, 118, 119, 120, 121, 122, 123, 124, 125, 6, 126, 127, 128, 129, 7, 130, 131, 132, 133, 134, 135, 136, 137, 138, 139, 140, 141, 8, 142, 143, 144, 145, 146, 9, 147, 148, 149, 150, 151, 152, 153, 154, 10, 155, 156, 157, 158, 159, 160, 161, 11] : List Nat) from by decide) (by intro i; (try simp (disch := decide) only [b_upc]); exact h0 _ (by decide) i) (by decide +kernel) (by simp [b_nr]) (by simp [b_nr]) rfl (by decide) wa_int ⟨by decide, by decide⟩ dX12_init_673 ?_
  refine g_putR (kf := 119) (kz := 119) rfl (by decide +kernel) kd_11 rfl ⟨by decide, by decide⟩ rfl (by decide) rfl rfl wf_12_257 rfl (ty := tyX12 119) rfl (fun _ => ⟨rfl, rfl⟩) dX12_init_675 ?_
  refine v_aload_n (f := 0) 0 rfl dX12_init_678 ?_
  refine v_bipush ⟨by decide, by decide⟩ (by decide) dX12_init_679 ?_
  refine g_newa_int kd_242 (by decide) (show (242 : Nat) ∉ ([0, 1, 72, 2, 76, 77, 78, 79, 80, 81, 82, 83, 84, 3, 85, 86, 87, 88, 89, 90, 91, 92, 93, 94, 95, 96, 97, 98, 99, 100, 101, 102, 103, 4, 107, 108, 109, 104, 105, 106, 12, 22, 32, 52, 62, 13, 23, 33, 53, 63, 14, 24, 34, 54, 64, 15, 25, 35, 55, 65, 16, 26, 36, 56, 66, 17, 27, 37, 57, 67, 18, 28, 38, 58, 68, 19, 29, 39, 59, 69, 20, 30, 40, 60, 70, 21, 31, 41, 61, 71, 5, 110, 111, 112, 113, 114, 115, 116, 117, 118, 119, 120, 121, 122, 123, 124, 125, 6, 126, 127, 128, 129, 7, 130, 131, 132, 133, 134, 135, 136, 137, 138, 139, 140, 141, 8, 142, 143, 144, 145, 146, 9, 147, 148, 149, 150, 151, 152, 153, 154, 10, 155, 156, 157, 158, 159, 160, 161, 11] : List Nat) from by decide) (by intro i; (try simp (disch := decide) only [b_upc]); exact h0 _ (by decide) i) (by decide +kernel) (by simp [b_nr]) (by simp [b_nr]) rfl (by decide) wa_int ⟨by decide, by decide⟩ dX12_init_681 ?_
  refine g_putR (kf := 120) (kz := 120) rfl (by decide +kernel) kd_11 rfl ⟨by decide, by decide⟩ rfl (by decide) rfl rfl wf_12_260 rfl (ty := tyX12 120) rfl (fun _ => ⟨rfl, rfl⟩) dX12_init_683 ?_
  refine v_aload_n (f := 0) 0 rfl dX12_init_686 ?_
  refine v_bipush ⟨by decide, by decide⟩ (by decide) dX12_init_687 ?_
  refine g_newa_int kd_243 (by decide) (show (243 : Nat) ∉ ([0, 1, 72, 2, 76, 77, 78, 79, 80, 81, 82, 83, 84, 3, 85, 86, 87, 88, 89, 90, 91, 92, 93, 94, 95, 96, 97, 98, 99, 100, 101, 102, 103, 4, 107, 108, 109, 104, 105, 106, 12, 22, 32, 52, 62, 13, 23, 33, 53, 63, 14, 24, 34, 54, 64, 15, 25, 35, 55, 65, 16, 26, 36, 56, 66, 17, 27, 37, 57, 67, 18, 28, 38, 58, 68, 19, 29, 39, 59, 69, 20, 30, 40, 60, 70, 21, 31, 41, 61, 71, 5, 110, 111, 112, 113, 114, 115, 116, 117, 118, 119, 120, 121, 122, 123, 124, 125, 6, 126, 127, 128, 129, 7, 130, 131, 132, 133, 134, 135, 136, 137, 138, 139, 140, 141, 8, 142, 143, 144, 145, 146, 9, 147, 148, 149, 150, 151, 152, 153, 154, 10, 155, 156, 157, 158, 159, 160, 161, 11] : List Nat) from by decide) (by intro i; (try simp (disch := decide) only [b_upc]); exact h0 _ (by decide) i) (by decide +kernel) (by simp [b_nr]) (by simp [b_nr]) rfl (by decide) wa_int ⟨by decide, by decide⟩ dX12_init_689 ?_
  refine g_putR (kf := 121) (kz := 121) rfl (by decide +kernel) kd_11 rfl ⟨by decide, by decide⟩ rfl (by decide) rfl rfl wf_12_263 rfl (ty := tyX12 121) rfl (fun _ => ⟨rfl, rfl⟩) dX12_init_691 ?_
  refine v_aload_n (f := 0) 0 rfl dX12_init_694 ?_
  refine v_iconst ⟨by decide, by decide⟩ dX12_init_695 ?_
  refine g_putI (kf := 122) (kz := 122) rfl (by decide +kernel) kd_11 rfl ⟨by decide, by decide⟩ rfl wf_12_266 rfl rfl dX12_init_696 ?_
  refine v_aload_n (f := 0) 0 rfl dX12_init_699 ?_
  refine v_iconst ⟨by decide, by decide⟩ dX12_init_700 ?_
  refine g_putI (kf := 123) (kz := 123) rfl (by decide +kernel) kd_11 rfl ⟨by decide, by decide⟩ rfl wf_12_269 rfl rfl dX12_init_701 ?_
  refine v_aload_n (f := 0) 0 rfl dX12_init_704 ?_
  refine v_sipush ⟨by decide, by decide⟩ (by decide) dX12_init_705 ?_
  refine g_newa_int kd_244 (by decide) (show (244 : Nat) ∉ ([0, 1, 72, 2, 76, 77, 78, 79, 80, 81, 82, 83, 84, 3, 85, 86, 87, 88, 89, 90, 91, 92, 93, 94, 95, 96, 97, 98, 99, 100, 101, 102, 103, 4, 107, 108, 109, 104, 105, 106, 12, 22, 32, 52, 62, 13, 23, 33, 53, 63, 14, 24, 34, 54, 64, 15, 25, 35, 55, 65, 16, 26, 36, 56, 66, 17, 27, 37, 57, 67, 18, 28, 38, 58, 68, 19, 29, 39, 59, 69, 20, 30, 40, 60, 70, 21, 31, 41, 61, 71, 5, 110, 111, 112, 113, 114, 115, 116, 117, 118, 119, 120, 121, 122, 123, 124, 125, 6, 126, 127, 128, 129, 7, 130, 131, 132, 133, 134, 135, 136, 137, 138, 139, 140, 141, 8, 142, 143, 144, 145, 146, 9, 147, 148, 149, 150, 151, 152, 153, 154, 10, 155, 156, 157, 158, 159, 160, 161, 11] : List Nat) from by decide) (by intro i; (try simp (disch := decide) only [b_upc]); exact h0 _ (by decide) i) (by decide +kernel) (by simp [b_nr]) (by simp [b_nr]) rfl (by decide) wa_int ⟨by decide, by decide⟩ dX12_init_708 ?_
  refine g_putR (kf := 124) (kz := 124) rfl (by decide +kernel) kd_11 rfl ⟨by decide, by decide⟩ rfl (by decide) rfl rfl wf_12_272 rfl (ty := tyX12 124) rfl (fun _ => ⟨rfl, rfl⟩) dX12_init_710 ?_
  refine v_iconst ⟨by decide, by decide⟩ dX12_init_713 ?_
  refine v_istore_n (g := 1) (i := 1) (ls' := [(1, bI _), (0, bR _)]) rfl (by decide) dX12_init_714 rfl ?_
  refine v_sub (ls2 := [(0, bR _), (1, bI _)]) [1, 0] rfl ?_
  refine v_mem (mi1_0 _).symm ?_
  refine w_X12_init1 (by simp (disch := decide) only [b_upi, b_ups, b_upc]) (by simp (disch := decide) only [b_upi, b_ups, b_upc]) (by simp (disch := decide) only [b_upi, b_ups, b_upc]) ?_ 61 0 (by omega) (by omega) (by omega)
  refine v_iconst ⟨by decide, by decide⟩ dX12_init_748 ?_
  refine v_istore_n (g := 1) (i := 1) (ls' := [(1, bI _), (0, bR _)]) rfl (by decide) dX12_init_749 rfl ?_
  refine v_sub (ls2 := [(0, bR _), (1, bI _)]) [1, 0] rfl ?_
  refine v_mem (mi2_0 _).symm ?_
  exact w_X12_init2 (by rw [mi1_11]; simp (disch := decide) only [b_upi, b_ups, b_upc]) ⟨rfl, rfl⟩ 12 0 (by omega) (by omega) (by omega)
