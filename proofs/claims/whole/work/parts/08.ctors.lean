abbrev xX10_init : bX := ("BurntHall$Tape", prog_12_method_1_code, 1, (Option.none : Option Jvm.ClassFile.FieldType), b_rm 1 1 1000, 1, "<init>")
abbrev yX10_init : MethodName := ⟨"BurntHall$Tape", "<init>", "()V"⟩
theorem dX10_init_0 : decode prog_12_method_1_code 0 = .ok (.aload_n 0, 1) := by decide +kernel
theorem dX10_init_1 : decode prog_12_method_1_code 1 = .ok (.invokespecial 3, 3) := by decide +kernel
theorem dX10_init_4 : decode prog_12_method_1_code 4 = .ok (.aload_n 0, 1) := by decide +kernel
theorem dX10_init_5 : decode prog_12_method_1_code 5 = .ok (.sipush 1000, 3) := by decide +kernel
theorem dX10_init_8 : decode prog_12_method_1_code 8 = .ok (.newarray .byte, 2) := by decide +kernel
theorem dX10_init_10 : decode prog_12_method_1_code 10 = .ok (.putfield 11, 3) := by decide +kernel
theorem dX10_init_13 : decode prog_12_method_1_code 13 = .ok (.aload_n 0, 1) := by decide +kernel
theorem dX10_init_14 : decode prog_12_method_1_code 14 = .ok (.iconst (-1), 1) := by decide +kernel
theorem dX10_init_15 : decode prog_12_method_1_code 15 = .ok (.putfield 15, 3) := by decide +kernel
theorem dX10_init_18 : decode prog_12_method_1_code 18 = .ok (.return_, 1) := by decide +kernel
theorem c_X10_init {l : Launch} {E : bE} {M : bM} (h0 : ∀ c ∈ ([72] : List Nat), ∀ i, M c i = 0) : b_CL l E xX10_init yX10_init [0, 1] [0, 1, 72] [bR 1] M (fun r M' => r = none ∧ M' = b_upl M [(1, 0, 1), (1, 6, -1)]) := by
  refine b_met (by decide) ⟨rfl, rfl⟩ (Nat.le_of_ble_eq_true rfl) (fun hA hRg => ?_)
  refine v_sub (ls2 := [(0, bR _)]) [0] rfl ?_
  refine v_aload_n (f := 0) 0 rfl dX10_init_0 ?_
  refine g_objInit wm_10_3 wob_i wob_c (Nat.le_of_ble_eq_true rfl) ⟨by decide, by decide⟩ dX10_init_1 ?_
  refine v_aload_n (f := 0) 0 rfl dX10_init_4 ?_
  refine v_sipush ⟨by decide, by decide⟩ (by decide) dX10_init_5 ?_
  refine g_newa_byte kd_72 (by decide) (show (72 : Nat) ∉ ([0, 1] : List Nat) from by decide) (by intro i; (try simp (disch := decide) only [b_upc]); exact h0 _ (by decide) i) (by decide +kernel) (by simp [b_nr]) (by simp [b_nr]) rfl (by decide) wa_byte ⟨by decide, by decide⟩ dX10_init_8 ?_
  refine g_putR (kf := 0) (kz := 0) rfl (by decide) kd_1 rfl ⟨by decide, by decide⟩ rfl (by decide) rfl rfl wf_10_11 rfl (ty := tyX10 0) rfl (fun _ => ⟨rfl, rfl⟩) dX10_init_10 ?_
  refine v_aload_n (f := 0) 0 rfl dX10_init_13 ?_
  refine v_iconst ⟨by decide, by decide⟩ dX10_init_14 ?_
  refine g_putI (kf := 6) (kz := 6) rfl (by decide) kd_1 rfl ⟨by decide, by decide⟩ rfl wf_10_15 rfl rfl dX10_init_15 ?_
  refine v_return rfl dX10_init_18 ⟨by decide, by decide⟩ ?_
  exact ⟨rfl, rfl⟩
abbrev xX8_init : bX := ("BurntHall$People", prog_10_method_1_code, 1, (Option.none : Option Jvm.ClassFile.FieldType), b_rm 1 9 2000, 1, "<init>")
abbrev yX8_init : MethodName := ⟨"BurntHall$People", "<init>", "()V"⟩
theorem dX8_init_0 : decode prog_10_method_1_code 0 = .ok (.aload_n 0, 1) := by decide +kernel
theorem dX8_init_1 : decode prog_10_method_1_code 1 = .ok (.invokespecial 3, 3) := by decide +kernel
theorem dX8_init_4 : decode prog_10_method_1_code 4 = .ok (.aload_n 0, 1) := by decide +kernel
theorem dX8_init_5 : decode prog_10_method_1_code 5 = .ok (.bipush 80, 2) := by decide +kernel
theorem dX8_init_7 : decode prog_10_method_1_code 7 = .ok (.newarray .int, 2) := by decide +kernel
theorem dX8_init_9 : decode prog_10_method_1_code 9 = .ok (.putfield 11, 3) := by decide +kernel
theorem dX8_init_12 : decode prog_10_method_1_code 12 = .ok (.aload_n 0, 1) := by decide +kernel
theorem dX8_init_13 : decode prog_10_method_1_code 13 = .ok (.sipush 400, 3) := by decide +kernel
theorem dX8_init_16 : decode prog_10_method_1_code 16 = .ok (.newarray .int, 2) := by decide +kernel
theorem dX8_init_18 : decode prog_10_method_1_code 18 = .ok (.putfield 15, 3) := by decide +kernel
theorem dX8_init_21 : decode prog_10_method_1_code 21 = .ok (.aload_n 0, 1) := by decide +kernel
theorem dX8_init_22 : decode prog_10_method_1_code 22 = .ok (.sipush 400, 3) := by decide +kernel
theorem dX8_init_25 : decode prog_10_method_1_code 25 = .ok (.newarray .int, 2) := by decide +kernel
theorem dX8_init_27 : decode prog_10_method_1_code 27 = .ok (.putfield 18, 3) := by decide +kernel
theorem dX8_init_30 : decode prog_10_method_1_code 30 = .ok (.aload_n 0, 1) := by decide +kernel
theorem dX8_init_31 : decode prog_10_method_1_code 31 = .ok (.sipush 400, 3) := by decide +kernel
theorem dX8_init_34 : decode prog_10_method_1_code 34 = .ok (.newarray .int, 2) := by decide +kernel
theorem dX8_init_36 : decode prog_10_method_1_code 36 = .ok (.putfield 21, 3) := by decide +kernel
theorem dX8_init_39 : decode prog_10_method_1_code 39 = .ok (.aload_n 0, 1) := by decide +kernel
theorem dX8_init_40 : decode prog_10_method_1_code 40 = .ok (.sipush 400, 3) := by decide +kernel
theorem dX8_init_43 : decode prog_10_method_1_code 43 = .ok (.newarray .int, 2) := by decide +kernel
theorem dX8_init_45 : decode prog_10_method_1_code 45 = .ok (.putfield 24, 3) := by decide +kernel
theorem dX8_init_48 : decode prog_10_method_1_code 48 = .ok (.aload_n 0, 1) := by decide +kernel
theorem dX8_init_49 : decode prog_10_method_1_code 49 = .ok (.iconst (-1), 1) := by decide +kernel
theorem dX8_init_50 : decode prog_10_method_1_code 50 = .ok (.putfield 27, 3) := by decide +kernel
theorem dX8_init_53 : decode prog_10_method_1_code 53 = .ok (.aload_n 0, 1) := by decide +kernel
theorem dX8_init_54 : decode prog_10_method_1_code 54 = .ok (.bipush 80, 2) := by decide +kernel
theorem dX8_init_56 : decode prog_10_method_1_code 56 = .ok (.newarray .int, 2) := by decide +kernel
theorem dX8_init_58 : decode prog_10_method_1_code 58 = .ok (.putfield 31, 3) := by decide +kernel
theorem dX8_init_61 : decode prog_10_method_1_code 61 = .ok (.aload_n 0, 1) := by decide +kernel
theorem dX8_init_62 : decode prog_10_method_1_code 62 = .ok (.bipush 80, 2) := by decide +kernel
theorem dX8_init_64 : decode prog_10_method_1_code 64 = .ok (.newarray .int, 2) := by decide +kernel
theorem dX8_init_66 : decode prog_10_method_1_code 66 = .ok (.putfield 34, 3) := by decide +kernel
theorem dX8_init_69 : decode prog_10_method_1_code 69 = .ok (.aload_n 0, 1) := by decide +kernel
theorem dX8_init_70 : decode prog_10_method_1_code 70 = .ok (.bipush 80, 2) := by decide +kernel
theorem dX8_init_72 : decode prog_10_method_1_code 72 = .ok (.newarray .long, 2) := by decide +kernel
theorem dX8_init_74 : decode prog_10_method_1_code 74 = .ok (.putfield 37, 3) := by decide +kernel
theorem dX8_init_77 : decode prog_10_method_1_code 77 = .ok (.aload_n 0, 1) := by decide +kernel
theorem dX8_init_78 : decode prog_10_method_1_code 78 = .ok (.bipush 80, 2) := by decide +kernel
theorem dX8_init_80 : decode prog_10_method_1_code 80 = .ok (.newarray .long, 2) := by decide +kernel
theorem dX8_init_82 : decode prog_10_method_1_code 82 = .ok (.putfield 41, 3) := by decide +kernel
theorem dX8_init_85 : decode prog_10_method_1_code 85 = .ok (.return_, 1) := by decide +kernel
theorem c_X8_init {l : Launch} {E : bE} {M : bM} (h0 : ∀ c ∈ ([76, 77, 78, 79, 80, 81, 82, 83, 84] : List Nat), ∀ i, M c i = 0) : b_CL l E xX8_init yX8_init [0, 1, 72, 2] [0, 1, 72, 2, 76, 77, 78, 79, 80, 81, 82, 83, 84] [bR 2] M (fun r M' => r = none ∧ M' = b_upl M [(2, 2, 1), (2, 3, 1), (2, 4, 1), (2, 5, 1), (2, 6, 1), (2, 7, -1), (2, 10, 1), (2, 11, 1), (2, 12, 1), (2, 13, 1)]) := by
  refine b_met (by decide) ⟨rfl, rfl⟩ (Nat.le_of_ble_eq_true rfl) (fun hA hRg => ?_)
  refine v_sub (ls2 := [(0, bR _)]) [0] rfl ?_
  refine v_aload_n (f := 0) 0 rfl dX8_init_0 ?_
  refine g_objInit wm_8_3 wob_i wob_c (Nat.le_of_ble_eq_true rfl) ⟨by decide, by decide⟩ dX8_init_1 ?_
  refine v_aload_n (f := 0) 0 rfl dX8_init_4 ?_
  refine v_bipush ⟨by decide, by decide⟩ (by decide) dX8_init_5 ?_
  refine g_newa_int kd_76 (by decide) (show (76 : Nat) ∉ ([0, 1, 72, 2] : List Nat) from by decide) (by intro i; (try simp (disch := decide) only [b_upc]); exact h0 _ (by decide) i) (by decide +kernel) (by simp [b_nr]) (by simp [b_nr]) rfl (by decide) wa_int ⟨by decide, by decide⟩ dX8_init_7 ?_
  refine g_putR (kf := 2) (kz := 2) rfl (by decide) kd_2 rfl ⟨by decide, by decide⟩ rfl (by decide) rfl rfl wf_8_11 rfl (ty := tyX8 2) rfl (fun _ => ⟨rfl, rfl⟩) dX8_init_9 ?_
  refine v_aload_n (f := 0) 0 rfl dX8_init_12 ?_
  refine v_sipush ⟨by decide, by decide⟩ (by decide) dX8_init_13 ?_
  refine g_newa_int kd_77 (by decide) (show (77 : Nat) ∉ ([0, 1, 72, 2] : List Nat) from by decide) (by intro i; (try simp (disch := decide) only [b_upc]); exact h0 _ (by decide) i) (by decide +kernel) (by simp [b_nr]) (by simp [b_nr]) rfl (by decide) wa_int ⟨by decide, by decide⟩ dX8_init_16 ?_
  refine g_putR (kf := 3) (kz := 3) rfl (by decide) kd_2 rfl ⟨by decide, by decide⟩ rfl (by decide) rfl rfl wf_8_15 rfl (ty := tyX8 3) rfl (fun _ => ⟨rfl, rfl⟩) dX8_init_18 ?_
  refine v_aload_n (f := 0) 0 rfl dX8_init_21 ?_
  refine v_sipush ⟨by decide, by decide⟩ (by decide) dX8_init_22 ?_
  refine g_newa_int kd_78 (by decide) (show (78 : Nat) ∉ ([0, 1, 72, 2] : List Nat) from by decide) (by intro i; (try simp (disch := decide) only [b_upc]); exact h0 _ (by decide) i) (by decide +kernel) (by simp [b_nr]) (by simp [b_nr]) rfl (by decide) wa_int ⟨by decide, by decide⟩ dX8_init_25 ?_
  refine g_putR (kf := 4) (kz := 4) rfl (by decide) kd_2 rfl ⟨by decide, by decide⟩ rfl (by decide) rfl rfl wf_8_18 rfl (ty := tyX8 4) rfl (fun _ => ⟨rfl, rfl⟩) dX8_init_27 ?_
  refine v_aload_n (f := 0) 0 rfl dX8_init_30 ?_
  refine v_sipush ⟨by decide, by decide⟩ (by decide) dX8_init_31 ?_
  refine g_newa_int kd_79 (by decide) (show (79 : Nat) ∉ ([0, 1, 72, 2] : List Nat) from by decide) (by intro i; (try simp (disch := decide) only [b_upc]); exact h0 _ (by decide) i) (by decide +kernel) (by simp [b_nr]) (by simp [b_nr]) rfl (by decide) wa_int ⟨by decide, by decide⟩ dX8_init_34 ?_
  refine g_putR (kf := 5) (kz := 5) rfl (by decide) kd_2 rfl ⟨by decide, by decide⟩ rfl (by decide) rfl rfl wf_8_21 rfl (ty := tyX8 5) rfl (fun _ => ⟨rfl, rfl⟩) dX8_init_36 ?_
  refine v_aload_n (f := 0) 0 rfl dX8_init_39 ?_
  refine v_sipush ⟨by decide, by decide⟩ (by decide) dX8_init_40 ?_
  refine g_newa_int kd_80 (by decide) (show (80 : Nat) ∉ ([0, 1, 72, 2] : List Nat) from by decide) (by intro i; (try simp (disch := decide) only [b_upc]); exact h0 _ (by decide) i) (by decide +kernel) (by simp [b_nr]) (by simp [b_nr]) rfl (by decide) wa_int ⟨by decide, by decide⟩ dX8_init_43 ?_
  refine g_putR (kf := 6) (kz := 6) rfl (by decide) kd_2 rfl ⟨by decide, by decide⟩ rfl (by decide) rfl rfl wf_8_24 rfl (ty := tyX8 6) rfl (fun _ => ⟨rfl, rfl⟩) dX8_init_45 ?_
  refine v_aload_n (f := 0) 0 rfl dX8_init_48 ?_
  refine v_iconst ⟨by decide, by decide⟩ dX8_init_49 ?_
  refine g_putI (kf := 7) (kz := 7) rfl (by decide) kd_2 rfl ⟨by decide, by decide⟩ rfl wf_8_27 rfl rfl dX8_init_50 ?_
  refine v_aload_n (f := 0) 0 rfl dX8_init_53 ?_
  refine v_bipush ⟨by decide, by decide⟩ (by decide) dX8_init_54 ?_
  refine g_newa_int kd_81 (by decide) (show (81 : Nat) ∉ ([0, 1, 72, 2] : List Nat) from by decide) (by intro i; (try simp (disch := decide) only [b_upc]); exact h0 _ (by decide) i) (by decide +kernel) (by simp [b_nr]) (by simp [b_nr]) rfl (by decide) wa_int ⟨by decide, by decide⟩ dX8_init_56 ?_
  refine g_putR (kf := 10) (kz := 10) rfl (by decide) kd_2 rfl ⟨by decide, by decide⟩ rfl (by decide) rfl rfl wf_8_31 rfl (ty := tyX8 10) rfl (fun _ => ⟨rfl, rfl⟩) dX8_init_58 ?_
  refine v_aload_n (f := 0) 0 rfl dX8_init_61 ?_
  refine v_bipush ⟨by decide, by decide⟩ (by decide) dX8_init_62 ?_
  refine g_newa_int kd_82 (by decide) (show (82 : Nat) ∉ ([0, 1, 72, 2] : List Nat) from by decide) (by intro i; (try simp (disch := decide) only [b_upc]); exact h0 _ (by decide) i) (by decide +kernel) (by simp [b_nr]) (by simp [b_nr]) rfl (by decide) wa_int ⟨by decide, by decide⟩ dX8_init_64 ?_
  refine g_putR (kf := 11) (kz := 11) rfl (by decide) kd_2 rfl ⟨by decide, by decide⟩ rfl (by decide) rfl rfl wf_8_34 rfl (ty := tyX8 11) rfl (fun _ => ⟨rfl, rfl⟩) dX8_init_66 ?_
  refine v_aload_n (f := 0) 0 rfl dX8_init_69 ?_
  refine v_bipush ⟨by decide, by decide⟩ (by decide) dX8_init_70 ?_
  refine g_newa_long kd_83 (by decide) (show (83 : Nat) ∉ ([0, 1, 72, 2] : List Nat) from by decide) (by intro i; (try simp (disch := decide) only [b_upc]); exact h0 _ (by decide) i) (by decide +kernel) (by simp [b_nr]) (by simp [b_nr]) rfl (by decide) wa_long ⟨by decide, by decide⟩ dX8_init_72 ?_
  refine g_putR (kf := 12) (kz := 12) rfl (by decide) kd_2 rfl ⟨by decide, by decide⟩ rfl (by decide) rfl rfl wf_8_37 rfl (ty := tyX8 12) rfl (fun _ => ⟨rfl, rfl⟩) dX8_init_74 ?_
  refine v_aload_n (f := 0) 0 rfl dX8_init_77 ?_
  refine v_bipush ⟨by decide, by decide⟩ (by decide) dX8_init_78 ?_
  refine g_newa_long kd_84 (by decide) (show (84 : Nat) ∉ ([0, 1, 72, 2] : List Nat) from by decide) (by intro i; (try simp (disch := decide) only [b_upc]); exact h0 _ (by decide) i) (by decide +kernel) (by simp [b_nr]) (by simp [b_nr]) rfl (by decide) wa_long ⟨by decide, by decide⟩ dX8_init_80 ?_
  refine g_putR (kf := 13) (kz := 13) rfl (by decide) kd_2 rfl ⟨by decide, by decide⟩ rfl (by decide) rfl rfl wf_8_41 rfl (ty := tyX8 13) rfl (fun _ => ⟨rfl, rfl⟩) dX8_init_82 ?_
  refine v_return rfl dX8_init_85 ⟨by decide, by decide⟩ ?_
  exact ⟨rfl, rfl⟩
abbrev xX7_init : bX := ("BurntHall$Papers", prog_9_method_1_code, 1, (Option.none : Option Jvm.ClassFile.FieldType), b_rm 1 16 5456, 1, "<init>")
abbrev yX7_init : MethodName := ⟨"BurntHall$Papers", "<init>", "()V"⟩
theorem dX7_init_0 : decode prog_9_method_1_code 0 = .ok (.aload_n 0, 1) := by decide +kernel
theorem dX7_init_1 : decode prog_9_method_1_code 1 = .ok (.invokespecial 5, 3) := by decide +kernel
theorem dX7_init_4 : decode prog_9_method_1_code 4 = .ok (.aload_n 0, 1) := by decide +kernel
theorem dX7_init_5 : decode prog_9_method_1_code 5 = .ok (.bipush 20, 2) := by decide +kernel
theorem dX7_init_7 : decode prog_9_method_1_code 7 = .ok (.putfield 11, 3) := by decide +kernel
theorem dX7_init_10 : decode prog_9_method_1_code 10 = .ok (.aload_n 0, 1) := by decide +kernel
theorem dX7_init_11 : decode prog_9_method_1_code 11 = .ok (.bipush 120, 2) := by decide +kernel
theorem dX7_init_13 : decode prog_9_method_1_code 13 = .ok (.newarray .int, 2) := by decide +kernel
theorem dX7_init_15 : decode prog_9_method_1_code 15 = .ok (.putfield 17, 3) := by decide +kernel
theorem dX7_init_18 : decode prog_9_method_1_code 18 = .ok (.aload_n 0, 1) := by decide +kernel
theorem dX7_init_19 : decode prog_9_method_1_code 19 = .ok (.bipush 120, 2) := by decide +kernel
theorem dX7_init_21 : decode prog_9_method_1_code 21 = .ok (.newarray .int, 2) := by decide +kernel
theorem dX7_init_23 : decode prog_9_method_1_code 23 = .ok (.putfield 21, 3) := by decide +kernel
theorem dX7_init_26 : decode prog_9_method_1_code 26 = .ok (.aload_n 0, 1) := by decide +kernel
theorem dX7_init_27 : decode prog_9_method_1_code 27 = .ok (.bipush 120, 2) := by decide +kernel
theorem dX7_init_29 : decode prog_9_method_1_code 29 = .ok (.newarray .int, 2) := by decide +kernel
theorem dX7_init_31 : decode prog_9_method_1_code 31 = .ok (.putfield 24, 3) := by decide +kernel
theorem dX7_init_34 : decode prog_9_method_1_code 34 = .ok (.aload_n 0, 1) := by decide +kernel
theorem dX7_init_35 : decode prog_9_method_1_code 35 = .ok (.bipush 120, 2) := by decide +kernel
theorem dX7_init_37 : decode prog_9_method_1_code 37 = .ok (.newarray .int, 2) := by decide +kernel
theorem dX7_init_39 : decode prog_9_method_1_code 39 = .ok (.putfield 27, 3) := by decide +kernel
theorem dX7_init_42 : decode prog_9_method_1_code 42 = .ok (.aload_n 0, 1) := by decide +kernel
theorem dX7_init_43 : decode prog_9_method_1_code 43 = .ok (.bipush 120, 2) := by decide +kernel
theorem dX7_init_45 : decode prog_9_method_1_code 45 = .ok (.newarray .int, 2) := by decide +kernel
theorem dX7_init_47 : decode prog_9_method_1_code 47 = .ok (.putfield 30, 3) := by decide +kernel
theorem dX7_init_50 : decode prog_9_method_1_code 50 = .ok (.aload_n 0, 1) := by decide +kernel
theorem dX7_init_51 : decode prog_9_method_1_code 51 = .ok (.sipush 360, 3) := by decide +kernel
theorem dX7_init_54 : decode prog_9_method_1_code 54 = .ok (.newarray .int, 2) := by decide +kernel
theorem dX7_init_56 : decode prog_9_method_1_code 56 = .ok (.putfield 33, 3) := by decide +kernel
theorem dX7_init_59 : decode prog_9_method_1_code 59 = .ok (.aload_n 0, 1) := by decide +kernel
theorem dX7_init_60 : decode prog_9_method_1_code 60 = .ok (.bipush 120, 2) := by decide +kernel
theorem dX7_init_62 : decode prog_9_method_1_code 62 = .ok (.newarray .int, 2) := by decide +kernel
theorem dX7_init_64 : decode prog_9_method_1_code 64 = .ok (.putfield 36, 3) := by decide +kernel
theorem dX7_init_67 : decode prog_9_method_1_code 67 = .ok (.aload_n 0, 1) := by decide +kernel
theorem dX7_init_68 : decode prog_9_method_1_code 68 = .ok (.bipush 120, 2) := by decide +kernel
theorem dX7_init_70 : decode prog_9_method_1_code 70 = .ok (.newarray .int, 2) := by decide +kernel
theorem dX7_init_72 : decode prog_9_method_1_code 72 = .ok (.putfield 39, 3) := by decide +kernel
theorem dX7_init_75 : decode prog_9_method_1_code 75 = .ok (.aload_n 0, 1) := by decide +kernel
theorem dX7_init_76 : decode prog_9_method_1_code 76 = .ok (.bipush 120, 2) := by decide +kernel
theorem dX7_init_78 : decode prog_9_method_1_code 78 = .ok (.newarray .int, 2) := by decide +kernel
theorem dX7_init_80 : decode prog_9_method_1_code 80 = .ok (.putfield 42, 3) := by decide +kernel
theorem dX7_init_83 : decode prog_9_method_1_code 83 = .ok (.aload_n 0, 1) := by decide +kernel
theorem dX7_init_84 : decode prog_9_method_1_code 84 = .ok (.bipush 120, 2) := by decide +kernel
theorem dX7_init_86 : decode prog_9_method_1_code 86 = .ok (.newarray .int, 2) := by decide +kernel
theorem dX7_init_88 : decode prog_9_method_1_code 88 = .ok (.putfield 45, 3) := by decide +kernel
theorem dX7_init_91 : decode prog_9_method_1_code 91 = .ok (.aload_n 0, 1) := by decide +kernel
theorem dX7_init_92 : decode prog_9_method_1_code 92 = .ok (.sipush 1440, 3) := by decide +kernel
theorem dX7_init_95 : decode prog_9_method_1_code 95 = .ok (.newarray .long, 2) := by decide +kernel
theorem dX7_init_97 : decode prog_9_method_1_code 97 = .ok (.putfield 48, 3) := by decide +kernel
theorem dX7_init_100 : decode prog_9_method_1_code 100 = .ok (.aload_n 0, 1) := by decide +kernel
theorem dX7_init_101 : decode prog_9_method_1_code 101 = .ok (.sipush 1440, 3) := by decide +kernel
theorem dX7_init_104 : decode prog_9_method_1_code 104 = .ok (.newarray .int, 2) := by decide +kernel
theorem dX7_init_106 : decode prog_9_method_1_code 106 = .ok (.putfield 52, 3) := by decide +kernel
theorem dX7_init_109 : decode prog_9_method_1_code 109 = .ok (.aload_n 0, 1) := by decide +kernel
theorem dX7_init_110 : decode prog_9_method_1_code 110 = .ok (.bipush 12, 2) := by decide +kernel
theorem dX7_init_112 : decode prog_9_method_1_code 112 = .ok (.newarray .long, 2) := by decide +kernel
theorem dX7_init_114 : decode prog_9_method_1_code 114 = .ok (.putfield 55, 3) := by decide +kernel
theorem dX7_init_117 : decode prog_9_method_1_code 117 = .ok (.aload_n 0, 1) := by decide +kernel
theorem dX7_init_118 : decode prog_9_method_1_code 118 = .ok (.bipush 12, 2) := by decide +kernel
theorem dX7_init_120 : decode prog_9_method_1_code 120 = .ok (.newarray .int, 2) := by decide +kernel
theorem dX7_init_122 : decode prog_9_method_1_code 122 = .ok (.putfield 58, 3) := by decide +kernel
theorem dX7_init_125 : decode prog_9_method_1_code 125 = .ok (.aload_n 0, 1) := by decide +kernel
theorem dX7_init_126 : decode prog_9_method_1_code 126 = .ok (.sipush 1080, 3) := by decide +kernel
theorem dX7_init_129 : decode prog_9_method_1_code 129 = .ok (.newarray .int, 2) := by decide +kernel
theorem dX7_init_131 : decode prog_9_method_1_code 131 = .ok (.putfield 61, 3) := by decide +kernel
theorem dX7_init_134 : decode prog_9_method_1_code 134 = .ok (.aload_n 0, 1) := by decide +kernel
theorem dX7_init_135 : decode prog_9_method_1_code 135 = .ok (.bipush 32, 2) := by decide +kernel
theorem dX7_init_137 : decode prog_9_method_1_code 137 = .ok (.newarray .int, 2) := by decide +kernel
theorem dX7_init_139 : decode prog_9_method_1_code 139 = .ok (.putfield 64, 3) := by decide +kernel
theorem dX7_init_142 : decode prog_9_method_1_code 142 = .ok (.return_, 1) := by decide +kernel
theorem c_X7_init {l : Launch} {E : bE} {M : bM} (h0 : ∀ c ∈ ([110, 111, 112, 113, 114, 115, 116, 117, 118, 119, 120, 121, 122, 123, 124, 125] : List Nat), ∀ i, M c i = 0) : b_CL l E xX7_init yX7_init [0, 1, 72, 2, 76, 77, 78, 79, 80, 81, 82, 83, 84, 3, 85, 86, 87, 88, 89, 90, 91, 92, 93, 94, 95, 96, 97, 98, 99, 100, 101, 102, 103, 4, 107, 108, 109, 104, 105, 106, 12, 22, 32, 52, 62, 13, 23, 33, 53, 63, 14, 24, 34, 54, 64, 15, 25, 35, 55, 65, 16, 26, 36, 56, 66, 17, 27, 37, 57, 67, 18, 28, 38, 58, 68, 19, 29, 39, 59, 69, 20, 30, 40, 60, 70, 21, 31, 41, 61, 71, 5] [0, 1, 72, 2, 76, 77, 78, 79, 80, 81, 82, 83, 84, 3, 85, 86, 87, 88, 89, 90, 91, 92, 93, 94, 95, 96, 97, 98, 99, 100, 101, 102, 103, 4, 107, 108, 109, 104, 105, 106, 12, 22, 32, 52, 62, 13, 23, 33, 53, 63, 14, 24, 34, 54, 64, 15, 25, 35, 55, 65, 16, 26, 36, 56, 66, 17, 27, 37, 57, 67, 18, 28, 38, 58, 68, 19, 29, 39, 59, 69, 20, 30, 40, 60, 70, 21, 31, 41, 61, 71, 5, 110, 111, 112, 113, 114, 115, 116, 117, 118, 119, 120, 121, 122, 123, 124, 125] [bR 5] M (fun r M' => r = none ∧ M' = b_upl M [(5, 1, 20), (5, 2, 1), (5, 3, 1), (5, 4, 1), (5, 5, 1), (5, 6, 1), (5, 7, 1), (5, 8, 1), (5, 9, 1), (5, 10, 1), (5, 11, 1), (5, 12, 1), (5, 13, 1), (5, 14, 1), (5, 15, 1), (5, 17, 1), (5, 18, 1)]) := by
  refine b_met (by decide) ⟨rfl, rfl⟩ (Nat.le_of_ble_eq_true rfl) (fun hA hRg => ?_)
  refine v_sub (ls2 := [(0, bR _)]) [0] rfl ?_
  refine v_aload_n (f := 0) 0 rfl dX7_init_0 ?_
  refine g_objInit wm_7_5 wob_i wob_c (Nat.le_of_ble_eq_true rfl) ⟨by decide, by decide⟩ dX7_init_1 ?_
  refine v_aload_n (f := 0) 0 rfl dX7_init_4 ?_
  refine v_bipush ⟨by decide, by decide⟩ (by decide) dX7_init_5 ?_
  refine g_putI (kf := 1) (kz := 1) rfl (by decide) kd_5 rfl ⟨by decide, by decide⟩ rfl wf_7_11 rfl rfl dX7_init_7 ?_
  refine v_aload_n (f := 0) 0 rfl dX7_init_10 ?_
  refine v_bipush ⟨by decide, by decide⟩ (by decide) dX7_init_11 ?_
  refine g_newa_int kd_110 (by decide) (show (110 : Nat) ∉ ([0, 1, 72, 2, 76, 77, 78, 79, 80, 81, 82, 83, 84, 3, 85, 86, 87, 88, 89, 90, 91, 92, 93, 94, 95, 96, 97, 98, 99, 100, 101, 102, 103, 4, 107, 108, 109, 104, 105, 106, 12, 22, 32, 52, 62, 13, 23, 33, 53, 63, 14, 24, 34, 54, 64, 15, 25, 35, 55, 65, 16, 26, 36, 56, 66, 17, 27, 37, 57, 67, 18, 28, 38, 58, 68, 19, 29, 39, 59, 69, 20, 30, 40, 60, 70, 21, 31, 41, 61, 71, 5] : List Nat) from by decide) (by intro i; (try simp (disch := decide) only [b_upc]); exact h0 _ (by decide) i) (by decide +kernel) (by simp [b_nr]) (by simp [b_nr]) rfl (by decide) wa_int ⟨by decide, by decide⟩ dX7_init_13 ?_
  refine g_putR (kf := 2) (kz := 2) rfl (by decide) kd_5 rfl ⟨by decide, by decide⟩ rfl (by decide) rfl rfl wf_7_17 rfl (ty := tyX7 2) rfl (fun _ => ⟨rfl, rfl⟩) dX7_init_15 ?_
  refine v_aload_n (f := 0) 0 rfl dX7_init_18 ?_
  refine v_bipush ⟨by decide, by decide⟩ (by decide) dX7_init_19 ?_
  refine g_newa_int kd_111 (by decide) (show (111 : Nat) ∉ ([0, 1, 72, 2, 76, 77, 78, 79, 80, 81, 82, 83, 84, 3, 85, 86, 87, 88, 89, 90, 91, 92, 93, 94, 95, 96, 97, 98, 99, 100, 101, 102, 103, 4, 107, 108, 109, 104, 105, 106, 12, 22, 32, 52, 62, 13, 23, 33, 53, 63, 14, 24, 34, 54, 64, 15, 25, 35, 55, 65, 16, 26, 36, 56, 66, 17, 27, 37, 57, 67, 18, 28, 38, 58, 68, 19, 29, 39, 59, 69, 20, 30, 40, 60, 70, 21, 31, 41, 61, 71, 5] : List Nat) from by decide) (by intro i; (try simp (disch := decide) only [b_upc]); exact h0 _ (by decide) i) (by decide +kernel) (by simp [b_nr]) (by simp [b_nr]) rfl (by decide) wa_int ⟨by decide, by decide⟩ dX7_init_21 ?_
  refine g_putR (kf := 3) (kz := 3) rfl (by decide) kd_5 rfl ⟨by decide, by decide⟩ rfl (by decide) rfl rfl wf_7_21 rfl (ty := tyX7 3) rfl (fun _ => ⟨rfl, rfl⟩) dX7_init_23 ?_
  refine v_aload_n (f := 0) 0 rfl dX7_init_26 ?_
  refine v_bipush ⟨by decide, by decide⟩ (by decide) dX7_init_27 ?_
  refine g_newa_int kd_112 (by decide) (show (112 : Nat) ∉ ([0, 1, 72, 2, 76, 77, 78, 79, 80, 81, 82, 83, 84, 3, 85, 86, 87, 88, 89, 90, 91, 92, 93, 94, 95, 96, 97, 98, 99, 100, 101, 102, 103, 4, 107, 108, 109, 104, 105, 106, 12, 22, 32, 52, 62, 13, 23, 33, 53, 63, 14, 24, 34, 54, 64, 15, 25, 35, 55, 65, 16, 26, 36, 56, 66, 17, 27, 37, 57, 67, 18, 28, 38, 58, 68, 19, 29, 39, 59, 69, 20, 30, 40, 60, 70, 21, 31, 41, 61, 71, 5] : List Nat) from by decide) (by intro i; (try simp (disch := decide) only [b_upc]); exact h0 _ (by decide) i) (by decide +kernel) (by simp [b_nr]) (by simp [b_nr]) rfl (by decide) wa_int ⟨by decide, by decide⟩ dX7_init_29 ?_
  refine g_putR (kf := 4) (kz := 4) rfl (by decide) kd_5 rfl ⟨by decide, by decide⟩ rfl (by decide) rfl rfl wf_7_24 rfl (ty := tyX7 4) rfl (fun _ => ⟨rfl, rfl⟩) dX7_init_31 ?_
  refine v_aload_n (f := 0) 0 rfl dX7_init_34 ?_
  refine v_bipush ⟨by decide, by decide⟩ (by decide) dX7_init_35 ?_
  refine g_newa_int kd_113 (by decide) (show (113 : Nat) ∉ ([0, 1, 72, 2, 76, 77, 78, 79, 80, 81, 82, 83, 84, 3, 85, 86, 87, 88, 89, 90, 91, 92, 93, 94, 95, 96, 97, 98, 99, 100, 101, 102, 103, 4, 107, 108, 109, 104, 105, 106, 12, 22, 32, 52, 62, 13, 23, 33, 53, 63, 14, 24, 34, 54, 64, 15, 25, 35, 55, 65, 16, 26, 36, 56, 66, 17, 27, 37, 57, 67, 18, 28, 38, 58, 68, 19, 29, 39, 59, 69, 20, 30, 40, 60, 70, 21, 31, 41, 61, 71, 5] : List Nat) from by decide) (by intro i; (try simp (disch := decide) only [b_upc]); exact h0 _ (by decide) i) (by decide +kernel) (by simp [b_nr]) (by simp [b_nr]) rfl (by decide) wa_int ⟨by decide, by decide⟩ dX7_init_37 ?_
  refine g_putR (kf := 5) (kz := 5) rfl (by decide) kd_5 rfl ⟨by decide, by decide⟩ rfl (by decide) rfl rfl wf_7_27 rfl (ty := tyX7 5) rfl (fun _ => ⟨rfl, rfl⟩) dX7_init_39 ?_
  refine v_aload_n (f := 0) 0 rfl dX7_init_42 ?_
  refine v_bipush ⟨by decide, by decide⟩ (by decide) dX7_init_43 ?_
  refine g_newa_int kd_114 (by decide) (show (114 : Nat) ∉ ([0, 1, 72, 2, 76, 77, 78, 79, 80, 81, 82, 83, 84, 3, 85, 86, 87, 88, 89, 90, 91, 92, 93, 94, 95, 96, 97, 98, 99, 100, 101, 102, 103, 4, 107, 108, 109, 104, 105, 106, 12, 22, 32, 52, 62, 13, 23, 33, 53, 63, 14, 24, 34, 54, 64, 15, 25, 35, 55, 65, 16, 26, 36, 56, 66, 17, 27, 37, 57, 67, 18, 28, 38, 58, 68, 19, 29, 39, 59, 69, 20, 30, 40, 60, 70, 21, 31, 41, 61, 71, 5] : List Nat) from by decide) (by intro i; (try simp (disch := decide) only [b_upc]); exact h0 _ (by decide) i) (by decide +kernel) (by simp [b_nr]) (by simp [b_nr]) rfl (by decide) wa_int ⟨by decide, by decide⟩ dX7_init_45 ?_
  refine g_putR (kf := 6) (kz := 6) rfl (by decide) kd_5 rfl ⟨by decide, by decide⟩ rfl (by decide) rfl rfl wf_7_30 rfl (ty := tyX7 6) rfl (fun _ => ⟨rfl, rfl⟩) dX7_init_47 ?_
  refine v_aload_n (f := 0) 0 rfl dX7_init_50 ?_
  refine v_sipush ⟨by decide, by decide⟩ (by decide) dX7_init_51 ?_
  refine g_newa_int kd_115 (by decide) (show (115 : Nat) ∉ ([0, 1, 72, 2, 76, 77, 78, 79, 80, 81, 82, 83, 84, 3, 85, 86, 87, 88, 89, 90, 91, 92, 93, 94, 95, 96, 97, 98, 99, 100, 101, 102, 103, 4, 107, 108, 109, 104, 105, 106, 12, 22, 32, 52, 62, 13, 23, 33, 53, 63, 14, 24, 34, 54, 64, 15, 25, 35, 55, 65, 16, 26, 36, 56, 66, 17, 27, 37, 57, 67, 18, 28, 38, 58, 68, 19, 29, 39, 59, 69, 20, 30, 40, 60, 70, 21, 31, 41, 61, 71, 5] : List Nat) from by decide) (by intro i; (try simp (disch := decide) only [b_upc]); exact h0 _ (by decide) i) (by decide +kernel) (by simp [b_nr]) (by simp [b_nr]) rfl (by decide) wa_int ⟨by decide, by decide⟩ dX7_init_54 ?_
  refine g_putR (kf := 7) (kz := 7) rfl (by decide) kd_5 rfl ⟨by decide, by decide⟩ rfl (by decide) rfl rfl wf_7_33 rfl (ty := tyX7 7) rfl (fun _ => ⟨rfl, rfl⟩) dX7_init_56 ?_
  refine v_aload_n (f := 0) 0 rfl dX7_init_59 ?_
  refine v_bipush ⟨by decide, by decide⟩ (by decide) dX7_init_60 ?_
  refine g_newa_int kd_116 (by decide) (show (116 : Nat) ∉ ([0, 1, 72, 2, 76, 77, 78, 79, 80, 81, 82, 83, 84, 3, 85, 86, 87, 88, 89, 90, 91, 92, 93, 94, 95, 96, 97, 98, 99, 100, 101, 102, 103, 4, 107, 108, 109, 104, 105, 106, 12, 22, 32, 52, 62, 13, 23, 33, 53, 63, 14, 24, 34, 54, 64, 15, 25, 35, 55, 65, 16, 26, 36, 56, 66, 17, 27, 37, 57, 67, 18, 28, 38, 58, 68, 19, 29, 39, 59, 69, 20, 30, 40, 60, 70, 21, 31, 41, 61, 71, 5] : List Nat) from by decide) (by intro i; (try simp (disch := decide) only [b_upc]); exact h0 _ (by decide) i) (by decide +kernel) (by simp [b_nr]) (by simp [b_nr]) rfl (by decide) wa_int ⟨by decide, by decide⟩ dX7_init_62 ?_
  refine g_putR (kf := 8) (kz := 8) rfl (by decide) kd_5 rfl ⟨by decide, by decide⟩ rfl (by decide) rfl rfl wf_7_36 rfl (ty := tyX7 8) rfl (fun _ => ⟨rfl, rfl⟩) dX7_init_64 ?_
  refine v_aload_n (f := 0) 0 rfl dX7_init_67 ?_
  refine v_bipush ⟨by decide, by decide⟩ (by decide) dX7_init_68 ?_
  refine g_newa_int kd_117 (by decide) (show (117 : Nat) ∉ ([0, 1, 72, 2, 76, 77, 78, 79, 80, 81, 82, 83, 84, 3, 85, 86, 87, 88, 89, 90, 91, 92, 93, 94, 95, 96, 97, 98, 99, 100, 101, 102, 103, 4, 107, 108, 109, 104, 105, 106, 12, 22, 32, 52, 62, 13, 23, 33, 53, 63, 14, 24, 34, 54, 64, 15, 25, 35, 55, 65, 16, 26, 36, 56, 66, 17, 27, 37, 57, 67, 18, 28, 38, 58, 68, 19, 29, 39, 59, 69, 20, 30, 40, 60, 70, 21, 31, 41, 61, 71, 5] : List Nat) from by decide) (by intro i; (try simp (disch := decide) only [b_upc]); exact h0 _ (by decide) i) (by decide +kernel) (by simp [b_nr]) (by simp [b_nr]) rfl (by decide) wa_int ⟨by decide, by decide⟩ dX7_init_70 ?_
  refine g_putR (kf := 9) (kz := 9) rfl (by decide) kd_5 rfl ⟨by decide, by decide⟩ rfl (by decide) rfl rfl wf_7_39 rfl (ty := tyX7 9) rfl (fun _ => ⟨rfl, rfl⟩) dX7_init_72 ?_
  refine v_aload_n (f := 0) 0 rfl dX7_init_75 ?_
  refine v_bipush ⟨by decide, by decide⟩ (by decide) dX7_init_76 ?_
  refine g_newa_int kd_118 (by decide) (show (118 : Nat) ∉ ([0, 1, 72, 2, 76, 77, 78, 79, 80, 81, 82, 83, 84, 3, 85, 86, 87, 88, 89, 90, 91, 92, 93, 94, 95, 96, 97, 98, 99, 100, 101, 102, 103, 4, 107, 108, 109, 104, 105, 106, 12, 22, 32, 52, 62, 13, 23, 33, 53, 63, 14, 24, 34, 54, 64, 15, 25, 35, 55, 65, 16, 26, 36, 56, 66, 17, 27, 37, 57, 67, 18, 28, 38, 58, 68, 19, 29, 39, 59, 69, 20, 30, 40, 60, 70, 21, 31, 41, 61, 71, 5] : List Nat) from by decide) (by intro i; (try simp (disch := decide) only [b_upc]); exact h0 _ (by decide) i) (by decide +kernel) (by simp [b_nr]) (by simp [b_nr]) rfl (by decide) wa_int ⟨by decide, by decide⟩ dX7_init_78 ?_
  refine g_putR (kf := 10) (kz := 10) rfl (by decide) kd_5 rfl ⟨by decide, by decide⟩ rfl (by decide) rfl rfl wf_7_42 rfl (ty := tyX7 10) rfl (fun _ => ⟨rfl, rfl⟩) dX7_init_80 ?_
  refine v_aload_n (f := 0) 0 rfl dX7_init_83 ?_
  refine v_bipush ⟨by decide, by decide⟩ (by decide) dX7_init_84 ?_
  refine g_newa_int kd_119 (by decide) (show (119 : Nat) ∉ ([0, 1, 72, 2, 76, 77, 78, 79, 80, 81, 82, 83, 84, 3, 85, 86, 87, 88, 89, 90, 91, 92, 93, 94, 95, 96, 97, 98, 99, 100, 101, 102, 103, 4, 107, 108, 109, 104, 105, 106, 12, 22, 32, 52, 62, 13, 23, 33, 53, 63, 14, 24, 34, 54, 64, 15, 25, 35, 55, 65, 16, 26, 36, 56, 66, 17, 27, 37, 57, 67, 18, 28, 38, 58, 68, 19, 29, 39, 59, 69, 20, 30, 40, 60, 70, 21, 31, 41, 61, 71, 5] : List Nat) from by decide) (by intro i; (try simp (disch := decide) only [b_upc]); exact h0 _ (by decide) i) (by decide +kernel) (by simp [b_nr]) (by simp [b_nr]) rfl (by decide) wa_int ⟨by decide, by decide⟩ dX7_init_86 ?_
  refine g_putR (kf := 11) (kz := 11) rfl (by decide) kd_5 rfl ⟨by decide, by decide⟩ rfl (by decide) rfl rfl wf_7_45 rfl (ty := tyX7 11) rfl (fun _ => ⟨rfl, rfl⟩) dX7_init_88 ?_
  refine v_aload_n (f := 0) 0 rfl dX7_init_91 ?_
  refine v_sipush ⟨by decide, by decide⟩ (by decide) dX7_init_92 ?_
  refine g_newa_long kd_120 (by decide) (show (120 : Nat) ∉ ([0, 1, 72, 2, 76, 77, 78, 79, 80, 81, 82, 83, 84, 3, 85, 86, 87, 88, 89, 90, 91, 92, 93, 94, 95, 96, 97, 98, 99, 100, 101, 102, 103, 4, 107, 108, 109, 104, 105, 106, 12, 22, 32, 52, 62, 13, 23, 33, 53, 63, 14, 24, 34, 54, 64, 15, 25, 35, 55, 65, 16, 26, 36, 56, 66, 17, 27, 37, 57, 67, 18, 28, 38, 58, 68, 19, 29, 39, 59, 69, 20, 30, 40, 60, 70, 21, 31, 41, 61, 71, 5] : List Nat) from by decide) (by intro i; (try simp (disch := decide) only [b_upc]); exact h0 _ (by decide) i) (by decide +kernel) (by simp [b_nr]) (by simp [b_nr]) rfl (by decide) wa_long ⟨by decide, by decide⟩ dX7_init_95 ?_
  refine g_putR (kf := 12) (kz := 12) rfl (by decide) kd_5 rfl ⟨by decide, by decide⟩ rfl (by decide) rfl rfl wf_7_48 rfl (ty := tyX7 12) rfl (fun _ => ⟨rfl, rfl⟩) dX7_init_97 ?_
  refine v_aload_n (f := 0) 0 rfl dX7_init_100 ?_
  refine v_sipush ⟨by decide, by decide⟩ (by decide) dX7_init_101 ?_
  refine g_newa_int kd_121 (by decide) (show (121 : Nat) ∉ ([0, 1, 72, 2, 76, 77, 78, 79, 80, 81, 82, 83, 84, 3, 85, 86, 87, 88, 89, 90, 91, 92, 93, 94, 95, 96, 97, 98, 99, 100, 101, 102, 103, 4, 107, 108, 109, 104, 105, 106, 12, 22, 32, 52, 62, 13, 23, 33, 53, 63, 14, 24, 34, 54, 64, 15, 25, 35, 55, 65, 16, 26, 36, 56, 66, 17, 27, 37, 57, 67, 18, 28, 38, 58, 68, 19, 29, 39, 59, 69, 20, 30, 40, 60, 70, 21, 31, 41, 61, 71, 5] : List Nat) from by decide) (by intro i; (try simp (disch := decide) only [b_upc]); exact h0 _ (by decide) i) (by decide +kernel) (by simp [b_nr]) (by simp [b_nr]) rfl (by decide) wa_int ⟨by decide, by decide⟩ dX7_init_104 ?_
  refine g_putR (kf := 13) (kz := 13) rfl (by decide) kd_5 rfl ⟨by decide, by decide⟩ rfl (by decide) rfl rfl wf_7_52 rfl (ty := tyX7 13) rfl (fun _ => ⟨rfl, rfl⟩) dX7_init_106 ?_
  refine v_aload_n (f := 0) 0 rfl dX7_init_109 ?_
  refine v_bipush ⟨by decide, by decide⟩ (by decide) dX7_init_110 ?_
  refine g_newa_long kd_122 (by decide) (show (122 : Nat) ∉ ([0, 1, 72, 2, 76, 77, 78, 79, 80, 81, 82, 83, 84, 3, 85, 86, 87, 88, 89, 90, 91, 92, 93, 94, 95, 96, 97, 98, 99, 100, 101, 102, 103, 4, 107, 108, 109, 104, 105, 106, 12, 22, 32, 52, 62, 13, 23, 33, 53, 63, 14, 24, 34, 54, 64, 15, 25, 35, 55, 65, 16, 26, 36, 56, 66, 17, 27, 37, 57, 67, 18, 28, 38, 58, 68, 19, 29, 39, 59, 69, 20, 30, 40, 60, 70, 21, 31, 41, 61, 71, 5] : List Nat) from by decide) (by intro i; (try simp (disch := decide) only [b_upc]); exact h0 _ (by decide) i) (by decide +kernel) (by simp [b_nr]) (by simp [b_nr]) rfl (by decide) wa_long ⟨by decide, by decide⟩ dX7_init_112 ?_
  refine g_putR (kf := 14) (kz := 14) rfl (by decide) kd_5 rfl ⟨by decide, by decide⟩ rfl (by decide) rfl rfl wf_7_55 rfl (ty := tyX7 14) rfl (fun _ => ⟨rfl, rfl⟩) dX7_init_114 ?_
  refine v_aload_n (f := 0) 0 rfl dX7_init_117 ?_
  refine v_bipush ⟨by decide, by decide⟩ (by decide) dX7_init_118 ?_
  refine g_newa_int kd_123 (by decide) (show (123 : Nat) ∉ ([0, 1, 72, 2, 76, 77, 78, 79, 80, 81, 82, 83, 84, 3, 85, 86, 87, 88, 89, 90, 91, 92, 93, 94, 95, 96, 97, 98, 99, 100, 101, 102, 103, 4, 107, 108, 109, 104, 105, 106, 12, 22, 32, 52, 62, 13, 23, 33, 53, 63, 14, 24, 34, 54, 64, 15, 25, 35, 55, 65, 16, 26, 36, 56, 66, 17, 27, 37, 57, 67, 18, 28, 38, 58, 68, 19, 29, 39, 59, 69, 20, 30, 40, 60, 70, 21, 31, 41, 61, 71, 5] : List Nat) from by decide) (by intro i; (try simp (disch := decide) only [b_upc]); exact h0 _ (by decide) i) (by decide +kernel) (by simp [b_nr]) (by simp [b_nr]) rfl (by decide) wa_int ⟨by decide, by decide⟩ dX7_init_120 ?_
  refine g_putR (kf := 15) (kz := 15) rfl (by decide) kd_5 rfl ⟨by decide, by decide⟩ rfl (by decide) rfl rfl wf_7_58 rfl (ty := tyX7 15) rfl (fun _ => ⟨rfl, rfl⟩) dX7_init_122 ?_
  refine v_aload_n (f := 0) 0 rfl dX7_init_125 ?_
  refine v_sipush ⟨by decide, by decide⟩ (by decide) dX7_init_126 ?_
  refine g_newa_int kd_124 (by decide) (show (124 : Nat) ∉ ([0, 1, 72, 2, 76, 77, 78, 79, 80, 81, 82, 83, 84, 3, 85, 86, 87, 88, 89, 90, 91, 92, 93, 94, 95, 96, 97, 98, 99, 100, 101, 102, 103, 4, 107, 108, 109, 104, 105, 106, 12, 22, 32, 52, 62, 13, 23, 33, 53, 63, 14, 24, 34, 54, 64, 15, 25, 35, 55, 65, 16, 26, 36, 56, 66, 17, 27, 37, 57, 67, 18, 28, 38, 58, 68, 19, 29, 39, 59, 69, 20, 30, 40, 60, 70, 21, 31, 41, 61, 71, 5] : List Nat) from by decide) (by intro i; (try simp (disch := decide) only [b_upc]); exact h0 _ (by decide) i) (by decide +kernel) (by simp [b_nr]) (by simp [b_nr]) rfl (by decide) wa_int ⟨by decide, by decide⟩ dX7_init_129 ?_
  refine g_putR (kf := 17) (kz := 17) rfl (by decide) kd_5 rfl ⟨by decide, by decide⟩ rfl (by decide) rfl rfl wf_7_61 rfl (ty := tyX7 17) rfl (fun _ => ⟨rfl, rfl⟩) dX7_init_131 ?_
  refine v_aload_n (f := 0) 0 rfl dX7_init_134 ?_
  refine v_bipush ⟨by decide, by decide⟩ (by decide) dX7_init_135 ?_
  refine g_newa_int kd_125 (by decide) (show (125 : Nat) ∉ ([0, 1, 72, 2, 76, 77, 78, 79, 80, 81, 82, 83, 84, 3, 85, 86, 87, 88, 89, 90, 91, 92, 93, 94, 95, 96, 97, 98, 99, 100, 101, 102, 103, 4, 107, 108, 109, 104, 105, 106, 12, 22, 32, 52, 62, 13, 23, 33, 53, 63, 14, 24, 34, 54, 64, 15, 25, 35, 55, 65, 16, 26, 36, 56, 66, 17, 27, 37, 57, 67, 18, 28, 38, 58, 68, 19, 29, 39, 59, 69, 20, 30, 40, 60, 70, 21, 31, 41, 61, 71, 5] : List Nat) from by decide) (by intro i; (try simp (disch := decide) only [b_upc]); exact h0 _ (by decide) i) (by decide +kernel) (by simp [b_nr]) (by simp [b_nr]) rfl (by decide) wa_int ⟨by decide, by decide⟩ dX7_init_137 ?_
  refine g_putR (kf := 18) (kz := 18) rfl (by decide) kd_5 rfl ⟨by decide, by decide⟩ rfl (by decide) rfl rfl wf_7_64 rfl (ty := tyX7 18) rfl (fun _ => ⟨rfl, rfl⟩) dX7_init_139 ?_
  refine v_return rfl dX7_init_142 ⟨by decide, by decide⟩ ?_
  exact ⟨rfl, rfl⟩
abbrev xX4_init : bX := ("BurntHall$Evidence", prog_6_method_1_code, 5, (Option.none : Option Jvm.ClassFile.FieldType), b_rm 1 4 660, 1, "<init>")
abbrev yX4_init : MethodName := ⟨"BurntHall$Evidence", "<init>", "(LBurntHall$People;LBurntHall$Lots;LBurntHall$Papers;LBurntHall$Acts;)V"⟩
theorem dX4_init_0 : decode prog_6_method_1_code 0 = .ok (.aload_n 0, 1) := by decide +kernel
theorem dX4_init_1 : decode prog_6_method_1_code 1 = .ok (.invokespecial 3, 3) := by decide +kernel
theorem dX4_init_4 : decode prog_6_method_1_code 4 = .ok (.aload_n 0, 1) := by decide +kernel
theorem dX4_init_5 : decode prog_6_method_1_code 5 = .ok (.sipush 300, 3) := by decide +kernel
theorem dX4_init_8 : decode prog_6_method_1_code 8 = .ok (.newarray .int, 2) := by decide +kernel
theorem dX4_init_10 : decode prog_6_method_1_code 10 = .ok (.putfield 11, 3) := by decide +kernel
theorem dX4_init_13 : decode prog_6_method_1_code 13 = .ok (.aload_n 0, 1) := by decide +kernel
theorem dX4_init_14 : decode prog_6_method_1_code 14 = .ok (.bipush 120, 2) := by decide +kernel
theorem dX4_init_16 : decode prog_6_method_1_code 16 = .ok (.newarray .boolean, 2) := by decide +kernel
theorem dX4_init_18 : decode prog_6_method_1_code 18 = .ok (.putfield 17, 3) := by decide +kernel
theorem dX4_init_21 : decode prog_6_method_1_code 21 = .ok (.aload_n 0, 1) := by decide +kernel
theorem dX4_init_22 : decode prog_6_method_1_code 22 = .ok (.bipush 120, 2) := by decide +kernel
theorem dX4_init_24 : decode prog_6_method_1_code 24 = .ok (.newarray .int, 2) := by decide +kernel
theorem dX4_init_26 : decode prog_6_method_1_code 26 = .ok (.putfield 21, 3) := by decide +kernel
theorem dX4_init_29 : decode prog_6_method_1_code 29 = .ok (.aload_n 0, 1) := by decide +kernel
theorem dX4_init_30 : decode prog_6_method_1_code 30 = .ok (.bipush 120, 2) := by decide +kernel
theorem dX4_init_32 : decode prog_6_method_1_code 32 = .ok (.newarray .int, 2) := by decide +kernel
theorem dX4_init_34 : decode prog_6_method_1_code 34 = .ok (.putfield 24, 3) := by decide +kernel
theorem dX4_init_37 : decode prog_6_method_1_code 37 = .ok (.aload_n 0, 1) := by decide +kernel
theorem dX4_init_38 : decode prog_6_method_1_code 38 = .ok (.aload_n 1, 1) := by decide +kernel
theorem dX4_init_39 : decode prog_6_method_1_code 39 = .ok (.putfield 27, 3) := by decide +kernel
theorem dX4_init_42 : decode prog_6_method_1_code 42 = .ok (.aload_n 0, 1) := by decide +kernel
theorem dX4_init_43 : decode prog_6_method_1_code 43 = .ok (.aload_n 2, 1) := by decide +kernel
theorem dX4_init_44 : decode prog_6_method_1_code 44 = .ok (.putfield 31, 3) := by decide +kernel
theorem dX4_init_47 : decode prog_6_method_1_code 47 = .ok (.aload_n 0, 1) := by decide +kernel
theorem dX4_init_48 : decode prog_6_method_1_code 48 = .ok (.aload_n 3, 1) := by decide +kernel
theorem dX4_init_49 : decode prog_6_method_1_code 49 = .ok (.putfield 35, 3) := by decide +kernel
theorem dX4_init_52 : decode prog_6_method_1_code 52 = .ok (.aload_n 0, 1) := by decide +kernel
theorem dX4_init_53 : decode prog_6_method_1_code 53 = .ok (.aload 4, 2) := by decide +kernel
theorem dX4_init_55 : decode prog_6_method_1_code 55 = .ok (.putfield 39, 3) := by decide +kernel
theorem dX4_init_58 : decode prog_6_method_1_code 58 = .ok (.return_, 1) := by decide +kernel
theorem c_X4_init {l : Launch} {E : bE} {M : bM} (h0 : ∀ c ∈ ([126, 127, 128, 129] : List Nat), ∀ i, M c i = 0) : b_CL l E xX4_init yX4_init [0, 1, 72, 2, 76, 77, 78, 79, 80, 81, 82, 83, 84, 3, 85, 86, 87, 88, 89, 90, 91, 92, 93, 94, 95, 96, 97, 98, 99, 100, 101, 102, 103, 4, 107, 108, 109, 104, 105, 106, 12, 22, 32, 52, 62, 13, 23, 33, 53, 63, 14, 24, 34, 54, 64, 15, 25, 35, 55, 65, 16, 26, 36, 56, 66, 17, 27, 37, 57, 67, 18, 28, 38, 58, 68, 19, 29, 39, 59, 69, 20, 30, 40, 60, 70, 21, 31, 41, 61, 71, 5, 110, 111, 112, 113, 114, 115, 116, 117, 118, 119, 120, 121, 122, 123, 124, 125, 6] [0, 1, 72, 2, 76, 77, 78, 79, 80, 81, 82, 83, 84, 3, 85, 86, 87, 88, 89, 90, 91, 92, 93, 94, 95, 96, 97, 98, 99, 100, 101, 102, 103, 4, 107, 108, 109, 104, 105, 106, 12, 22, 32, 52, 62, 13, 23, 33, 53, 63, 14, 24, 34, 54, 64, 15, 25, 35, 55, 65, 16, 26, 36, 56, 66, 17, 27, 37, 57, 67, 18, 28, 38, 58, 68, 19, 29, 39, 59, 69, 20, 30, 40, 60, 70, 21, 31, 41, 61, 71, 5, 110, 111, 112, 113, 114, 115, 116, 117, 118, 119, 120, 121, 122, 123, 124, 125, 6, 126, 127, 128, 129] [bR 6, bR 2, bR 3, bR 5, bR 4] M (fun r M' => r = none ∧ M' = b_upl M [(6, 8, 1), (6, 9, 1), (6, 10, 1), (6, 12, 1), (6, 1, 1), (6, 2, 1), (6, 3, 1), (6, 4, 1)]) := by
  refine b_met (by decide) ⟨rfl, rfl⟩ (Nat.le_of_ble_eq_true rfl) (fun hA hRg => ?_)
  refine v_sub (ls2 := [(0, bR _), (1, bR _), (2, bR _), (3, bR _), (4, bR _)]) [0, 1, 2, 3, 4] rfl ?_
  refine v_aload_n (f := 0) 0 rfl dX4_init_0 ?_
  refine g_objInit wm_4_3 wob_i wob_c (Nat.le_of_ble_eq_true rfl) ⟨by decide, by decide⟩ dX4_init_1 ?_
  refine v_aload_n (f := 0) 0 rfl dX4_init_4 ?_
  refine v_sipush ⟨by decide, by decide⟩ (by decide) dX4_init_5 ?_
  refine g_newa_int kd_126 (by decide) (show (126 : Nat) ∉ ([0, 1, 72, 2, 76, 77, 78, 79, 80, 81, 82, 83, 84, 3, 85, 86, 87, 88, 89, 90, 91, 92, 93, 94, 95, 96, 97, 98, 99, 100, 101, 102, 103, 4, 107, 108, 109, 104, 105, 106, 12, 22, 32, 52, 62, 13, 23, 33, 53, 63, 14, 24, 34, 54, 64, 15, 25, 35, 55, 65, 16, 26, 36, 56, 66, 17, 27, 37, 57, 67, 18, 28, 38, 58, 68, 19, 29, 39, 59, 69, 20, 30, 40, 60, 70, 21, 31, 41, 61, 71, 5, 110, 111, 112, 113, 114, 115, 116, 117, 118, 119, 120, 121, 122, 123, 124, 125, 6] : List Nat) from by decide) (by intro i; (try simp (disch := decide) only [b_upc]); exact h0 _ (by decide) i) (by decide +kernel) (by simp [b_nr]) (by simp [b_nr]) rfl (by decide) wa_int ⟨by decide, by decide⟩ dX4_init_8 ?_
  refine g_putR (kf := 8) (kz := 8) rfl (by decide) kd_6 rfl ⟨by decide, by decide⟩ rfl (by decide) rfl rfl wf_4_11 rfl (ty := tyX4 8) rfl (fun _ => ⟨rfl, rfl⟩) dX4_init_10 ?_
  refine v_aload_n (f := 0) 0 rfl dX4_init_13 ?_
  refine v_bipush ⟨by decide, by decide⟩ (by decide) dX4_init_14 ?_
  refine g_newa_boolean kd_127 (by decide) (show (127 : Nat) ∉ ([0, 1, 72, 2, 76, 77, 78, 79, 80, 81, 82, 83, 84, 3, 85, 86, 87, 88, 89, 90, 91, 92, 93, 94, 95, 96, 97, 98, 99, 100, 101, 102, 103, 4, 107, 108, 109, 104, 105, 106, 12, 22, 32, 52, 62, 13, 23, 33, 53, 63, 14, 24, 34, 54, 64, 15, 25, 35, 55, 65, 16, 26, 36, 56, 66, 17, 27, 37, 57, 67, 18, 28, 38, 58, 68, 19, 29, 39, 59, 69, 20, 30, 40, 60, 70, 21, 31, 41, 61, 71, 5, 110, 111, 112, 113, 114, 115, 116, 117, 118, 119, 120, 121, 122, 123, 124, 125, 6] : List Nat) from by decide) (by intro i; (try simp (disch := decide) only [b_upc]); exact h0 _ (by decide) i) (by decide +kernel) (by simp [b_nr]) (by simp [b_nr]) rfl (by decide) wa_boolean ⟨by decide, by decide⟩ dX4_init_16 ?_
  refine g_putR (kf := 9) (kz := 9) rfl (by decide) kd_6 rfl ⟨by decide, by decide⟩ rfl (by decide) rfl rfl wf_4_17 rfl (ty := tyX4 9) rfl (fun _ => ⟨rfl, rfl⟩) dX4_init_18 ?_
  refine v_aload_n (f := 0) 0 rfl dX4_init_21 ?_
  refine v_bipush ⟨by decide, by decide⟩ (by decide) dX4_init_22 ?_
  refine g_newa_int kd_128 (by decide) (show (128 : Nat) ∉ ([0, 1, 72, 2, 76, 77, 78, 79, 80, 81, 82, 83, 84, 3, 85, 86, 87, 88, 89, 90, 91, 92, 93, 94, 95, 96, 97, 98, 99, 100, 101, 102, 103, 4, 107, 108, 109, 104, 105, 106, 12, 22, 32, 52, 62, 13, 23, 33, 53, 63, 14, 24, 34, 54, 64, 15, 25, 35, 55, 65, 16, 26, 36, 56, 66, 17, 27, 37, 57, 67, 18, 28, 38, 58, 68, 19, 29, 39, 59, 69, 20, 30, 40, 60, 70, 21, 31, 41, 61, 71, 5, 110, 111, 112, 113, 114, 115, 116, 117, 118, 119, 120, 121, 122, 123, 124, 125, 6] : List Nat) from by decide) (by intro i; (try simp (disch := decide) only [b_upc]); exact h0 _ (by decide) i) (by decide +kernel) (by simp [b_nr]) (by simp [b_nr]) rfl (by decide) wa_int ⟨by decide, by decide⟩ dX4_init_24 ?_
  refine g_putR (kf := 10) (kz := 10) rfl (by decide) kd_6 rfl ⟨by decide, by decide⟩ rfl (by decide) rfl rfl wf_4_21 rfl (ty := tyX4 10) rfl (fun _ => ⟨rfl, rfl⟩) dX4_init_26 ?_
  refine v_aload_n (f := 0) 0 rfl dX4_init_29 ?_
  refine v_bipush ⟨by decide, by decide⟩ (by decide) dX4_init_30 ?_
  refine g_newa_int kd_129 (by decide) (show (129 : Nat) ∉ ([0, 1, 72, 2, 76, 77, 78, 79, 80, 81, 82, 83, 84, 3, 85, 86, 87, 88, 89, 90, 91, 92, 93, 94, 95, 96, 97, 98, 99, 100, 101, 102, 103, 4, 107, 108, 109, 104, 105, 106, 12, 22, 32, 52, 62, 13, 23, 33, 53, 63, 14, 24, 34, 54, 64, 15, 25, 35, 55, 65, 16, 26, 36, 56, 66, 17, 27, 37, 57, 67, 18, 28, 38, 58, 68, 19, 29, 39, 59, 69, 20, 30, 40, 60, 70, 21, 31, 41, 61, 71, 5, 110, 111, 112, 113, 114, 115, 116, 117, 118, 119, 120, 121, 122, 123, 124, 125, 6] : List Nat) from by decide) (by intro i; (try simp (disch := decide) only [b_upc]); exact h0 _ (by decide) i) (by decide +kernel) (by simp [b_nr]) (by simp [b_nr]) rfl (by decide) wa_int ⟨by decide, by decide⟩ dX4_init_32 ?_
  refine g_putR (kf := 12) (kz := 12) rfl (by decide) kd_6 rfl ⟨by decide, by decide⟩ rfl (by decide) rfl rfl wf_4_24 rfl (ty := tyX4 12) rfl (fun _ => ⟨rfl, rfl⟩) dX4_init_34 ?_
  refine v_aload_n (f := 0) 0 rfl dX4_init_37 ?_
  refine v_aload_n (f := 1) 1 rfl dX4_init_38 ?_
  refine g_putR (kf := 1) (kz := 1) rfl (by decide) kd_6 rfl ⟨by decide, by decide⟩ rfl (by decide) rfl rfl wf_4_27 rfl (ty := tyX4 1) rfl (fun _ => ⟨rfl, rfl⟩) dX4_init_39 ?_
  refine v_aload_n (f := 0) 0 rfl dX4_init_42 ?_
  refine v_aload_n (f := 2) 2 rfl dX4_init_43 ?_
  refine g_putR (kf := 2) (kz := 2) rfl (by decide) kd_6 rfl ⟨by decide, by decide⟩ rfl (by decide) rfl rfl wf_4_31 rfl (ty := tyX4 2) rfl (fun _ => ⟨rfl, rfl⟩) dX4_init_44 ?_
  refine v_aload_n (f := 0) 0 rfl dX4_init_47 ?_
  refine v_aload_n (f := 3) 3 rfl dX4_init_48 ?_
  refine g_putR (kf := 3) (kz := 3) rfl (by decide) kd_6 rfl ⟨by decide, by decide⟩ rfl (by decide) rfl rfl wf_4_35 rfl (ty := tyX4 3) rfl (fun _ => ⟨rfl, rfl⟩) dX4_init_49 ?_
  refine v_aload_n (f := 0) 0 rfl dX4_init_52 ?_
  refine v_aload (i := 4) 4 rfl dX4_init_53 ?_
  refine g_putR (kf := 4) (kz := 4) rfl (by decide) kd_6 rfl ⟨by decide, by decide⟩ rfl (by decide) rfl rfl wf_4_39 rfl (ty := tyX4 4) rfl (fun _ => ⟨rfl, rfl⟩) dX4_init_55 ?_
  refine v_return rfl dX4_init_58 ⟨by decide, by decide⟩ ?_
  exact ⟨rfl, rfl⟩
abbrev xX2_init : bX := ("BurntHall$Chains", prog_4_method_1_code, 4, (Option.none : Option Jvm.ClassFile.FieldType), b_rm 1 12 572, 1, "<init>")
abbrev yX2_init : MethodName := ⟨"BurntHall$Chains", "<init>", "(LBurntHall$People;LBurntHall$Lots;LBurntHall$Evidence;)V"⟩
theorem dX2_init_0 : decode prog_4_method_1_code 0 = .ok (.aload_n 0, 1) := by decide +kernel
theorem dX2_init_1 : decode prog_4_method_1_code 1 = .ok (.invokespecial 5, 3) := by decide +kernel
theorem dX2_init_4 : decode prog_4_method_1_code 4 = .ok (.aload_n 0, 1) := by decide +kernel
theorem dX2_init_5 : decode prog_4_method_1_code 5 = .ok (.bipush 30, 2) := by decide +kernel
theorem dX2_init_7 : decode prog_4_method_1_code 7 = .ok (.newarray .int, 2) := by decide +kernel
theorem dX2_init_9 : decode prog_4_method_1_code 9 = .ok (.putfield 13, 3) := by decide +kernel
theorem dX2_init_12 : decode prog_4_method_1_code 12 = .ok (.aload_n 0, 1) := by decide +kernel
theorem dX2_init_13 : decode prog_4_method_1_code 13 = .ok (.bipush 30, 2) := by decide +kernel
theorem dX2_init_15 : decode prog_4_method_1_code 15 = .ok (.newarray .int, 2) := by decide +kernel
theorem dX2_init_17 : decode prog_4_method_1_code 17 = .ok (.putfield 17, 3) := by decide +kernel
theorem dX2_init_20 : decode prog_4_method_1_code 20 = .ok (.aload_n 0, 1) := by decide +kernel
theorem dX2_init_21 : decode prog_4_method_1_code 21 = .ok (.bipush 30, 2) := by decide +kernel
theorem dX2_init_23 : decode prog_4_method_1_code 23 = .ok (.newarray .int, 2) := by decide +kernel
theorem dX2_init_25 : decode prog_4_method_1_code 25 = .ok (.putfield 20, 3) := by decide +kernel
theorem dX2_init_28 : decode prog_4_method_1_code 28 = .ok (.aload_n 0, 1) := by decide +kernel
theorem dX2_init_29 : decode prog_4_method_1_code 29 = .ok (.bipush 30, 2) := by decide +kernel
theorem dX2_init_31 : decode prog_4_method_1_code 31 = .ok (.newarray .int, 2) := by decide +kernel
theorem dX2_init_33 : decode prog_4_method_1_code 33 = .ok (.putfield 23, 3) := by decide +kernel
theorem dX2_init_36 : decode prog_4_method_1_code 36 = .ok (.aload_n 0, 1) := by decide +kernel
theorem dX2_init_37 : decode prog_4_method_1_code 37 = .ok (.bipush 30, 2) := by decide +kernel
theorem dX2_init_39 : decode prog_4_method_1_code 39 = .ok (.newarray .int, 2) := by decide +kernel
theorem dX2_init_41 : decode prog_4_method_1_code 41 = .ok (.putfield 26, 3) := by decide +kernel
theorem dX2_init_44 : decode prog_4_method_1_code 44 = .ok (.aload_n 0, 1) := by decide +kernel
theorem dX2_init_45 : decode prog_4_method_1_code 45 = .ok (.bipush 30, 2) := by decide +kernel
theorem dX2_init_47 : decode prog_4_method_1_code 47 = .ok (.newarray .int, 2) := by decide +kernel
theorem dX2_init_49 : decode prog_4_method_1_code 49 = .ok (.putfield 29, 3) := by decide +kernel
theorem dX2_init_52 : decode prog_4_method_1_code 52 = .ok (.aload_n 0, 1) := by decide +kernel
theorem dX2_init_53 : decode prog_4_method_1_code 53 = .ok (.bipush 90, 2) := by decide +kernel
theorem dX2_init_55 : decode prog_4_method_1_code 55 = .ok (.newarray .int, 2) := by decide +kernel
theorem dX2_init_57 : decode prog_4_method_1_code 57 = .ok (.putfield 34, 3) := by decide +kernel
theorem dX2_init_60 : decode prog_4_method_1_code 60 = .ok (.aload_n 0, 1) := by decide +kernel
theorem dX2_init_61 : decode prog_4_method_1_code 61 = .ok (.sipush 240, 3) := by decide +kernel
theorem dX2_init_64 : decode prog_4_method_1_code 64 = .ok (.newarray .int, 2) := by decide +kernel
theorem dX2_init_66 : decode prog_4_method_1_code 66 = .ok (.putfield 37, 3) := by decide +kernel
theorem dX2_init_69 : decode prog_4_method_1_code 69 = .ok (.aload_n 0, 1) := by decide +kernel
theorem dX2_init_70 : decode prog_4_method_1_code 70 = .ok (.bipush 30, 2) := by decide +kernel
theorem dX2_init_72 : decode prog_4_method_1_code 72 = .ok (.newarray .int, 2) := by decide +kernel
theorem dX2_init_74 : decode prog_4_method_1_code 74 = .ok (.putfield 40, 3) := by decide +kernel
theorem dX2_init_77 : decode prog_4_method_1_code 77 = .ok (.aload_n 0, 1) := by decide +kernel
theorem dX2_init_78 : decode prog_4_method_1_code 78 = .ok (.bipush 8, 2) := by decide +kernel
theorem dX2_init_80 : decode prog_4_method_1_code 80 = .ok (.newarray .int, 2) := by decide +kernel
theorem dX2_init_82 : decode prog_4_method_1_code 82 = .ok (.putfield 43, 3) := by decide +kernel
theorem dX2_init_85 : decode prog_4_method_1_code 85 = .ok (.aload_n 0, 1) := by decide +kernel
theorem dX2_init_86 : decode prog_4_method_1_code 86 = .ok (.bipush 12, 2) := by decide +kernel
theorem dX2_init_88 : decode prog_4_method_1_code 88 = .ok (.newarray .int, 2) := by decide +kernel
theorem dX2_init_90 : decode prog_4_method_1_code 90 = .ok (.putfield 46, 3) := by decide +kernel
theorem dX2_init_93 : decode prog_4_method_1_code 93 = .ok (.aload_n 0, 1) := by decide +kernel
theorem dX2_init_94 : decode prog_4_method_1_code 94 = .ok (.bipush 12, 2) := by decide +kernel
theorem dX2_init_96 : decode prog_4_method_1_code 96 = .ok (.newarray .int, 2) := by decide +kernel
theorem dX2_init_98 : decode prog_4_method_1_code 98 = .ok (.putfield 49, 3) := by decide +kernel
theorem dX2_init_101 : decode prog_4_method_1_code 101 = .ok (.aload_n 0, 1) := by decide +kernel
theorem dX2_init_102 : decode prog_4_method_1_code 102 = .ok (.aload_n 1, 1) := by decide +kernel
theorem dX2_init_103 : decode prog_4_method_1_code 103 = .ok (.putfield 52, 3) := by decide +kernel
theorem dX2_init_106 : decode prog_4_method_1_code 106 = .ok (.aload_n 0, 1) := by decide +kernel
theorem dX2_init_107 : decode prog_4_method_1_code 107 = .ok (.aload_n 2, 1) := by decide +kernel
theorem dX2_init_108 : decode prog_4_method_1_code 108 = .ok (.putfield 56, 3) := by decide +kernel
theorem dX2_init_111 : decode prog_4_method_1_code 111 = .ok (.aload_n 0, 1) := by decide +kernel
theorem dX2_init_112 : decode prog_4_method_1_code 112 = .ok (.aload_n 3, 1) := by decide +kernel
theorem dX2_init_113 : decode prog_4_method_1_code 113 = .ok (.putfield 60, 3) := by decide +kernel
theorem dX2_init_116 : decode prog_4_method_1_code 116 = .ok (.aload_n 0, 1) := by decide +kernel
theorem dX2_init_117 : decode prog_4_method_1_code 117 = .ok (.getfield 49, 3) := by decide +kernel
theorem dX2_init_120 : decode prog_4_method_1_code 120 = .ok (.iconst 3, 1) := by decide +kernel
theorem dX2_init_121 : decode prog_4_method_1_code 121 = .ok (.iconst (-1), 1) := by decide +kernel
theorem dX2_init_122 : decode prog_4_method_1_code 122 = .ok (.iastore, 1) := by decide +kernel
theorem dX2_init_123 : decode prog_4_method_1_code 123 = .ok (.return_, 1) := by decide +kernel
theorem c_X2_init {l : Launch} {E : bE} {M : bM} (h0 : ∀ c ∈ ([130, 131, 132, 133, 134, 135, 136, 137, 138, 139, 140, 141] : List Nat), ∀ i, M c i = 0) : b_CL l E xX2_init yX2_init [0, 1, 72, 2, 76, 77, 78, 79, 80, 81, 82, 83, 84, 3, 85, 86, 87, 88, 89, 90, 91, 92, 93, 94, 95, 96, 97, 98, 99, 100, 101, 102, 103, 4, 107, 108, 109, 104, 105, 106, 12, 22, 32, 52, 62, 13, 23, 33, 53, 63, 14, 24, 34, 54, 64, 15, 25, 35, 55, 65, 16, 26, 36, 56, 66, 17, 27, 37, 57, 67, 18, 28, 38, 58, 68, 19, 29, 39, 59, 69, 20, 30, 40, 60, 70, 21, 31, 41, 61, 71, 5, 110, 111, 112, 113, 114, 115, 116, 117, 118, 119, 120, 121, 122, 123, 124, 125, 6, 126, 127, 128, 129, 7] [0, 1, 72, 2, 76, 77, 78, 79, 80, 81, 82, 83, 84, 3, 85, 86, 87, 88, 89, 90, 91, 92, 93, 94, 95, 96, 97, 98, 99, 100, 101, 102, 103, 4, 107, 108, 109, 104, 105, 106, 12, 22, 32, 52, 62, 13, 23, 33, 53, 63, 14, 24, 34, 54, 64, 15, 25, 35, 55, 65, 16, 26, 36, 56, 66, 17, 27, 37, 57, 67, 18, 28, 38, 58, 68, 19, 29, 39, 59, 69, 20, 30, 40, 60, 70, 21, 31, 41, 61, 71, 5, 110, 111, 112, 113, 114, 115, 116, 117, 118, 119, 120, 121, 122, 123, 124, 125, 6, 126, 127, 128, 129, 7, 130, 131, 132, 133, 134, 135, 136, 137, 138, 139, 140, 141] [bR 7, bR 2, bR 3, bR 6] M (fun r M' => r = none ∧ M' = b_upl M [(7, 7, 1), (7, 8, 1), (7, 9, 1), (7, 10, 1), (7, 11, 1), (7, 12, 1), (7, 14, 1), (7, 15, 1), (7, 16, 1), (7, 17, 1), (7, 18, 1), (7, 19, 1), (7, 0, 1), (7, 1, 1), (7, 2, 1), (141, 3, -1)]) := by
  refine b_met (by decide) ⟨rfl, rfl⟩ (Nat.le_of_ble_eq_true rfl) (fun hA hRg => ?_)
  refine v_sub (ls2 := [(0, bR _), (1, bR _), (2, bR _), (3, bR _)]) [0, 1, 2, 3] rfl ?_
  refine v_aload_n (f := 0) 0 rfl dX2_init_0 ?_
  refine g_objInit wm_2_5 wob_i wob_c (Nat.le_of_ble_eq_true rfl) ⟨by decide, by decide⟩ dX2_init_1 ?_
  refine v_aload_n (f := 0) 0 rfl dX2_init_4 ?_
  refine v_bipush ⟨by decide, by decide⟩ (by decide) dX2_init_5 ?_
  refine g_newa_int kd_130 (by decide) (show (130 : Nat) ∉ ([0, 1, 72, 2, 76, 77, 78, 79, 80, 81, 82, 83, 84, 3, 85, 86, 87, 88, 89, 90, 91, 92, 93, 94, 95, 96, 97, 98, 99, 100, 101, 102, 103, 4, 107, 108, 109, 104, 105, 106, 12, 22, 32, 52, 62, 13, 23, 33, 53, 63, 14, 24, 34, 54, 64, 15, 25, 35, 55, 65, 16, 26, 36, 56, 66, 17, 27, 37, 57, 67, 18, 28, 38, 58, 68, 19, 29, 39, 59, 69, 20, 30, 40, 60, 70, 21, 31, 41, 61, 71, 5, 110, 111, 112, 113, 114, 115, 116, 117, 118, 119, 120, 121, 122, 123, 124, 125, 6, 126, 127, 128, 129, 7] : List Nat) from by decide) (by intro i; (try simp (disch := decide) only [b_upc]); exact h0 _ (by decide) i) (by decide +kernel) (by simp [b_nr]) (by simp [b_nr]) rfl (by decide) wa_int ⟨by decide, by decide⟩ dX2_init_7 ?_
  refine g_putR (kf := 7) (kz := 7) rfl (by decide) kd_7 rfl ⟨by decide, by decide⟩ rfl (by decide) rfl rfl wf_2_13 rfl (ty := tyX2 7) rfl (fun _ => ⟨rfl, rfl⟩) dX2_init_9 ?_
  refine v_aload_n (f := 0) 0 rfl dX2_init_12 ?_
  refine v_bipush ⟨by decide, by decide⟩ (by decide) dX2_init_13 ?_
  refine g_newa_int kd_131 (by decide) (show (131 : Nat) ∉ ([0, 1, 72, 2, 76, 77, 78, 79, 80, 81, 82, 83, 84, 3, 85, 86, 87, 88, 89, 90, 91, 92, 93, 94, 95, 96, 97, 98, 99, 100, 101, 102, 103, 4, 107, 108, 109, 104, 105, 106, 12, 22, 32, 52, 62, 13, 23, 33, 53, 63, 14, 24, 34, 54, 64, 15, 25, 35, 55, 65, 16, 26, 36, 56, 66, 17, 27, 37, 57, 67, 18, 28, 38, 58, 68, 19, 29, 39, 59, 69, 20, 30, 40, 60, 70, 21, 31, 41, 61, 71, 5, 110, 111, 112, 113, 114, 115, 116, 117, 118, 119, 120, 121, 122, 123, 124, 125, 6, 126, 127, 128, 129, 7] : List Nat) from by decide) (by intro i; (try simp (disch := decide) only [b_upc]); exact h0 _ (by decide) i) (by decide +kernel) (by simp [b_nr]) (by simp [b_nr]) rfl (by decide) wa_int ⟨by decide, by decide⟩ dX2_init_15 ?_
  refine g_putR (kf := 8) (kz := 8) rfl (by decide) kd_7 rfl ⟨by decide, by decide⟩ rfl (by decide) rfl rfl wf_2_17 rfl (ty := tyX2 8) rfl (fun _ => ⟨rfl, rfl⟩) dX2_init_17 ?_
  refine v_aload_n (f := 0) 0 rfl dX2_init_20 ?_
  refine v_bipush ⟨by decide, by decide⟩ (by decide) dX2_init_21 ?_
  refine g_newa_int kd_132 (by decide) (show (132 : Nat) ∉ ([0, 1, 72, 2, 76, 77, 78, 79, 80, 81, 82, 83, 84, 3, 85, 86, 87, 88, 89, 90, 91, 92, 93, 94, 95, 96, 97, 98, 99, 100, 101, 102, 103, 4, 107, 108, 109, 104, 105, 106, 12, 22, 32, 52, 62, 13, 23, 33, 53, 63, 14, 24, 34, 54, 64, 15, 25, 35, 55, 65, 16, 26, 36, 56, 66, 17, 27, 37, 57, 67, 18, 28, 38, 58, 68, 19, 29, 39, 59, 69, 20, 30, 40, 60, 70, 21, 31, 41, 61, 71, 5, 110, 111, 112, 113, 114, 115, 116, 117, 118, 119, 120, 121, 122, 123, 124, 125, 6, 126, 127, 128, 129, 7] : List Nat) from by decide) (by intro i; (try simp (disch := decide) only [b_upc]); exact h0 _ (by decide) i) (by decide +kernel) (by simp [b_nr]) (by simp [b_nr]) rfl (by decide) wa_int ⟨by decide, by decide⟩ dX2_init_23 ?_
  refine g_putR (kf := 9) (kz := 9) rfl (by decide) kd_7 rfl ⟨by decide, by decide⟩ rfl (by decide) rfl rfl wf_2_20 rfl (ty := tyX2 9) rfl (fun _ => ⟨rfl, rfl⟩) dX2_init_25 ?_
  refine v_aload_n (f := 0) 0 rfl dX2_init_28 ?_
  refine v_bipush ⟨by decide, by decide⟩ (by decide) dX2_init_29 ?_
  refine g_newa_int kd_133 (by decide) (show (133 : Nat) ∉ ([0, 1, 72, 2, 76, 77, 78, 79, 80, 81, 82, 83, 84, 3, 85, 86, 87, 88, 89, 90, 91, 92, 93, 94, 95, 96, 97, 98, 99, 100, 101, 102, 103, 4, 107, 108, 109, 104, 105, 106, 12, 22, 32, 52, 62, 13, 23, 33, 53, 63, 14, 24, 34, 54, 64, 15, 25, 35, 55, 65, 16, 26, 36, 56, 66, 17, 27, 37, 57, 67, 18, 28, 38, 58, 68, 19, 29, 39, 59, 69, 20, 30, 40, 60, 70, 21, 31, 41, 61, 71, 5, 110, 111, 112, 113, 114, 115, 116, 117, 118, 119, 120, 121, 122, 123, 124, 125, 6, 126, 127, 128, 129, 7] : List Nat) from by decide) (by intro i; (try simp (disch := decide) only [b_upc]); exact h0 _ (by decide) i) (by decide +kernel) (by simp [b_nr]) (by simp [b_nr]) rfl (by decide) wa_int ⟨by decide, by decide⟩ dX2_init_31 ?_
  refine g_putR (kf := 10) (kz := 10) rfl (by decide) kd_7 rfl ⟨by decide, by decide⟩ rfl (by decide) rfl rfl wf_2_23 rfl (ty := tyX2 10) rfl (fun _ => ⟨rfl, rfl⟩) dX2_init_33 ?_
  refine v_aload_n (f := 0) 0 rfl dX2_init_36 ?_
  refine v_bipush ⟨by decide, by decide⟩ (by decide) dX2_init_37 ?_
  refine g_newa_int kd_134 (by decide) (show (134 : Nat) ∉ ([0, 1, 72, 2, 76, 77, 78, 79, 80, 81, 82, 83, 84, 3, 85, 86, 87, 88, 89, 90, 91, 92, 93, 94, 95, 96, 97, 98, 99, 100, 101, 102, 103, 4, 107, 108, 109, 104, 105, 106, 12, 22, 32, 52, 62, 13, 23, 33, 53, 63, 14, 24, 34, 54, 64, 15, 25, 35, 55, 65, 16, 26, 36, 56, 66, 17, 27, 37, 57, 67, 18, 28, 38, 58, 68, 19, 29, 39, 59, 69, 20, 30, 40, 60, 70, 21, 31, 41, 61, 71, 5, 110, 111, 112, 113, 114, 115, 116, 117, 118, 119, 120, 121, 122, 123, 124, 125, 6, 126, 127, 128, 129, 7] : List Nat) from by decide) (by intro i; (try simp (disch := decide) only [b_upc]); exact h0 _ (by decide) i) (by decide +kernel) (by simp [b_nr]) (by simp [b_nr]) rfl (by decide) wa_int ⟨by decide, by decide⟩ dX2_init_39 ?_
  refine g_putR (kf := 11) (kz := 11) rfl (by decide) kd_7 rfl ⟨by decide, by decide⟩ rfl (by decide) rfl rfl wf_2_26 rfl (ty := tyX2 11) rfl (fun _ => ⟨rfl, rfl⟩) dX2_init_41 ?_
  refine v_aload_n (f := 0) 0 rfl dX2_init_44 ?_
  refine v_bipush ⟨by decide, by decide⟩ (by decide) dX2_init_45 ?_
  refine g_newa_int kd_135 (by decide) (show (135 : Nat) ∉ ([0, 1, 72, 2, 76, 77, 78, 79, 80, 81, 82, 83, 84, 3, 85, 86, 87, 88, 89, 90, 91, 92, 93, 94, 95, 96, 97, 98, 99, 100, 101, 102, 103, 4, 107, 108, 109, 104, 105, 106, 12, 22, 32, 52, 62, 13, 23, 33, 53, 63, 14, 24, 34, 54, 64, 15, 25, 35, 55, 65, 16, 26, 36, 56, 66, 17, 27, 37, 57, 67, 18, 28, 38, 58, 68, 19, 29, 39, 59, 69, 20, 30, 40, 60, 70, 21, 31, 41, 61, 71, 5, 110, 111, 112, 113, 114, 115, 116, 117, 118, 119, 120, 121, 122, 123, 124, 125, 6, 126, 127, 128, 129, 7] : List Nat) from by decide) (by intro i; (try simp (disch := decide) only [b_upc]); exact h0 _ (by decide) i) (by decide +kernel) (by simp [b_nr]) (by simp [b_nr]) rfl (by decide) wa_int ⟨by decide, by decide⟩ dX2_init_47 ?_
  refine g_putR (kf := 12) (kz := 12) rfl (by decide) kd_7 rfl ⟨by decide, by decide⟩ rfl (by decide) rfl rfl wf_2_29 rfl (ty := tyX2 12) rfl (fun _ => ⟨rfl, rfl⟩) dX2_init_49 ?_
  refine v_aload_n (f := 0) 0 rfl dX2_init_52 ?_
  refine v_bipush ⟨by decide, by decide⟩ (by decide) dX2_init_53 ?_
  refine g_newa_int kd_136 (by decide) (show (136 : Nat) ∉ ([0, 1, 72, 2, 76, 77, 78, 79, 80, 81, 82, 83, 84, 3, 85, 86, 87, 88, 89, 90, 91, 92, 93, 94, 95, 96, 97, 98, 99, 100, 101, 102, 103, 4, 107, 108, 109, 104, 105, 106, 12, 22, 32, 52, 62, 13, 23, 33, 53, 63, 14, 24, 34, 54, 64, 15, 25, 35, 55, 65, 16, 26, 36, 56, 66, 17, 27, 37, 57, 67, 18, 28, 38, 58, 68, 19, 29, 39, 59, 69, 20, 30, 40, 60, 70, 21, 31, 41, 61, 71, 5, 110, 111, 112, 113, 114, 115, 116, 117, 118, 119, 120, 121, 122, 123, 124, 125, 6, 126, 127, 128, 129, 7] : List Nat) from by decide) (by intro i; (try simp (disch := decide) only [b_upc]); exact h0 _ (by decide) i) (by decide +kernel) (by simp [b_nr]) (by simp [b_nr]) rfl (by decide) wa_int ⟨by decide, by decide⟩ dX2_init_55 ?_
  refine g_putR (kf := 14) (kz := 14) rfl (by decide) kd_7 rfl ⟨by decide, by decide⟩ rfl (by decide) rfl rfl wf_2_34 rfl (ty := tyX2 14) rfl (fun _ => ⟨rfl, rfl⟩) dX2_init_57 ?_
  refine v_aload_n (f := 0) 0 rfl dX2_init_60 ?_
  refine v_sipush ⟨by decide, by decide⟩ (by decide) dX2_init_61 ?_
  refine g_newa_int kd_137 (by decide) (show (137 : Nat) ∉ ([0, 1, 72, 2, 76, 77, 78, 79, 80, 81, 82, 83, 84, 3, 85, 86, 87, 88, 89, 90, 91, 92, 93, 94, 95, 96, 97, 98, 99, 100, 101, 102, 103, 4, 107, 108, 109, 104, 105, 106, 12, 22, 32, 52, 62, 13, 23, 33, 53, 63, 14, 24, 34, 54, 64, 15, 25, 35, 55, 65, 16, 26, 36, 56, 66, 17, 27, 37, 57, 67, 18, 28, 38, 58, 68, 19, 29, 39, 59, 69, 20, 30, 40, 60, 70, 21, 31, 41, 61, 71, 5, 110, 111, 112, 113, 114, 115, 116, 117, 118, 119, 120, 121, 122, 123, 124, 125, 6, 126, 127, 128, 129, 7] : List Nat) from by decide) (by intro i; (try simp (disch := decide) only [b_upc]); exact h0 _ (by decide) i) (by decide +kernel) (by simp [b_nr]) (by simp [b_nr]) rfl (by decide) wa_int ⟨by decide, by decide⟩ dX2_init_64 ?_
  refine g_putR (kf := 15) (kz := 15) rfl (by decide) kd_7 rfl ⟨by decide, by decide⟩ rfl (by decide) rfl rfl wf_2_37 rfl (ty := tyX2 15) rfl (fun _ => ⟨rfl, rfl⟩) dX2_init_66 ?_
  refine v_aload_n (f := 0) 0 rfl dX2_init_69 ?_
  refine v_bipush ⟨by decide, by decide⟩ (by decide) dX2_init_70 ?_
  refine g_newa_int kd_138 (by decide) (show (138 : Nat) ∉ ([0, 1, 72, 2, 76, 77, 78, 79, 80, 81, 82, 83, 84, 3, 85, 86, 87, 88, 89, 90, 91, 92, 93, 94, 95, 96, 97, 98, 99, 100, 101, 102, 103, 4, 107, 108, 109, 104, 105, 106, 12, 22, 32, 52, 62, 13, 23, 33, 53, 63, 14, 24, 34, 54, 64, 15, 25, 35, 55, 65, 16, 26, 36, 56, 66, 17, 27, 37, 57, 67, 18, 28, 38, 58, 68, 19, 29, 39, 59, 69, 20, 30, 40, 60, 70, 21, 31, 41, 61, 71, 5, 110, 111, 112, 113, 114, 115, 116, 117, 118, 119, 120, 121, 122, 123, 124, 125, 6, 126, 127, 128, 129, 7] : List Nat) from by decide) (by intro i; (try simp (disch := decide) only [b_upc]); exact h0 _ (by decide) i) (by decide +kernel) (by simp [b_nr]) (by simp [b_nr]) rfl (by decide) wa_int ⟨by decide, by decide⟩ dX2_init_72 ?_
  refine g_putR (kf := 16) (kz := 16) rfl (by decide) kd_7 rfl ⟨by decide, by decide⟩ rfl (by decide) rfl rfl wf_2_40 rfl (ty := tyX2 16) rfl (fun _ => ⟨rfl, rfl⟩) dX2_init_74 ?_
  refine v_aload_n (f := 0) 0 rfl dX2_init_77 ?_
  refine v_bipush ⟨by decide, by decide⟩ (by decide) dX2_init_78 ?_
  refine g_newa_int kd_139 (by decide) (show (139 : Nat) ∉ ([0, 1, 72, 2, 76, 77, 78, 79, 80, 81, 82, 83, 84, 3, 85, 86, 87, 88, 89, 90, 91, 92, 93, 94, 95, 96, 97, 98, 99, 100, 101, 102, 103, 4, 107, 108, 109, 104, 105, 106, 12, 22, 32, 52, 62, 13, 23, 33, 53, 63, 14, 24, 34, 54, 64, 15, 25, 35, 55, 65, 16, 26, 36, 56, 66, 17, 27, 37, 57, 67, 18, 28, 38, 58, 68, 19, 29, 39, 59, 69, 20, 30, 40, 60, 70, 21, 31, 41, 61, 71, 5, 110, 111, 112, 113, 114, 115, 116, 117, 118, 119, 120, 121, 122, 123, 124, 125, 6, 126, 127, 128, 129, 7] : List Nat) from by decide) (by intro i; (try simp (disch := decide) only [b_upc]); exact h0 _ (by decide) i) (by decide +kernel) (by simp [b_nr]) (by simp [b_nr]) rfl (by decide) wa_int ⟨by decide, by decide⟩ dX2_init_80 ?_
  refine g_putR (kf := 17) (kz := 17) rfl (by decide) kd_7 rfl ⟨by decide, by decide⟩ rfl (by decide) rfl rfl wf_2_43 rfl (ty := tyX2 17) rfl (fun _ => ⟨rfl, rfl⟩) dX2_init_82 ?_
  refine v_aload_n (f := 0) 0 rfl dX2_init_85 ?_
  refine v_bipush ⟨by decide, by decide⟩ (by decide) dX2_init_86 ?_
  refine g_newa_int kd_140 (by decide) (show (140 : Nat) ∉ ([0, 1, 72, 2, 76, 77, 78, 79, 80, 81, 82, 83, 84, 3, 85, 86, 87, 88, 89, 90, 91, 92, 93, 94, 95, 96, 97, 98, 99, 100, 101, 102, 103, 4, 107, 108, 109, 104, 105, 106, 12, 22, 32, 52, 62, 13, 23, 33, 53, 63, 14, 24, 34, 54, 64, 15, 25, 35, 55, 65, 16, 26, 36, 56, 66, 17, 27, 37, 57, 67, 18, 28, 38, 58, 68, 19, 29, 39, 59, 69, 20, 30, 40, 60, 70, 21, 31, 41, 61, 71, 5, 110, 111, 112, 113, 114, 115, 116, 117, 118, 119, 120, 121, 122, 123, 124, 125, 6, 126, 127, 128, 129, 7] : List Nat) from by decide) (by intro i; (try simp (disch := decide) only [b_upc]); exact h0 _ (by decide) i) (by decide +kernel) (by simp [b_nr]) (by simp [b_nr]) rfl (by decide) wa_int ⟨by decide, by decide⟩ dX2_init_88 ?_
  refine g_putR (kf := 18) (kz := 18) rfl (by decide) kd_7 rfl ⟨by decide, by decide⟩ rfl (by decide) rfl rfl wf_2_46 rfl (ty := tyX2 18) rfl (fun _ => ⟨rfl, rfl⟩) dX2_init_90 ?_
  refine v_aload_n (f := 0) 0 rfl dX2_init_93 ?_
  refine v_bipush ⟨by decide, by decide⟩ (by decide) dX2_init_94 ?_
  refine g_newa_int kd_141 (by decide) (show (141 : Nat) ∉ ([0, 1, 72, 2, 76, 77, 78, 79, 80, 81, 82, 83, 84, 3, 85, 86, 87, 88, 89, 90, 91, 92, 93, 94, 95, 96, 97, 98, 99, 100, 101, 102, 103, 4, 107, 108, 109, 104, 105, 106, 12, 22, 32, 52, 62, 13, 23, 33, 53, 63, 14, 24, 34, 54, 64, 15, 25, 35, 55, 65, 16, 26, 36, 56, 66, 17, 27, 37, 57, 67, 18, 28, 38, 58, 68, 19, 29, 39, 59, 69, 20, 30, 40, 60, 70, 21, 31, 41, 61, 71, 5, 110, 111, 112, 113, 114, 115, 116, 117, 118, 119, 120, 121, 122, 123, 124, 125, 6, 126, 127, 128, 129, 7] : List Nat) from by decide) (by intro i; (try simp (disch := decide) only [b_upc]); exact h0 _ (by decide) i) (by decide +kernel) (by simp [b_nr]) (by simp [b_nr]) rfl (by decide) wa_int ⟨by decide, by decide⟩ dX2_init_96 ?_
  refine g_putR (kf := 19) (kz := 19) rfl (by decide) kd_7 rfl ⟨by decide, by decide⟩ rfl (by decide) rfl rfl wf_2_49 rfl (ty := tyX2 19) rfl (fun _ => ⟨rfl, rfl⟩) dX2_init_98 ?_
  refine v_aload_n (f := 0) 0 rfl dX2_init_101 ?_
  refine v_aload_n (f := 1) 1 rfl dX2_init_102 ?_
  refine g_putR (kf := 0) (kz := 0) rfl (by decide) kd_7 rfl ⟨by decide, by decide⟩ rfl (by decide) rfl rfl wf_2_52 rfl (ty := tyX2 0) rfl (fun _ => ⟨rfl, rfl⟩) dX2_init_103 ?_
  refine v_aload_n (f := 0) 0 rfl dX2_init_106 ?_
  refine v_aload_n (f := 2) 2 rfl dX2_init_107 ?_
  refine g_putR (kf := 1) (kz := 1) rfl (by decide) kd_7 rfl ⟨by decide, by decide⟩ rfl (by decide) rfl rfl wf_2_56 rfl (ty := tyX2 1) rfl (fun _ => ⟨rfl, rfl⟩) dX2_init_108 ?_
  refine v_aload_n (f := 0) 0 rfl dX2_init_111 ?_
  refine v_aload_n (f := 3) 3 rfl dX2_init_112 ?_
  refine g_putR (kf := 2) (kz := 2) rfl (by decide) kd_7 rfl ⟨by decide, by decide⟩ rfl (by decide) rfl rfl wf_2_60 rfl (ty := tyX2 2) rfl (fun _ => ⟨rfl, rfl⟩) dX2_init_113 ?_
  refine v_aload_n (f := 0) 0 rfl dX2_init_116 ?_
  refine g_getR (Or.inr (by simp (disch := decide) only [b_upc, b_upi, b_ups]; decide))  (kf := 19) (kz := 19) rfl (by decide) kd_7 rfl ⟨by decide, by decide⟩ rfl wf_2_49 dX2_init_117 ?_
  refine v_iconst ⟨by decide, by decide⟩ dX2_init_120 ?_
  refine v_iconst ⟨by decide, by decide⟩ dX2_init_121 ?_
  refine g_iastore (by decide) kd_141 (by first | omega | (simp (disch := decide) only [b_upc, b_upi, b_ups]; omega)) (by decide) dX2_init_122 ?_
  refine v_return rfl dX2_init_123 ⟨by decide, by decide⟩ ?_
  exact ⟨rfl, rfl⟩
abbrev xX6_init : bX := ("BurntHall$Mortgages", prog_8_method_1_code, 3, (Option.none : Option Jvm.ClassFile.FieldType), b_rm 1 5 200, 1, "<init>")
abbrev yX6_init : MethodName := ⟨"BurntHall$Mortgages", "<init>", "(LBurntHall$Lots;LBurntHall$Acts;)V"⟩
theorem dX6_init_0 : decode prog_8_method_1_code 0 = .ok (.aload_n 0, 1) := by decide +kernel
theorem dX6_init_1 : decode prog_8_method_1_code 1 = .ok (.invokespecial 3, 3) := by decide +kernel
theorem dX6_init_4 : decode prog_8_method_1_code 4 = .ok (.aload_n 0, 1) := by decide +kernel
theorem dX6_init_5 : decode prog_8_method_1_code 5 = .ok (.bipush 40, 2) := by decide +kernel
theorem dX6_init_7 : decode prog_8_method_1_code 7 = .ok (.newarray .int, 2) := by decide +kernel
theorem dX6_init_9 : decode prog_8_method_1_code 9 = .ok (.putfield 11, 3) := by decide +kernel
theorem dX6_init_12 : decode prog_8_method_1_code 12 = .ok (.aload_n 0, 1) := by decide +kernel
theorem dX6_init_13 : decode prog_8_method_1_code 13 = .ok (.bipush 40, 2) := by decide +kernel
theorem dX6_init_15 : decode prog_8_method_1_code 15 = .ok (.newarray .int, 2) := by decide +kernel
theorem dX6_init_17 : decode prog_8_method_1_code 17 = .ok (.putfield 15, 3) := by decide +kernel
theorem dX6_init_20 : decode prog_8_method_1_code 20 = .ok (.aload_n 0, 1) := by decide +kernel
theorem dX6_init_21 : decode prog_8_method_1_code 21 = .ok (.bipush 40, 2) := by decide +kernel
theorem dX6_init_23 : decode prog_8_method_1_code 23 = .ok (.newarray .int, 2) := by decide +kernel
theorem dX6_init_25 : decode prog_8_method_1_code 25 = .ok (.putfield 18, 3) := by decide +kernel
theorem dX6_init_28 : decode prog_8_method_1_code 28 = .ok (.aload_n 0, 1) := by decide +kernel
theorem dX6_init_29 : decode prog_8_method_1_code 29 = .ok (.bipush 40, 2) := by decide +kernel
theorem dX6_init_31 : decode prog_8_method_1_code 31 = .ok (.newarray .int, 2) := by decide +kernel
theorem dX6_init_33 : decode prog_8_method_1_code 33 = .ok (.putfield 21, 3) := by decide +kernel
theorem dX6_init_36 : decode prog_8_method_1_code 36 = .ok (.aload_n 0, 1) := by decide +kernel
theorem dX6_init_37 : decode prog_8_method_1_code 37 = .ok (.bipush 40, 2) := by decide +kernel
theorem dX6_init_39 : decode prog_8_method_1_code 39 = .ok (.newarray .int, 2) := by decide +kernel
theorem dX6_init_41 : decode prog_8_method_1_code 41 = .ok (.putfield 24, 3) := by decide +kernel
theorem dX6_init_44 : decode prog_8_method_1_code 44 = .ok (.aload_n 0, 1) := by decide +kernel
theorem dX6_init_45 : decode prog_8_method_1_code 45 = .ok (.aload_n 1, 1) := by decide +kernel
theorem dX6_init_46 : decode prog_8_method_1_code 46 = .ok (.putfield 27, 3) := by decide +kernel
theorem dX6_init_49 : decode prog_8_method_1_code 49 = .ok (.aload_n 0, 1) := by decide +kernel
theorem dX6_init_50 : decode prog_8_method_1_code 50 = .ok (.aload_n 2, 1) := by decide +kernel
theorem dX6_init_51 : decode prog_8_method_1_code 51 = .ok (.putfield 31, 3) := by decide +kernel
theorem dX6_init_54 : decode prog_8_method_1_code 54 = .ok (.return_, 1) := by decide +kernel
theorem c_X6_init {l : Launch} {E : bE} {M : bM} (h0 : ∀ c ∈ ([142, 143, 144, 145, 146] : List Nat), ∀ i, M c i = 0) : b_CL l E xX6_init yX6_init [0, 1, 72, 2, 76, 77, 78, 79, 80, 81, 82, 83, 84, 3, 85, 86, 87, 88, 89, 90, 91, 92, 93, 94, 95, 96, 97, 98, 99, 100, 101, 102, 103, 4, 107, 108, 109, 104, 105, 106, 12, 22, 32, 52, 62, 13, 23, 33, 53, 63, 14, 24, 34, 54, 64, 15, 25, 35, 55, 65, 16, 26, 36, 56, 66, 17, 27, 37, 57, 67, 18, 28, 38, 58, 68, 19, 29, 39, 59, 69, 20, 30, 40, 60, 70, 21, 31, 41, 61, 71, 5, 110, 111, 112, 113, 114, 115, 116, 117, 118, 119, 120, 121, 122, 123, 124, 125, 6, 126, 127, 128, 129, 7, 130, 131, 132, 133, 134, 135, 136, 137, 138, 139, 140, 141, 8] [0, 1, 72, 2, 76, 77, 78, 79, 80, 81, 82, 83, 84, 3, 85, 86, 87, 88, 89, 90, 91, 92, 93, 94, 95, 96, 97, 98, 99, 100, 101, 102, 103, 4, 107, 108, 109, 104, 105, 106, 12, 22, 32, 52, 62, 13, 23, 33, 53, 63, 14, 24, 34, 54, 64, 15, 25, 35, 55, 65, 16, 26, 36, 56, 66, 17, 27, 37, 57, 67, 18, 28, 38, 58, 68, 19, 29, 39, 59, 69, 20, 30, 40, 60, 70, 21, 31, 41, 61, 71, 5, 110, 111, 112, 113, 114, 115, 116, 117, 118, 119, 120, 121, 122, 123, 124, 125, 6, 126, 127, 128, 129, 7, 130, 131, 132, 133, 134, 135, 136, 137, 138, 139, 140, 141, 8, 142, 143, 144, 145, 146] [bR 8, bR 3, bR 4] M (fun r M' => r = none ∧ M' = b_upl M [(8, 3, 1), (8, 4, 1), (8, 5, 1), (8, 6, 1), (8, 7, 1), (8, 1, 1), (8, 2, 1)]) := by
  refine b_met (by decide) ⟨rfl, rfl⟩ (Nat.le_of_ble_eq_true rfl) (fun hA hRg => ?_)
  refine v_sub (ls2 := [(0, bR _), (1, bR _), (2, bR _)]) [0, 1, 2] rfl ?_
  refine v_aload_n (f := 0) 0 rfl dX6_init_0 ?_
  refine g_objInit wm_6_3 wob_i wob_c (Nat.le_of_ble_eq_true rfl) ⟨by decide, by decide⟩ dX6_init_1 ?_
  refine v_aload_n (f := 0) 0 rfl dX6_init_4 ?_
  refine v_bipush ⟨by decide, by decide⟩ (by decide) dX6_init_5 ?_
  refine g_newa_int kd_142 (by decide) (show (142 : Nat) ∉ ([0, 1, 72, 2, 76, 77, 78, 79, 80, 81, 82, 83, 84, 3, 85, 86, 87, 88, 89, 90, 91, 92, 93, 94, 95, 96, 97, 98, 99, 100, 101, 102, 103, 4, 107, 108, 109, 104, 105, 106, 12, 22, 32, 52, 62, 13, 23, 33, 53, 63, 14, 24, 34, 54, 64, 15, 25, 35, 55, 65, 16, 26, 36, 56, 66, 17, 27, 37, 57, 67, 18, 28, 38, 58, 68, 19, 29, 39, 59, 69, 20, 30, 40, 60, 70, 21, 31, 41, 61, 71, 5, 110, 111, 112, 113, 114, 115, 116, 117, 118, 119, 120, 121, 122, 123, 124, 125, 6, 126, 127, 128, 129, 7, 130, 131, 132, 133, 134, 135, 136, 137, 138, 139, 140, 141, 8] : List Nat) from by decide) (by intro i; (try simp (disch := decide) only [b_upc]); exact h0 _ (by decide) i) (by decide +kernel) (by simp [b_nr]) (by simp [b_nr]) rfl (by decide) wa_int ⟨by decide, by decide⟩ dX6_init_7 ?_
  refine g_putR (kf := 3) (kz := 3) rfl (by decide) kd_8 rfl ⟨by decide, by decide⟩ rfl (by decide) rfl rfl wf_6_11 rfl (ty := tyX6 3) rfl (fun _ => ⟨rfl, rfl⟩) dX6_init_9 ?_
  refine v_aload_n (f := 0) 0 rfl dX6_init_12 ?_
  refine v_bipush ⟨by decide, by decide⟩ (by decide) dX6_init_13 ?_
  refine g_newa_int kd_143 (by decide) (show (143 : Nat) ∉ ([0, 1, 72, 2, 76, 77, 78, 79, 80, 81, 82, 83, 84, 3, 85, 86, 87, 88, 89, 90, 91, 92, 93, 94, 95, 96, 97, 98, 99, 100, 101, 102, 103, 4, 107, 108, 109, 104, 105, 106, 12, 22, 32, 52, 62, 13, 23, 33, 53, 63, 14, 24, 34, 54, 64, 15, 25, 35, 55, 65, 16, 26, 36, 56, 66, 17, 27, 37, 57, 67, 18, 28, 38, 58, 68, 19, 29, 39, 59, 69, 20, 30, 40, 60, 70, 21, 31, 41, 61, 71, 5, 110, 111, 112, 113, 114, 115, 116, 117, 118, 119, 120, 121, 122, 123, 124, 125, 6, 126, 127, 128, 129, 7, 130, 131, 132, 133, 134, 135, 136, 137, 138, 139, 140, 141, 8] : List Nat) from by decide) (by intro i; (try simp (disch := decide) only [b_upc]); exact h0 _ (by decide) i) (by decide +kernel) (by simp [b_nr]) (by simp [b_nr]) rfl (by decide) wa_int ⟨by decide, by decide⟩ dX6_init_15 ?_
  refine g_putR (kf := 4) (kz := 4) rfl (by decide) kd_8 rfl ⟨by decide, by decide⟩ rfl (by decide) rfl rfl wf_6_15 rfl (ty := tyX6 4) rfl (fun _ => ⟨rfl, rfl⟩) dX6_init_17 ?_
  refine v_aload_n (f := 0) 0 rfl dX6_init_20 ?_
  refine v_bipush ⟨by decide, by decide⟩ (by decide) dX6_init_21 ?_
  refine g_newa_int kd_144 (by decide) (show (144 : Nat) ∉ ([0, 1, 72, 2, 76, 77, 78, 79, 80, 81, 82, 83, 84, 3, 85, 86, 87, 88, 89, 90, 91, 92, 93, 94, 95, 96, 97, 98, 99, 100, 101, 102, 103, 4, 107, 108, 109, 104, 105, 106, 12, 22, 32, 52, 62, 13, 23, 33, 53, 63, 14, 24, 34, 54, 64, 15, 25, 35, 55, 65, 16, 26, 36, 56, 66, 17, 27, 37, 57, 67, 18, 28, 38, 58, 68, 19, 29, 39, 59, 69, 20, 30, 40, 60, 70, 21, 31, 41, 61, 71, 5, 110, 111, 112, 113, 114, 115, 116, 117, 118, 119, 120, 121, 122, 123, 124, 125, 6, 126, 127, 128, 129, 7, 130, 131, 132, 133, 134, 135, 136, 137, 138, 139, 140, 141, 8] : List Nat) from by decide) (by intro i; (try simp (disch := decide) only [b_upc]); exact h0 _ (by decide) i) (by decide +kernel) (by simp [b_nr]) (by simp [b_nr]) rfl (by decide) wa_int ⟨by decide, by decide⟩ dX6_init_23 ?_
  refine g_putR (kf := 5) (kz := 5) rfl (by decide) kd_8 rfl ⟨by decide, by decide⟩ rfl (by decide) rfl rfl wf_6_18 rfl (ty := tyX6 5) rfl (fun _ => ⟨rfl, rfl⟩) dX6_init_25 ?_
  refine v_aload_n (f := 0) 0 rfl dX6_init_28 ?_
  refine v_bipush ⟨by decide, by decide⟩ (by decide) dX6_init_29 ?_
  refine g_newa_int kd_145 (by decide) (show (145 : Nat) ∉ ([0, 1, 72, 2, 76, 77, 78, 79, 80, 81, 82, 83, 84, 3, 85, 86, 87, 88, 89, 90, 91, 92, 93, 94, 95, 96, 97, 98, 99, 100, 101, 102, 103, 4, 107, 108, 109, 104, 105, 106, 12, 22, 32, 52, 62, 13, 23, 33, 53, 63, 14, 24, 34, 54, 64, 15, 25, 35, 55, 65, 16, 26, 36, 56, 66, 17, 27, 37, 57, 67, 18, 28, 38, 58, 68, 19, 29, 39, 59, 69, 20, 30, 40, 60, 70, 21, 31, 41, 61, 71, 5, 110, 111, 112, 113, 114, 115, 116, 117, 118, 119, 120, 121, 122, 123, 124, 125, 6, 126, 127, 128, 129, 7, 130, 131, 132, 133, 134, 135, 136, 137, 138, 139, 140, 141, 8] : List Nat) from by decide) (by intro i; (try simp (disch := decide) only [b_upc]); exact h0 _ (by decide) i) (by decide +kernel) (by simp [b_nr]) (by simp [b_nr]) rfl (by decide) wa_int ⟨by decide, by decide⟩ dX6_init_31 ?_
  refine g_putR (kf := 6) (kz := 6) rfl (by decide) kd_8 rfl ⟨by decide, by decide⟩ rfl (by decide) rfl rfl wf_6_21 rfl (ty := tyX6 6) rfl (fun _ => ⟨rfl, rfl⟩) dX6_init_33 ?_
  refine v_aload_n (f := 0) 0 rfl dX6_init_36 ?_
  refine v_bipush ⟨by decide, by decide⟩ (by decide) dX6_init_37 ?_
  refine g_newa_int kd_146 (by decide) (show (146 : Nat) ∉ ([0, 1, 72, 2, 76, 77, 78, 79, 80, 81, 82, 83, 84, 3, 85, 86, 87, 88, 89, 90, 91, 92, 93, 94, 95, 96, 97, 98, 99, 100, 101, 102, 103, 4, 107, 108, 109, 104, 105, 106, 12, 22, 32, 52, 62, 13, 23, 33, 53, 63, 14, 24, 34, 54, 64, 15, 25, 35, 55, 65, 16, 26, 36, 56, 66, 17, 27, 37, 57, 67, 18, 28, 38, 58, 68, 19, 29, 39, 59, 69, 20, 30, 40, 60, 70, 21, 31, 41, 61, 71, 5, 110, 111, 112, 113, 114, 115, 116, 117, 118, 119, 120, 121, 122, 123, 124, 125, 6, 126, 127, 128, 129, 7, 130, 131, 132, 133, 134, 135, 136, 137, 138, 139, 140, 141, 8] : List Nat) from by decide) (by intro i; (try simp (disch := decide) only [b_upc]); exact h0 _ (by decide) i) (by decide +kernel) (by simp [b_nr]) (by simp [b_nr]) rfl (by decide) wa_int ⟨by decide, by decide⟩ dX6_init_39 ?_
  refine g_putR (kf := 7) (kz := 7) rfl (by decide) kd_8 rfl ⟨by decide, by decide⟩ rfl (by decide) rfl rfl wf_6_24 rfl (ty := tyX6 7) rfl (fun _ => ⟨rfl, rfl⟩) dX6_init_41 ?_
  refine v_aload_n (f := 0) 0 rfl dX6_init_44 ?_
  refine v_aload_n (f := 1) 1 rfl dX6_init_45 ?_
  refine g_putR (kf := 1) (kz := 1) rfl (by decide) kd_8 rfl ⟨by decide, by decide⟩ rfl (by decide) rfl rfl wf_6_27 rfl (ty := tyX6 1) rfl (fun _ => ⟨rfl, rfl⟩) dX6_init_46 ?_
  refine v_aload_n (f := 0) 0 rfl dX6_init_49 ?_
  refine v_aload_n (f := 2) 2 rfl dX6_init_50 ?_
  refine g_putR (kf := 2) (kz := 2) rfl (by decide) kd_8 rfl ⟨by decide, by decide⟩ rfl (by decide) rfl rfl wf_6_31 rfl (ty := tyX6 2) rfl (fun _ => ⟨rfl, rfl⟩) dX6_init_51 ?_
  refine v_return rfl dX6_init_54 ⟨by decide, by decide⟩ ?_
  exact ⟨rfl, rfl⟩
abbrev xX3_init : bX := ("BurntHall$Claims", prog_5_method_1_code, 4, (Option.none : Option Jvm.ClassFile.FieldType), b_rm 1 8 330, 1, "<init>")
abbrev yX3_init : MethodName := ⟨"BurntHall$Claims", "<init>", "(LBurntHall$Acts;LBurntHall$Evidence;LBurntHall$Chains;)V"⟩
theorem dX3_init_0 : decode prog_5_method_1_code 0 = .ok (.aload_n 0, 1) := by decide +kernel
theorem dX3_init_1 : decode prog_5_method_1_code 1 = .ok (.invokespecial 3, 3) := by decide +kernel
theorem dX3_init_4 : decode prog_5_method_1_code 4 = .ok (.aload_n 0, 1) := by decide +kernel
theorem dX3_init_5 : decode prog_5_method_1_code 5 = .ok (.bipush 30, 2) := by decide +kernel
theorem dX3_init_7 : decode prog_5_method_1_code 7 = .ok (.newarray .int, 2) := by decide +kernel
theorem dX3_init_9 : decode prog_5_method_1_code 9 = .ok (.putfield 11, 3) := by decide +kernel
theorem dX3_init_12 : decode prog_5_method_1_code 12 = .ok (.aload_n 0, 1) := by decide +kernel
theorem dX3_init_13 : decode prog_5_method_1_code 13 = .ok (.bipush 30, 2) := by decide +kernel
theorem dX3_init_15 : decode prog_5_method_1_code 15 = .ok (.newarray .int, 2) := by decide +kernel
theorem dX3_init_17 : decode prog_5_method_1_code 17 = .ok (.putfield 15, 3) := by decide +kernel
theorem dX3_init_20 : decode prog_5_method_1_code 20 = .ok (.aload_n 0, 1) := by decide +kernel
theorem dX3_init_21 : decode prog_5_method_1_code 21 = .ok (.bipush 30, 2) := by decide +kernel
theorem dX3_init_23 : decode prog_5_method_1_code 23 = .ok (.newarray .int, 2) := by decide +kernel
theorem dX3_init_25 : decode prog_5_method_1_code 25 = .ok (.putfield 18, 3) := by decide +kernel
theorem dX3_init_28 : decode prog_5_method_1_code 28 = .ok (.aload_n 0, 1) := by decide +kernel
theorem dX3_init_29 : decode prog_5_method_1_code 29 = .ok (.bipush 30, 2) := by decide +kernel
theorem dX3_init_31 : decode prog_5_method_1_code 31 = .ok (.newarray .int, 2) := by decide +kernel
theorem dX3_init_33 : decode prog_5_method_1_code 33 = .ok (.putfield 21, 3) := by decide +kernel
theorem dX3_init_36 : decode prog_5_method_1_code 36 = .ok (.aload_n 0, 1) := by decide +kernel
theorem dX3_init_37 : decode prog_5_method_1_code 37 = .ok (.bipush 30, 2) := by decide +kernel
theorem dX3_init_39 : decode prog_5_method_1_code 39 = .ok (.newarray .int, 2) := by decide +kernel
theorem dX3_init_41 : decode prog_5_method_1_code 41 = .ok (.putfield 24, 3) := by decide +kernel
theorem dX3_init_44 : decode prog_5_method_1_code 44 = .ok (.aload_n 0, 1) := by decide +kernel
theorem dX3_init_45 : decode prog_5_method_1_code 45 = .ok (.bipush 60, 2) := by decide +kernel
theorem dX3_init_47 : decode prog_5_method_1_code 47 = .ok (.newarray .int, 2) := by decide +kernel
theorem dX3_init_49 : decode prog_5_method_1_code 49 = .ok (.putfield 29, 3) := by decide +kernel
theorem dX3_init_52 : decode prog_5_method_1_code 52 = .ok (.aload_n 0, 1) := by decide +kernel
theorem dX3_init_53 : decode prog_5_method_1_code 53 = .ok (.bipush 60, 2) := by decide +kernel
theorem dX3_init_55 : decode prog_5_method_1_code 55 = .ok (.newarray .int, 2) := by decide +kernel
theorem dX3_init_57 : decode prog_5_method_1_code 57 = .ok (.putfield 32, 3) := by decide +kernel
theorem dX3_init_60 : decode prog_5_method_1_code 60 = .ok (.aload_n 0, 1) := by decide +kernel
theorem dX3_init_61 : decode prog_5_method_1_code 61 = .ok (.bipush 60, 2) := by decide +kernel
theorem dX3_init_63 : decode prog_5_method_1_code 63 = .ok (.newarray .int, 2) := by decide +kernel
theorem dX3_init_65 : decode prog_5_method_1_code 65 = .ok (.putfield 35, 3) := by decide +kernel
theorem dX3_init_68 : decode prog_5_method_1_code 68 = .ok (.aload_n 0, 1) := by decide +kernel
theorem dX3_init_69 : decode prog_5_method_1_code 69 = .ok (.aload_n 1, 1) := by decide +kernel
theorem dX3_init_70 : decode prog_5_method_1_code 70 = .ok (.putfield 38, 3) := by decide +kernel
theorem dX3_init_73 : decode prog_5_method_1_code 73 = .ok (.aload_n 0, 1) := by decide +kernel
theorem dX3_init_74 : decode prog_5_method_1_code 74 = .ok (.aload_n 2, 1) := by decide +kernel
theorem dX3_init_75 : decode prog_5_method_1_code 75 = .ok (.putfield 42, 3) := by decide +kernel
theorem dX3_init_78 : decode prog_5_method_1_code 78 = .ok (.aload_n 0, 1) := by decide +kernel
theorem dX3_init_79 : decode prog_5_method_1_code 79 = .ok (.aload_n 3, 1) := by decide +kernel
theorem dX3_init_80 : decode prog_5_method_1_code 80 = .ok (.putfield 46, 3) := by decide +kernel
theorem dX3_init_83 : decode prog_5_method_1_code 83 = .ok (.return_, 1) := by decide +kernel
theorem c_X3_init {l : Launch} {E : bE} {M : bM} (h0 : ∀ c ∈ ([147, 148, 149, 150, 151, 152, 153, 154] : List Nat), ∀ i, M c i = 0) : b_CL l E xX3_init yX3_init [0, 1, 72, 2, 76, 77, 78, 79, 80, 81, 82, 83, 84, 3, 85, 86, 87, 88, 89, 90, 91, 92, 93, 94, 95, 96, 97, 98, 99, 100, 101, 102, 103, 4, 107, 108, 109, 104, 105, 106, 12, 22, 32, 52, 62, 13, 23, 33, 53, 63, 14, 24, 34, 54, 64, 15, 25, 35, 55, 65, 16, 26, 36, 56, 66, 17, 27, 37, 57, 67, 18, 28, 38, 58, 68, 19, 29, 39, 59, 69, 20, 30, 40, 60, 70, 21, 31, 41, 61, 71, 5, 110, 111, 112, 113, 114, 115, 116, 117, 118, 119, 120, 121, 122, 123, 124, 125, 6, 126, 127, 128, 129, 7, 130, 131, 132, 133, 134, 135, 136, 137, 138, 139, 140, 141, 8, 142, 143, 144, 145, 146, 9] [0, 1, 72, 2, 76, 77, 78, 79, 80, 81, 82, 83, 84, 3, 85, 86, 87, 88, 89, 90, 91, 92, 93, 94, 95, 96, 97, 98, 99, 100, 101, 102, 103, 4, 107, 108, 109, 104, 105, 106, 12, 22, 32, 52, 62, 13, 23, 33, 53, 63, 14, 24, 34, 54, 64, 15, 25, 35, 55, 65, 16, 26, 36, 56, 66, 17, 27, 37, 57, 67, 18, 28, 38, 58, 68, 19, 29, 39, 59, 69, 20, 30, 40, 60, 70, 21, 31, 41, 61, 71, 5, 110, 111, 112, 113, 114, 115, 116, 117, 118, 119, 120, 121, 122, 123, 124, 125, 6, 126, 127, 128, 129, 7, 130, 131, 132, 133, 134, 135, 136, 137, 138, 139, 140, 141, 8, 142, 143, 144, 145, 146, 9, 147, 148, 149, 150, 151, 152, 153, 154] [bR 9, bR 4, bR 6, bR 7] M (fun r M' => r = none ∧ M' = b_upl M [(9, 5, 1), (9, 6, 1), (9, 7, 1), (9, 8, 1), (9, 9, 1), (9, 10, 1), (9, 11, 1), (9, 12, 1), (9, 2, 1), (9, 3, 1), (9, 4, 1)]) := by
  refine b_met (by decide) ⟨rfl, rfl⟩ (Nat.le_of_ble_eq_true rfl) (fun hA hRg => ?_)
  refine v_sub (ls2 := [(0, bR _), (1, bR _), (2, bR _), (3, bR _)]) [0, 1, 2, 3] rfl ?_
  refine v_aload_n (f := 0) 0 rfl dX3_init_0 ?_
  refine g_objInit wm_3_3 wob_i wob_c (Nat.le_of_ble_eq_true rfl) ⟨by decide, by decide⟩ dX3_init_1 ?_
  refine v_aload_n (f := 0) 0 rfl dX3_init_4 ?_
  refine v_bipush ⟨by decide, by decide⟩ (by decide) dX3_init_5 ?_
  refine g_newa_int kd_147 (by decide) (show (147 : Nat) ∉ ([0, 1, 72, 2, 76, 77, 78, 79, 80, 81, 82, 83, 84, 3, 85, 86, 87, 88, 89, 90, 91, 92, 93, 94, 95, 96, 97, 98, 99, 100, 101, 102, 103, 4, 107, 108, 109, 104, 105, 106, 12, 22, 32, 52, 62, 13, 23, 33, 53, 63, 14, 24, 34, 54, 64, 15, 25, 35, 55, 65, 16, 26, 36, 56, 66, 17, 27, 37, 57, 67, 18, 28, 38, 58, 68, 19, 29, 39, 59, 69, 20, 30, 40, 60, 70, 21, 31, 41, 61, 71, 5, 110, 111, 112, 113, 114, 115, 116, 117, 118, 119, 120, 121, 122, 123, 124, 125, 6, 126, 127, 128, 129, 7, 130, 131, 132, 133, 134, 135, 136, 137, 138, 139, 140, 141, 8, 142, 143, 144, 145, 146, 9] : List Nat) from by decide) (by intro i; (try simp (disch := decide) only [b_upc]); exact h0 _ (by decide) i) (by decide +kernel) (by simp [b_nr]) (by simp [b_nr]) rfl (by decide) wa_int ⟨by decide, by decide⟩ dX3_init_7 ?_
  refine g_putR (kf := 5) (kz := 5) rfl (by decide) kd_9 rfl ⟨by decide, by decide⟩ rfl (by decide) rfl rfl wf_3_11 rfl (ty := tyX3 5) rfl (fun _ => ⟨rfl, rfl⟩) dX3_init_9 ?_
  refine v_aload_n (f := 0) 0 rfl dX3_init_12 ?_
  refine v_bipush ⟨by decide, by decide⟩ (by decide) dX3_init_13 ?_
  refine g_newa_int kd_148 (by decide) (show (148 : Nat) ∉ ([0, 1, 72, 2, 76, 77, 78, 79, 80, 81, 82, 83, 84, 3, 85, 86, 87, 88, 89, 90, 91, 92, 93, 94, 95, 96, 97, 98, 99, 100, 101, 102, 103, 4, 107, 108, 109, 104, 105, 106, 12, 22, 32, 52, 62, 13, 23, 33, 53, 63, 14, 24, 34, 54, 64, 15, 25, 35, 55, 65, 16, 26, 36, 56, 66, 17, 27, 37, 57, 67, 18, 28, 38, 58, 68, 19, 29, 39, 59, 69, 20, 30, 40, 60, 70, 21, 31, 41, 61, 71, 5, 110, 111, 112, 113, 114, 115, 116, 117, 118, 119, 120, 121, 122, 123, 124, 125, 6, 126, 127, 128, 129, 7, 130, 131, 132, 133, 134, 135, 136, 137, 138, 139, 140, 141, 8, 142, 143, 144, 145, 146, 9] : List Nat) from by decide) (by intro i; (try simp (disch := decide) only [b_upc]); exact h0 _ (by decide) i) (by decide +kernel) (by simp [b_nr]) (by simp [b_nr]) rfl (by decide) wa_int ⟨by decide, by decide⟩ dX3_init_15 ?_
  refine g_putR (kf := 6) (kz := 6) rfl (by decide) kd_9 rfl ⟨by decide, by decide⟩ rfl (by decide) rfl rfl wf_3_15 rfl (ty := tyX3 6) rfl (fun _ => ⟨rfl, rfl⟩) dX3_init_17 ?_
  refine v_aload_n (f := 0) 0 rfl dX3_init_20 ?_
  refine v_bipush ⟨by decide, by decide⟩ (by decide) dX3_init_21 ?_
  refine g_newa_int kd_149 (by decide) (show (149 : Nat) ∉ ([0, 1, 72, 2, 76, 77, 78, 79, 80, 81, 82, 83, 84, 3, 85, 86, 87, 88, 89, 90, 91, 92, 93, 94, 95, 96, 97, 98, 99, 100, 101, 102, 103, 4, 107, 108, 109, 104, 105, 106, 12, 22, 32, 52, 62, 13, 23, 33, 53, 63, 14, 24, 34, 54, 64, 15, 25, 35, 55, 65, 16, 26, 36, 56, 66, 17, 27, 37, 57, 67, 18, 28, 38, 58, 68, 19, 29, 39, 59, 69, 20, 30, 40, 60, 70, 21, 31, 41, 61, 71, 5, 110, 111, 112, 113, 114, 115, 116, 117, 118, 119, 120, 121, 122, 123, 124, 125, 6, 126, 127, 128, 129, 7, 130, 131, 132, 133, 134, 135, 136, 137, 138, 139, 140, 141, 8, 142, 143, 144, 145, 146, 9] : List Nat) from by decide) (by intro i; (try simp (disch := decide) only [b_upc]); exact h0 _ (by decide) i) (by decide +kernel) (by simp [b_nr]) (by simp [b_nr]) rfl (by decide) wa_int ⟨by decide, by decide⟩ dX3_init_23 ?_
  refine g_putR (kf := 7) (kz := 7) rfl (by decide) kd_9 rfl ⟨by decide, by decide⟩ rfl (by decide) rfl rfl wf_3_18 rfl (ty := tyX3 7) rfl (fun _ => ⟨rfl, rfl⟩) dX3_init_25 ?_
  refine v_aload_n (f := 0) 0 rfl dX3_init_28 ?_
  refine v_bipush ⟨by decide, by decide⟩ (by decide) dX3_init_29 ?_
  refine g_newa_int kd_150 (by decide) (show (150 : Nat) ∉ ([0, 1, 72, 2, 76, 77, 78, 79, 80, 81, 82, 83, 84, 3, 85, 86, 87, 88, 89, 90, 91, 92, 93, 94, 95, 96, 97, 98, 99, 100, 101, 102, 103, 4, 107, 108, 109, 104, 105, 106, 12, 22, 32, 52, 62, 13, 23, 33, 53, 63, 14, 24, 34, 54, 64, 15, 25, 35, 55, 65, 16, 26, 36, 56, 66, 17, 27, 37, 57, 67, 18, 28, 38, 58, 68, 19, 29, 39, 59, 69, 20, 30, 40, 60, 70, 21, 31, 41, 61, 71, 5, 110, 111, 112, 113, 114, 115, 116, 117, 118, 119, 120, 121, 122, 123, 124, 125, 6, 126, 127, 128, 129, 7, 130, 131, 132, 133, 134, 135, 136, 137, 138, 139, 140, 141, 8, 142, 143, 144, 145, 146, 9] : List Nat) from by decide) (by intro i; (try simp (disch := decide) only [b_upc]); exact h0 _ (by decide) i) (by decide +kernel) (by simp [b_nr]) (by simp [b_nr]) rfl (by decide) wa_int ⟨by decide, by decide⟩ dX3_init_31 ?_
  refine g_putR (kf := 8) (kz := 8) rfl (by decide) kd_9 rfl ⟨by decide, by decide⟩ rfl (by decide) rfl rfl wf_3_21 rfl (ty := tyX3 8) rfl (fun _ => ⟨rfl, rfl⟩) dX3_init_33 ?_
  refine v_aload_n (f := 0) 0 rfl dX3_init_36 ?_
  refine v_bipush ⟨by decide, by decide⟩ (by decide) dX3_init_37 ?_
  refine g_newa_int kd_151 (by decide) (show (151 : Nat) ∉ ([0, 1, 72, 2, 76, 77, 78, 79, 80, 81, 82, 83, 84, 3, 85, 86, 87, 88, 89, 90, 91, 92, 93, 94, 95, 96, 97, 98, 99, 100, 101, 102, 103, 4, 107, 108, 109, 104, 105, 106, 12, 22, 32, 52, 62, 13, 23, 33, 53, 63, 14, 24, 34, 54, 64, 15, 25, 35, 55, 65, 16, 26, 36, 56, 66, 17, 27, 37, 57, 67, 18, 28, 38, 58, 68, 19, 29, 39, 59, 69, 20, 30, 40, 60, 70, 21, 31, 41, 61, 71, 5, 110, 111, 112, 113, 114, 115, 116, 117, 118, 119, 120, 121, 122, 123, 124, 125, 6, 126, 127, 128, 129, 7, 130, 131, 132, 133, 134, 135, 136, 137, 138, 139, 140, 141, 8, 142, 143, 144, 145, 146, 9] : List Nat) from by decide) (by intro i; (try simp (disch := decide) only [b_upc]); exact h0 _ (by decide) i) (by decide +kernel) (by simp [b_nr]) (by simp [b_nr]) rfl (by decide) wa_int ⟨by decide, by decide⟩ dX3_init_39 ?_
  refine g_putR (kf := 9) (kz := 9) rfl (by decide) kd_9 rfl ⟨by decide, by decide⟩ rfl (by decide) rfl rfl wf_3_24 rfl (ty := tyX3 9) rfl (fun _ => ⟨rfl, rfl⟩) dX3_init_41 ?_
  refine v_aload_n (f := 0) 0 rfl dX3_init_44 ?_
  refine v_bipush ⟨by decide, by decide⟩ (by decide) dX3_init_45 ?_
  refine g_newa_int kd_152 (by decide) (show (152 : Nat) ∉ ([0, 1, 72, 2, 76, 77, 78, 79, 80, 81, 82, 83, 84, 3, 85, 86, 87, 88, 89, 90, 91, 92, 93, 94, 95, 96, 97, 98, 99, 100, 101, 102, 103, 4, 107, 108, 109, 104, 105, 106, 12, 22, 32, 52, 62, 13, 23, 33, 53, 63, 14, 24, 34, 54, 64, 15, 25, 35, 55, 65, 16, 26, 36, 56, 66, 17, 27, 37, 57, 67, 18, 28, 38, 58, 68, 19, 29, 39, 59, 69, 20, 30, 40, 60, 70, 21, 31, 41, 61, 71, 5, 110, 111, 112, 113, 114, 115, 116, 117, 118, 119, 120, 121, 122, 123, 124, 125, 6, 126, 127, 128, 129, 7, 130, 131, 132, 133, 134, 135, 136, 137, 138, 139, 140, 141, 8, 142, 143, 144, 145, 146, 9] : List Nat) from by decide) (by intro i; (try simp (disch := decide) only [b_upc]); exact h0 _ (by decide) i) (by decide +kernel) (by simp [b_nr]) (by simp [b_nr]) rfl (by decide) wa_int ⟨by decide, by decide⟩ dX3_init_47 ?_
  refine g_putR (kf := 10) (kz := 10) rfl (by decide) kd_9 rfl ⟨by decide, by decide⟩ rfl (by decide) rfl rfl wf_3_29 rfl (ty := tyX3 10) rfl (fun _ => ⟨rfl, rfl⟩) dX3_init_49 ?_
  refine v_aload_n (f := 0) 0 rfl dX3_init_52 ?_
  refine v_bipush ⟨by decide, by decide⟩ (by decide) dX3_init_53 ?_
  refine g_newa_int kd_153 (by decide) (show (153 : Nat) ∉ ([0, 1, 72, 2, 76, 77, 78, 79, 80, 81, 82, 83, 84, 3, 85, 86, 87, 88, 89, 90, 91, 92, 93, 94, 95, 96, 97, 98, 99, 100, 101, 102, 103, 4, 107, 108, 109, 104, 105, 106, 12, 22, 32, 52, 62, 13, 23, 33, 53, 63, 14, 24, 34, 54, 64, 15, 25, 35, 55, 65, 16, 26, 36, 56, 66, 17, 27, 37, 57, 67, 18, 28, 38, 58, 68, 19, 29, 39, 59, 69, 20, 30, 40, 60, 70, 21, 31, 41, 61, 71, 5, 110, 111, 112, 113, 114, 115, 116, 117, 118, 119, 120, 121, 122, 123, 124, 125, 6, 126, 127, 128, 129, 7, 130, 131, 132, 133, 134, 135, 136, 137, 138, 139, 140, 141, 8, 142, 143, 144, 145, 146, 9] : List Nat) from by decide) (by intro i; (try simp (disch := decide) only [b_upc]); exact h0 _ (by decide) i) (by decide +kernel) (by simp [b_nr]) (by simp [b_nr]) rfl (by decide) wa_int ⟨by decide, by decide⟩ dX3_init_55 ?_
  refine g_putR (kf := 11) (kz := 11) rfl (by decide) kd_9 rfl ⟨by decide, by decide⟩ rfl (by decide) rfl rfl wf_3_32 rfl (ty := tyX3 11) rfl (fun _ => ⟨rfl, rfl⟩) dX3_init_57 ?_
  refine v_aload_n (f := 0) 0 rfl dX3_init_60 ?_
  refine v_bipush ⟨by decide, by decide⟩ (by decide) dX3_init_61 ?_
  refine g_newa_int kd_154 (by decide) (show (154 : Nat) ∉ ([0, 1, 72, 2, 76, 77, 78, 79, 80, 81, 82, 83, 84, 3, 85, 86, 87, 88, 89, 90, 91, 92, 93, 94, 95, 96, 97, 98, 99, 100, 101, 102, 103, 4, 107, 108, 109, 104, 105, 106, 12, 22, 32, 52, 62, 13, 23, 33, 53, 63, 14, 24, 34, 54, 64, 15, 25, 35, 55, 65, 16, 26, 36, 56, 66, 17, 27, 37, 57, 67, 18, 28, 38, 58, 68, 19, 29, 39, 59, 69, 20, 30, 40, 60, 70, 21, 31, 41, 61, 71, 5, 110, 111, 112, 113, 114, 115, 116, 117, 118, 119, 120, 121, 122, 123, 124, 125, 6, 126, 127, 128, 129, 7, 130, 131, 132, 133, 134, 135, 136, 137, 138, 139, 140, 141, 8, 142, 143, 144, 145, 146, 9] : List Nat) from by decide) (by intro i; (try simp (disch := decide) only [b_upc]); exact h0 _ (by decide) i) (by decide +kernel) (by simp [b_nr]) (by simp [b_nr]) rfl (by decide) wa_int ⟨by decide, by decide⟩ dX3_init_63 ?_
  refine g_putR (kf := 12) (kz := 12) rfl (by decide) kd_9 rfl ⟨by decide, by decide⟩ rfl (by decide) rfl rfl wf_3_35 rfl (ty := tyX3 12) rfl (fun _ => ⟨rfl, rfl⟩) dX3_init_65 ?_
  refine v_aload_n (f := 0) 0 rfl dX3_init_68 ?_
  refine v_aload_n (f := 1) 1 rfl dX3_init_69 ?_
  refine g_putR (kf := 2) (kz := 2) rfl (by decide) kd_9 rfl ⟨by decide, by decide⟩ rfl (by decide) rfl rfl wf_3_38 rfl (ty := tyX3 2) rfl (fun _ => ⟨rfl, rfl⟩) dX3_init_70 ?_
  refine v_aload_n (f := 0) 0 rfl dX3_init_73 ?_
  refine v_aload_n (f := 2) 2 rfl dX3_init_74 ?_
  refine g_putR (kf := 3) (kz := 3) rfl (by decide) kd_9 rfl ⟨by decide, by decide⟩ rfl (by decide) rfl rfl wf_3_42 rfl (ty := tyX3 3) rfl (fun _ => ⟨rfl, rfl⟩) dX3_init_75 ?_
  refine v_aload_n (f := 0) 0 rfl dX3_init_78 ?_
  refine v_aload_n (f := 3) 3 rfl dX3_init_79 ?_
  refine g_putR (kf := 4) (kz := 4) rfl (by decide) kd_9 rfl ⟨by decide, by decide⟩ rfl (by decide) rfl rfl wf_3_46 rfl (ty := tyX3 4) rfl (fun _ => ⟨rfl, rfl⟩) dX3_init_80 ?_
  refine v_return rfl dX3_init_83 ⟨by decide, by decide⟩ ?_
  exact ⟨rfl, rfl⟩
abbrev xX9_init : bX := ("BurntHall$Places", prog_11_method_1_code, 5, (Option.none : Option Jvm.ClassFile.FieldType), b_rm 1 7 576, 1, "<init>")
abbrev yX9_init : MethodName := ⟨"BurntHall$Places", "<init>", "(LBurntHall$Acts;LBurntHall$Evidence;LBurntHall$Chains;LBurntHall$Claims;)V"⟩
theorem dX9_init_0 : decode prog_11_method_1_code 0 = .ok (.aload_n 0, 1) := by decide +kernel
theorem dX9_init_1 : decode prog_11_method_1_code 1 = .ok (.invokespecial 3, 3) := by decide +kernel
theorem dX9_init_4 : decode prog_11_method_1_code 4 = .ok (.aload_n 0, 1) := by decide +kernel
theorem dX9_init_5 : decode prog_11_method_1_code 5 = .ok (.bipush 12, 2) := by decide +kernel
theorem dX9_init_7 : decode prog_11_method_1_code 7 = .ok (.newarray .int, 2) := by decide +kernel
theorem dX9_init_9 : decode prog_11_method_1_code 9 = .ok (.putfield 11, 3) := by decide +kernel
theorem dX9_init_12 : decode prog_11_method_1_code 12 = .ok (.aload_n 0, 1) := by decide +kernel
theorem dX9_init_13 : decode prog_11_method_1_code 13 = .ok (.bipush 12, 2) := by decide +kernel
theorem dX9_init_15 : decode prog_11_method_1_code 15 = .ok (.newarray .int, 2) := by decide +kernel
theorem dX9_init_17 : decode prog_11_method_1_code 17 = .ok (.putfield 15, 3) := by decide +kernel
theorem dX9_init_20 : decode prog_11_method_1_code 20 = .ok (.aload_n 0, 1) := by decide +kernel
theorem dX9_init_21 : decode prog_11_method_1_code 21 = .ok (.bipush 12, 2) := by decide +kernel
theorem dX9_init_23 : decode prog_11_method_1_code 23 = .ok (.newarray .int, 2) := by decide +kernel
theorem dX9_init_25 : decode prog_11_method_1_code 25 = .ok (.putfield 18, 3) := by decide +kernel
theorem dX9_init_28 : decode prog_11_method_1_code 28 = .ok (.aload_n 0, 1) := by decide +kernel
theorem dX9_init_29 : decode prog_11_method_1_code 29 = .ok (.bipush 30, 2) := by decide +kernel
theorem dX9_init_31 : decode prog_11_method_1_code 31 = .ok (.newarray .int, 2) := by decide +kernel
theorem dX9_init_33 : decode prog_11_method_1_code 33 = .ok (.putfield 23, 3) := by decide +kernel
theorem dX9_init_36 : decode prog_11_method_1_code 36 = .ok (.aload_n 0, 1) := by decide +kernel
theorem dX9_init_37 : decode prog_11_method_1_code 37 = .ok (.bipush 30, 2) := by decide +kernel
theorem dX9_init_39 : decode prog_11_method_1_code 39 = .ok (.newarray .int, 2) := by decide +kernel
theorem dX9_init_41 : decode prog_11_method_1_code 41 = .ok (.putfield 28, 3) := by decide +kernel
theorem dX9_init_44 : decode prog_11_method_1_code 44 = .ok (.aload_n 0, 1) := by decide +kernel
theorem dX9_init_45 : decode prog_11_method_1_code 45 = .ok (.sipush 240, 3) := by decide +kernel
theorem dX9_init_48 : decode prog_11_method_1_code 48 = .ok (.newarray .int, 2) := by decide +kernel
theorem dX9_init_50 : decode prog_11_method_1_code 50 = .ok (.putfield 33, 3) := by decide +kernel
theorem dX9_init_53 : decode prog_11_method_1_code 53 = .ok (.aload_n 0, 1) := by decide +kernel
theorem dX9_init_54 : decode prog_11_method_1_code 54 = .ok (.sipush 240, 3) := by decide +kernel
theorem dX9_init_57 : decode prog_11_method_1_code 57 = .ok (.newarray .int, 2) := by decide +kernel
theorem dX9_init_59 : decode prog_11_method_1_code 59 = .ok (.putfield 36, 3) := by decide +kernel
theorem dX9_init_62 : decode prog_11_method_1_code 62 = .ok (.aload_n 0, 1) := by decide +kernel
theorem dX9_init_63 : decode prog_11_method_1_code 63 = .ok (.aload_n 1, 1) := by decide +kernel
theorem dX9_init_64 : decode prog_11_method_1_code 64 = .ok (.putfield 39, 3) := by decide +kernel
theorem dX9_init_67 : decode prog_11_method_1_code 67 = .ok (.aload_n 0, 1) := by decide +kernel
theorem dX9_init_68 : decode prog_11_method_1_code 68 = .ok (.aload_n 2, 1) := by decide +kernel
theorem dX9_init_69 : decode prog_11_method_1_code 69 = .ok (.putfield 43, 3) := by decide +kernel
theorem dX9_init_72 : decode prog_11_method_1_code 72 = .ok (.aload_n 0, 1) := by decide +kernel
theorem dX9_init_73 : decode prog_11_method_1_code 73 = .ok (.aload_n 3, 1) := by decide +kernel
theorem dX9_init_74 : decode prog_11_method_1_code 74 = .ok (.putfield 47, 3) := by decide +kernel
theorem dX9_init_77 : decode prog_11_method_1_code 77 = .ok (.aload_n 0, 1) := by decide +kernel
theorem dX9_init_78 : decode prog_11_method_1_code 78 = .ok (.aload 4, 2) := by decide +kernel
theorem dX9_init_80 : decode prog_11_method_1_code 80 = .ok (.putfield 51, 3) := by decide +kernel
theorem dX9_init_83 : decode prog_11_method_1_code 83 = .ok (.return_, 1) := by decide +kernel
theorem c_X9_init {l : Launch} {E : bE} {M : bM} (h0 : ∀ c ∈ ([155, 156, 157, 158, 159, 160, 161] : List Nat), ∀ i, M c i = 0) : b_CL l E xX9_init yX9_init [0, 1, 72, 2, 76, 77, 78, 79, 80, 81, 82, 83, 84, 3, 85, 86, 87, 88, 89, 90, 91, 92, 93, 94, 95, 96, 97, 98, 99, 100, 101, 102, 103, 4, 107, 108, 109, 104, 105, 106, 12, 22, 32, 52, 62, 13, 23, 33, 53, 63, 14, 24, 34, 54, 64, 15, 25, 35, 55, 65, 16, 26, 36, 56, 66, 17, 27, 37, 57, 67, 18, 28, 38, 58, 68, 19, 29, 39, 59, 69, 20, 30, 40, 60, 70, 21, 31, 41, 61, 71, 5, 110, 111, 112, 113, 114, 115, 116, 117, 118, 119, 120, 121, 122, 123, 124, 125, 6, 126, 127, 128, 129, 7, 130, 131, 132, 133, 134, 135, 136, 137, 138, 139, 140, 141, 8, 142, 143, 144, 145, 146, 9, 147, 148, 149, 150, 151, 152, 153, 154, 10] [0, 1, 72, 2, 76, 77, 78, 79, 80, 81, 82, 83, 84, 3, 85, 86, 87, 88, 89, 90, 91, 92, 93, 94, 95, 96, 97, 98, 99, 100, 101, 102, 103, 4, 107, 108, 109, 104, 105, 106, 12, 22, 32, 52, 62, 13, 23, 33, 53, 63, 14, 24, 34, 54, 64, 15, 25, 35, 55, 65, 16, 26, 36, 56, 66, 17, 27, 37, 57, 67, 18, 28, 38, 58, 68, 19, 29, 39, 59, 69, 20, 30, 40, 60, 70, 21, 31, 41, 61, 71, 5, 110, 111, 112, 113, 114, 115, 116, 117, 118, 119, 120, 121, 122, 123, 124, 125, 6, 126, 127, 128, 129, 7, 130, 131, 132, 133, 134, 135, 136, 137, 138, 139, 140, 141, 8, 142, 143, 144, 145, 146, 9, 147, 148, 149, 150, 151, 152, 153, 154, 10, 155, 156, 157, 158, 159, 160, 161] [bR 10, bR 4, bR 6, bR 7, bR 9] M (fun r M' => r = none ∧ M' = b_upl M [(10, 5, 1), (10, 6, 1), (10, 7, 1), (10, 8, 1), (10, 10, 1), (10, 11, 1), (10, 12, 1), (10, 1, 1), (10, 2, 1), (10, 3, 1), (10, 4, 1)]) := by
  refine b_met (by decide) ⟨rfl, rfl⟩ (Nat.le_of_ble_eq_true rfl) (fun hA hRg => ?_)
  refine v_sub (ls2 := [(0, bR _), (1, bR _), (2, bR _), (3, bR _), (4, bR _)]) [0, 1, 2, 3, 4] rfl ?_
  refine v_aload_n (f := 0) 0 rfl dX9_init_0 ?_
  refine g_objInit wm_9_3 wob_i wob_c (Nat.le_of_ble_eq_true rfl) ⟨by decide, by decide⟩ dX9_init_1 ?_
  refine v_aload_n (f := 0) 0 rfl dX9_init_4 ?_
  refine v_bipush ⟨by decide, by decide⟩ (by decide) dX9_init_5 ?_
  refine g_newa_int kd_155 (by decide) (show (155 : Nat) ∉ ([0, 1, 72, 2, 76, 77, 78, 79, 80, 81, 82, 83, 84, 3, 85, 86, 87, 88, 89, 90, 91, 92, 93, 94, 95, 96, 97, 98, 99, 100, 101, 102, 103, 4, 107, 108, 109, 104, 105, 106, 12, 22, 32, 52, 62, 13, 23, 33, 53, 63, 14, 24, 34, 54, 64, 15, 25, 35, 55, 65, 16, 26, 36, 56, 66, 17, 27, 37, 57, 67, 18, 28, 38, 58, 68, 19, 29, 39, 59, 69, 20, 30, 40, 60, 70, 21, 31, 41, 61, 71, 5, 110, 111, 112, 113, 114, 115, 116, 117, 118, 119, 120, 121, 122, 123, 124, 125, 6, 126, 127, 128, 129, 7, 130, 131, 132, 133, 134, 135, 136, 137, 138, 139, 140, 141, 8, 142, 143, 144, 145, 146, 9, 147, 148, 149, 150, 151, 152, 153, 154, 10] : List Nat) from by decide) (by intro i; (try simp (disch := decide) only [b_upc]); exact h0 _ (by decide) i) (by decide +kernel) (by simp [b_nr]) (by simp [b_nr]) rfl (by decide) wa_int ⟨by decide, by decide⟩ dX9_init_7 ?_
  refine g_putR (kf := 5) (kz := 5) rfl (by decide) kd_10 rfl ⟨by decide, by decide⟩ rfl (by decide) rfl rfl wf_9_11 rfl (ty := tyX9 5) rfl (fun _ => ⟨rfl, rfl⟩) dX9_init_9 ?_
  refine v_aload_n (f := 0) 0 rfl dX9_init_12 ?_
  refine v_bipush ⟨by decide, by decide⟩ (by decide) dX9_init_13 ?_
  refine g_newa_int kd_156 (by decide) (show (156 : Nat) ∉ ([0, 1, 72, 2, 76, 77, 78, 79, 80, 81, 82, 83, 84, 3, 85, 86, 87, 88, 89, 90, 91, 92, 93, 94, 95, 96, 97, 98, 99, 100, 101, 102, 103, 4, 107, 108, 109, 104, 105, 106, 12, 22, 32, 52, 62, 13, 23, 33, 53, 63, 14, 24, 34, 54, 64, 15, 25, 35, 55, 65, 16, 26, 36, 56, 66, 17, 27, 37, 57, 67, 18, 28, 38, 58, 68, 19, 29, 39, 59, 69, 20, 30, 40, 60, 70, 21, 31, 41, 61, 71, 5, 110, 111, 112, 113, 114, 115, 116, 117, 118, 119, 120, 121, 122, 123, 124, 125, 6, 126, 127, 128, 129, 7, 130, 131, 132, 133, 134, 135, 136, 137, 138, 139, 140, 141, 8, 142, 143, 144, 145, 146, 9, 147, 148, 149, 150, 151, 152, 153, 154, 10] : List Nat) from by decide) (by intro i; (try simp (disch := decide) only [b_upc]); exact h0 _ (by decide) i) (by decide +kernel) (by simp [b_nr]) (by simp [b_nr]) rfl (by decide) wa_int ⟨by decide, by decide⟩ dX9_init_15 ?_
  refine g_putR (kf := 6) (kz := 6) rfl (by decide) kd_10 rfl ⟨by decide, by decide⟩ rfl (by decide) rfl rfl wf_9_15 rfl (ty := tyX9 6) rfl (fun _ => ⟨rfl, rfl⟩) dX9_init_17 ?_
  refine v_aload_n (f := 0) 0 rfl dX9_init_20 ?_
  refine v_bipush ⟨by decide, by decide⟩ (by decide) dX9_init_21 ?_
  refine g_newa_int kd_157 (by decide) (show (157 : Nat) ∉ ([0, 1, 72, 2, 76, 77, 78, 79, 80, 81, 82, 83, 84, 3, 85, 86, 87, 88, 89, 90, 91, 92, 93, 94, 95, 96, 97, 98, 99, 100, 101, 102, 103, 4, 107, 108, 109, 104, 105, 106, 12, 22, 32, 52, 62, 13, 23, 33, 53, 63, 14, 24, 34, 54, 64, 15, 25, 35, 55, 65, 16, 26, 36, 56, 66, 17, 27, 37, 57, 67, 18, 28, 38, 58, 68, 19, 29, 39, 59, 69, 20, 30, 40, 60, 70, 21, 31, 41, 61, 71, 5, 110, 111, 112, 113, 114, 115, 116, 117, 118, 119, 120, 121, 122, 123, 124, 125, 6, 126, 127, 128, 129, 7, 130, 131, 132, 133, 134, 135, 136, 137, 138, 139, 140, 141, 8, 142, 143, 144, 145, 146, 9, 147, 148, 149, 150, 151, 152, 153, 154, 10] : List Nat) from by decide) (by intro i; (try simp (disch := decide) only [b_upc]); exact h0 _ (by decide) i) (by decide +kernel) (by simp [b_nr]) (by simp [b_nr]) rfl (by decide) wa_int ⟨by decide, by decide⟩ dX9_init_23 ?_
  refine g_putR (kf := 7) (kz := 7) rfl (by decide) kd_10 rfl ⟨by decide, by decide⟩ rfl (by decide) rfl rfl wf_9_18 rfl (ty := tyX9 7) rfl (fun _ => ⟨rfl, rfl⟩) dX9_init_25 ?_
  refine v_aload_n (f := 0) 0 rfl dX9_init_28 ?_
  refine v_bipush ⟨by decide, by decide⟩ (by decide) dX9_init_29 ?_
  refine g_newa_int kd_158 (by decide) (show (158 : Nat) ∉ ([0, 1, 72, 2, 76, 77, 78, 79, 80, 81, 82, 83, 84, 3, 85, 86, 87, 88, 89, 90, 91, 92, 93, 94, 95, 96, 97, 98, 99, 100, 101, 102, 103, 4, 107, 108, 109, 104, 105, 106, 12, 22, 32, 52, 62, 13, 23, 33, 53, 63, 14, 24, 34, 54, 64, 15, 25, 35, 55, 65, 16, 26, 36, 56, 66, 17, 27, 37, 57, 67, 18, 28, 38, 58, 68, 19, 29, 39, 59, 69, 20, 30, 40, 60, 70, 21, 31, 41, 61, 71, 5, 110, 111, 112, 113, 114, 115, 116, 117, 118, 119, 120, 121, 122, 123, 124, 125, 6, 126, 127, 128, 129, 7, 130, 131, 132, 133, 134, 135, 136, 137, 138, 139, 140, 141, 8, 142, 143, 144, 145, 146, 9, 147, 148, 149, 150, 151, 152, 153, 154, 10] : List Nat) from by decide) (by intro i; (try simp (disch := decide) only [b_upc]); exact h0 _ (by decide) i) (by decide +kernel) (by simp [b_nr]) (by simp [b_nr]) rfl (by decide) wa_int ⟨by decide, by decide⟩ dX9_init_31 ?_
  refine g_putR (kf := 8) (kz := 8) rfl (by decide) kd_10 rfl ⟨by decide, by decide⟩ rfl (by decide) rfl rfl wf_9_23 rfl (ty := tyX9 8) rfl (fun _ => ⟨rfl, rfl⟩) dX9_init_33 ?_
  refine v_aload_n (f := 0) 0 rfl dX9_init_36 ?_
  refine v_bipush ⟨by decide, by decide⟩ (by decide) dX9_init_37 ?_
  refine g_newa_int kd_159 (by decide) (show (159 : Nat) ∉ ([0, 1, 72, 2, 76, 77, 78, 79, 80, 81, 82, 83, 84, 3, 85, 86, 87, 88, 89, 90, 91, 92, 93, 94, 95, 96, 97, 98, 99, 100, 101, 102, 103, 4, 107, 108, 109, 104, 105, 106, 12, 22, 32, 52, 62, 13, 23, 33, 53, 63, 14, 24, 34, 54, 64, 15, 25, 35, 55, 65, 16, 26, 36, 56, 66, 17, 27, 37, 57, 67, 18, 28, 38, 58, 68, 19, 29, 39, 59, 69, 20, 30, 40, 60, 70, 21, 31, 41, 61, 71, 5, 110, 111, 112, 113, 114, 115, 116, 117, 118, 119, 120, 121, 122, 123, 124, 125, 6, 126, 127, 128, 129, 7, 130, 131, 132, 133, 134, 135, 136, 137, 138, 139, 140, 141, 8, 142, 143, 144, 145, 146, 9, 147, 148, 149, 150, 151, 152, 153, 154, 10] : List Nat) from by decide) (by intro i; (try simp (disch := decide) only [b_upc]); exact h0 _ (by decide) i) (by decide +kernel) (by simp [b_nr]) (by simp [b_nr]) rfl (by decide) wa_int ⟨by decide, by decide⟩ dX9_init_39 ?_
  refine g_putR (kf := 10) (kz := 10) rfl (by decide) kd_10 rfl ⟨by decide, by decide⟩ rfl (by decide) rfl rfl wf_9_28 rfl (ty := tyX9 10) rfl (fun _ => ⟨rfl, rfl⟩) dX9_init_41 ?_
  refine v_aload_n (f := 0) 0 rfl dX9_init_44 ?_
  refine v_sipush ⟨by decide, by decide⟩ (by decide) dX9_init_45 ?_
  refine g_newa_int kd_160 (by decide) (show (160 : Nat) ∉ ([0, 1, 72, 2, 76, 77, 78, 79, 80, 81, 82, 83, 84, 3, 85, 86, 87, 88, 89, 90, 91, 92, 93, 94, 95, 96, 97, 98, 99, 100, 101, 102, 103, 4, 107, 108, 109, 104, 105, 106, 12, 22, 32, 52, 62, 13, 23, 33, 53, 63, 14, 24, 34, 54, 64, 15, 25, 35, 55, 65, 16, 26, 36, 56, 66, 17, 27, 37, 57, 67, 18, 28, 38, 58, 68, 19, 29, 39, 59, 69, 20, 30, 40, 60, 70, 21, 31, 41, 61, 71, 5, 110, 111, 112, 113, 114, 115, 116, 117, 118, 119, 120, 121, 122, 123, 124, 125, 6, 126, 127, 128, 129, 7, 130, 131, 132, 133, 134, 135, 136, 137, 138, 139, 140, 141, 8, 142, 143, 144, 145, 146, 9, 147, 148, 149, 150, 151, 152, 153, 154, 10] : List Nat) from by decide) (by intro i; (try simp (disch := decide) only [b_upc]); exact h0 _ (by decide) i) (by decide +kernel) (by simp [b_nr]) (by simp [b_nr]) rfl (by decide) wa_int ⟨by decide, by decide⟩ dX9_init_48 ?_
  refine g_putR (kf := 11) (kz := 11) rfl (by decide) kd_10 rfl ⟨by decide, by decide⟩ rfl (by decide) rfl rfl wf_9_33 rfl (ty := tyX9 11) rfl (fun _ => ⟨rfl, rfl⟩) dX9_init_50 ?_
  refine v_aload_n (f := 0) 0 rfl dX9_init_53 ?_
  refine v_sipush ⟨by decide, by decide⟩ (by decide) dX9_init_54 ?_
  refine g_newa_int kd_161 (by decide) (show (161 : Nat) ∉ ([0, 1, 72, 2, 76, 77, 78, 79, 80, 81, 82, 83, 84, 3, 85, 86, 87, 88, 89, 90, 91, 92, 93, 94, 95, 96, 97, 98, 99, 100, 101, 102, 103, 4, 107, 108, 109, 104, 105, 106, 12, 22, 32, 52, 62, 13, 23, 33, 53, 63, 14, 24, 34, 54, 64, 15, 25, 35, 55, 65, 16, 26, 36, 56, 66, 17, 27, 37, 57, 67, 18, 28, 38, 58, 68, 19, 29, 39, 59, 69, 20, 30, 40, 60, 70, 21, 31, 41, 61, 71, 5, 110, 111, 112, 113, 114, 115, 116, 117, 118, 119, 120, 121, 122, 123, 124, 125, 6, 126, 127, 128, 129, 7, 130, 131, 132, 133, 134, 135, 136, 137, 138, 139, 140, 141, 8, 142, 143, 144, 145, 146, 9, 147, 148, 149, 150, 151, 152, 153, 154, 10] : List Nat) from by decide) (by intro i; (try simp (disch := decide) only [b_upc]); exact h0 _ (by decide) i) (by decide +kernel) (by simp [b_nr]) (by simp [b_nr]) rfl (by decide) wa_int ⟨by decide, by decide⟩ dX9_init_57 ?_
  refine g_putR (kf := 12) (kz := 12) rfl (by decide) kd_10 rfl ⟨by decide, by decide⟩ rfl (by decide) rfl rfl wf_9_36 rfl (ty := tyX9 12) rfl (fun _ => ⟨rfl, rfl⟩) dX9_init_59 ?_
  refine v_aload_n (f := 0) 0 rfl dX9_init_62 ?_
  refine v_aload_n (f := 1) 1 rfl dX9_init_63 ?_
  refine g_putR (kf := 1) (kz := 1) rfl (by decide) kd_10 rfl ⟨by decide, by decide⟩ rfl (by decide) rfl rfl wf_9_39 rfl (ty := tyX9 1) rfl (fun _ => ⟨rfl, rfl⟩) dX9_init_64 ?_
  refine v_aload_n (f := 0) 0 rfl dX9_init_67 ?_
  refine v_aload_n (f := 2) 2 rfl dX9_init_68 ?_
  refine g_putR (kf := 2) (kz := 2) rfl (by decide) kd_10 rfl ⟨by decide, by decide⟩ rfl (by decide) rfl rfl wf_9_43 rfl (ty := tyX9 2) rfl (fun _ => ⟨rfl, rfl⟩) dX9_init_69 ?_
  refine v_aload_n (f := 0) 0 rfl dX9_init_72 ?_
  refine v_aload_n (f := 3) 3 rfl dX9_init_73 ?_
  refine g_putR (kf := 3) (kz := 3) rfl (by decide) kd_10 rfl ⟨by decide, by decide⟩ rfl (by decide) rfl rfl wf_9_47 rfl (ty := tyX9 3) rfl (fun _ => ⟨rfl, rfl⟩) dX9_init_74 ?_
  refine v_aload_n (f := 0) 0 rfl dX9_init_77 ?_
  refine v_aload (i := 4) 4 rfl dX9_init_78 ?_
  refine g_putR (kf := 4) (kz := 4) rfl (by decide) kd_10 rfl ⟨by decide, by decide⟩ rfl (by decide) rfl rfl wf_9_51 rfl (ty := tyX9 4) rfl (fun _ => ⟨rfl, rfl⟩) dX9_init_80 ?_
  refine v_return rfl dX9_init_83 ⟨by decide, by decide⟩ ?_
  exact ⟨rfl, rfl⟩
