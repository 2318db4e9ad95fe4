abbrev xX8_init : bX := ("BurntHall$People", prog_10_method_1_code, 1, (Option.none : Option Jvm.ClassFile.FieldType), b_rm 1 9 2000, 1, "<init>")
abbrev yX8_init : MethodName := ⟨"BurntHall$People", "<init>", "()V"⟩
theorem dX8_init_0 : decode prog_10_method_1_code 0 = .ok (.aload_n 0, 1) := by decide +kernel
theorem dX8_init_1 : decode prog_10_method_1_code 1 = .ok (.invokespecial 3, 3) := by decide +kernel
theorem dX8_init_4 : decode prog_10_method_1_code 4 = .ok (.aload_n 0, 1) := by decide +kernel
theorem dX8_init_5 : decode prog_10_method_1_code 5 = .ok (.bipush 80, 2) := by decide +kernel
theorem dX8_init_7 : decode prog_10_method_1_code 7 = .ok (.newarray .int, 2) := by decide +kernel
theorem dX8_init_9 : decode prog_10_method_1_code 9 = .ok (.putfield 11, 3) := by decide +kernel
theorem dX8_init_12 : decode prog_10_method_1_code 12 = .ok (.aload_n 0, 1) := by decide +kernel
theorem dX8_init_13 : decode prog_10_method_1_code 13 = .ok (.sipush 400, 3) := by decide +kernel
theorem dX8_init_16 : decode prog_10_method_1_code 16 = .ok (.newarray .int, 2) := by decide +kernel
theorem dX8_init_18 : decode prog_10_method_1_code 18 = .ok (.putfield 15, 3) := by decide +kernel
theorem dX8_init_21 : decode prog_10_method_1_code 21 = .ok (.aload_n 0, 1) := by decide +kernel
theorem dX8_init_22 : decode prog_10_method_1_code 22 = .ok (.sipush 400, 3) := by decide +kernel
theorem dX8_init_25 : decode prog_10_method_1_code 25 = .ok (.newarray .int, 2) := by decide +kernel
theorem dX8_init_27 : decode prog_10_method_1_code 27 = .ok (.putfield 18, 3) := by decide +kernel
theorem dX8_init_30 : decode prog_10_method_1_code 30 = .ok (.aload_n 0, 1) := by decide +kernel
theorem dX8_init_31 : decode prog_10_method_1_code 31 = .ok (.sipush 400, 3) := by decide +kernel
theorem dX8_init_34 : decode prog_10_method_1_code 34 = .ok (.newarray .int, 2) := by decide +kernel
theorem dX8_init_36 : decode prog_10_method_1_code 36 = .ok (.putfield 21, 3) := by decide +kernel
theorem dX8_init_39 : decode prog_10_method_1_code 39 = .ok (.aload_n 0, 1) := by decide +kernel
theorem dX8_init_40 : decode prog_10_method_1_code 40 = .ok (.sipush 400, 3) := by decide +kernel
theorem dX8_init_43 : decode prog_10_method_1_code 43 = .ok (.newarray .int, 2) := by decide +kernel
theorem dX8_init_45 : decode prog_10_method_1_code 45 = .ok (.putfield 24, 3) := by decide +kernel
theorem dX8_init_48 : decode prog_10_method_1_code 48 = .ok (.aload_n 0, 1) := by decide +kernel
theorem dX8_init_49 : decode prog_10_method_1_code 49 = .ok (.iconst (-1), 1) := by decide +kernel
theorem dX8_init_50 : decode prog_10_method_1_code 50 = .ok (.putfield 27, 3) := by decide +kernel
theorem dX8_init_53 : decode prog_10_method_1_code 53 = .ok (.aload_n 0, 1) := by decide +kernel
theorem dX8_init_54 : decode prog_10_method_1_code 54 = .ok (.bipush 80, 2) := by decide +kernel
theorem dX8_init_56 : decode prog_10_method_1_code 56 = .ok (.newarray .int, 2) := by decide +kernel
theorem dX8_init_58 : decode prog_10_method_1_code 58 = .ok (.putfield 31, 3) := by decide +kernel
theorem dX8_init_61 : decode prog_10_method_1_code 61 = .ok (.aload_n 0, 1) := by decide +kernel
theorem dX8_init_62 : decode prog_10_method_1_code 62 = .ok (.bipush 80, 2) := by decide +kernel
theorem dX8_init_64 : decode prog_10_method_1_code 64 = .ok (.newarray .int, 2) := by decide +kernel
theorem dX8_init_66 : decode prog_10_method_1_code 66 = .ok (.putfield 34, 3) := by decide +kernel
theorem dX8_init_69 : decode prog_10_method_1_code 69 = .ok (.aload_n 0, 1) := by decide +kernel
theorem dX8_init_70 : decode prog_10_method_1_code 70 = .ok (.bipush 80, 2) := by decide +kernel
theorem dX8_init_72 : decode prog_10_method_1_code 72 = .ok (.newarray .long, 2) := by decide +kernel
theorem dX8_init_74 : decode prog_10_method_1_code 74 = .ok (.putfield 37, 3) := by decide +kernel
theorem dX8_init_77 : decode prog_10_method_1_code 77 = .ok (.aload_n 0, 1) := by decide +kernel
theorem dX8_init_78 : decode prog_10_method_1_code 78 = .ok (.bipush 80, 2) := by decide +kernel
theorem dX8_init_80 : decode prog_10_method_1_code 80 = .ok (.newarray .long, 2) := by decide +kernel
theorem dX8_init_82 : decode prog_10_method_1_code 82 = .ok (.putfield 41, 3) := by decide +kernel
theorem dX8_init_85 : decode prog_10_method_1_code 85 = .ok (.return_, 1) := by decide +kernel
theorem c_X8_init {l : Launch} {E : bE} {M : bM} (h0 : ∀ c ∈ ([76, 77, 78, 79, 80, 81, 82, 83, 84] : List Nat), ∀ i, M c i = 0) : b_CL l E xX8_init yX8_init [0, 1, 72, 73, 74, 75, 2] [0, 1, 72, 73, 74, 75, 2, 76, 77, 78, 79, 80, 81, 82, 83, 84] [bR 2] M (fun _ M' => M' = b_upl M [(2, 2, 1), (2, 3, 1), (2, 4, 1), (2, 5, 1), (2, 6, 1), (2, 7, -1), (2, 10, 1), (2, 11, 1), (2, 12, 1), (2, 13, 1)]) := by
  refine b_met (by decide) ⟨rfl, rfl⟩ (Nat.le_of_ble_eq_true rfl) (fun hA hRg => ?_)
  refine v_sub (ls2 := [(0, bR _)]) [0] rfl ?_
  refine v_aload_n (f := 0) 0 rfl dX8_init_0 ?_
  refine g_objInit wm_8_3 wob_i wob_c (Nat.le_of_ble_eq_true rfl) ⟨by decide, by decide⟩ dX8_init_1 ?_
  refine v_aload_n (f := 0) 0 rfl dX8_init_4 ?_
  refine v_bipush ⟨by decide, by decide⟩ (by decide) dX8_init_5 ?_
  refine g_newa_int kd_76 (by decide) (show (76 : Nat) ∉ ([0, 1, 72, 73, 74, 75, 2] : List Nat) from by decide) (by intro i; (try simp (disch := decide) only [b_upc]); exact h0 _ (by decide) i) (by decide +kernel) (by simp [b_nr]) (by simp [b_nr]) rfl (by decide) wa_int ⟨by decide, by decide⟩ dX8_init_7 ?_
  refine g_putR (kf := 2) (kz := 2) rfl (by decide) kd_2 rfl ⟨by decide, by decide⟩ rfl (by decide) rfl rfl wf_8_11 rfl (ty := tyX8 2) rfl (fun _ => ⟨rfl, rfl⟩) dX8_init_9 ?_
  refine v_aload_n (f := 0) 0 rfl dX8_init_12 ?_
  refine v_sipush ⟨by decide, by decide⟩ (by decide) dX8_init_13 ?_
  refine g_newa_int kd_77 (by decide) (show (77 : Nat) ∉ ([0, 1, 72, 73, 74, 75, 2] : List Nat) from by decide) (by intro i; (try simp (disch := decide) only [b_upc]); exact h0 _ (by decide) i) (by decide +kernel) (by simp [b_nr]) (by simp [b_nr]) rfl (by decide) wa_int ⟨by decide, by decide⟩ dX8_init_16 ?_
  refine g_putR (kf := 3) (kz := 3) rfl (by decide) kd_2 rfl ⟨by decide, by decide⟩ rfl (by decide) rfl rfl wf_8_15 rfl (ty := tyX8 3) rfl (fun _ => ⟨rfl, rfl⟩) dX8_init_18 ?_
  refine v_aload_n (f := 0) 0 rfl dX8_init_21 ?_
  refine v_sipush ⟨by decide, by decide⟩ (by decide) dX8_init_22 ?_
  refine g_newa_int kd_78 (by decide) (show (78 : Nat) ∉ ([0, 1, 72, 73, 74, 75, 2] : List Nat) from by decide) (by intro i; (try simp (disch := decide) only [b_upc]); exact h0 _ (by decide) i) (by decide +kernel) (by simp [b_nr]) (by simp [b_nr]) rfl (by decide) wa_int ⟨by decide, by decide⟩ dX8_init_25 ?_
  refine g_putR (kf := 4) (kz := 4) rfl (by decide) kd_2 rfl ⟨by decide, by decide⟩ rfl (by decide) rfl rfl wf_8_18 rfl (ty := tyX8 4) rfl (fun _ => ⟨rfl, rfl⟩) dX8_init_27 ?_
  refine v_aload_n (f := 0) 0 rfl dX8_init_30 ?_
  refine v_sipush ⟨by decide, by decide⟩ (by decide) dX8_init_31 ?_
  refine g_newa_int kd_79 (by decide) (show (79 : Nat) ∉ ([0, 1, 72, 73, 74, 75, 2] : List Nat) from by decide) (by intro i; (try simp (disch := decide) only [b_upc]); exact h0 _ (by decide) i) (by decide +kernel) (by simp [b_nr]) (by simp [b_nr]) rfl (by decide) wa_int ⟨by decide, by decide⟩ dX8_init_34 ?_
  refine g_putR (kf := 5) (kz := 5) rfl (by decide) kd_2 rfl ⟨by decide, by decide⟩ rfl (by decide) rfl rfl wf_8_21 rfl (ty := tyX8 5) rfl (fun _ => ⟨rfl, rfl⟩) dX8_init_36 ?_
  refine v_aload_n (f := 0) 0 rfl dX8_init_39 ?_
  refine v_sipush ⟨by decide, by decide⟩ (by decide) dX8_init_40 ?_
  refine g_newa_int kd_80 (by decide) (show (80 : Nat) ∉ ([0, 1, 72, 73, 74, 75, 2] : List Nat) from by decide) (by intro i; (try simp (disch := decide) only [b_upc]); exact h0 _ (by decide) i) (by decide +kernel) (by simp [b_nr]) (by simp [b_nr]) rfl (by decide) wa_int ⟨by decide, by decide⟩ dX8_init_43 ?_
  refine g_putR (kf := 6) (kz := 6) rfl (by decide) kd_2 rfl ⟨by decide, by decide⟩ rfl (by decide) rfl rfl wf_8_24 rfl (ty := tyX8 6) rfl (fun _ => ⟨rfl, rfl⟩) dX8_init_45 ?_
  refine v_aload_n (f := 0) 0 rfl dX8_init_48 ?_
  refine v_iconst ⟨by decide, by decide⟩ dX8_init_49 ?_
  refine g_putI (kf := 7) (kz := 7) rfl (by decide) kd_2 rfl ⟨by decide, by decide⟩ rfl wf_8_27 rfl rfl dX8_init_50 ?_
  refine v_aload_n (f := 0) 0 rfl dX8_init_53 ?_
  refine v_bipush ⟨by decide, by decide⟩ (by decide) dX8_init_54 ?_
  refine g_newa_int kd_81 (by decide) (show (81 : Nat) ∉ ([0, 1, 72, 73, 74, 75, 2] : List Nat) from by decide) (by intro i; (try simp (disch := decide) only [b_upc]); exact h0 _ (by decide) i) (by decide +kernel) (by simp [b_nr]) (by simp [b_nr]) rfl (by decide) wa_int ⟨by decide, by decide⟩ dX8_init_56 ?_
  refine g_putR (kf := 10) (kz := 10) rfl (by decide) kd_2 rfl ⟨by decide, by decide⟩ rfl (by decide) rfl rfl wf_8_31 rfl (ty := tyX8 10) rfl (fun _ => ⟨rfl, rfl⟩) dX8_init_58 ?_
  refine v_aload_n (f := 0) 0 rfl dX8_init_61 ?_
  refine v_bipush ⟨by decide, by decide⟩ (by decide) dX8_init_62 ?_
  refine g_newa_int kd_82 (by decide) (show (82 : Nat) ∉ ([0, 1, 72, 73, 74, 75, 2] : List Nat) from by decide) (by intro i; (try simp (disch := decide) only [b_upc]); exact h0 _ (by decide) i) (by decide +kernel) (by simp [b_nr]) (by simp [b_nr]) rfl (by decide) wa_int ⟨by decide, by decide⟩ dX8_init_64 ?_
  refine g_putR (kf := 11) (kz := 11) rfl (by decide) kd_2 rfl ⟨by decide, by decide⟩ rfl (by decide) rfl rfl wf_8_34 rfl (ty := tyX8 11) rfl (fun _ => ⟨rfl, rfl⟩) dX8_init_66 ?_
  refine v_aload_n (f := 0) 0 rfl dX8_init_69 ?_
  refine v_bipush ⟨by decide, by decide⟩ (by decide) dX8_init_70 ?_
  refine g_newa_long kd_83 (by decide) (show (83 : Nat) ∉ ([0, 1, 72, 73, 74, 75, 2] : List Nat) from by decide) (by intro i; (try simp (disch := decide) only [b_upc]); exact h0 _ (by decide) i) (by decide +kernel) (by simp [b_nr]) (by simp [b_nr]) rfl (by decide) wa_long ⟨by decide, by decide⟩ dX8_init_72 ?_
  refine g_putR (kf := 12) (kz := 12) rfl (by decide) kd_2 rfl ⟨by decide, by decide⟩ rfl (by decide) rfl rfl wf_8_37 rfl (ty := tyX8 12) rfl (fun _ => ⟨rfl, rfl⟩) dX8_init_74 ?_
  refine v_aload_n (f := 0) 0 rfl dX8_init_77 ?_
  refine v_bipush ⟨by decide, by decide⟩ (by decide) dX8_init_78 ?_
  refine g_newa_long kd_84 (by decide) (show (84 : Nat) ∉ ([0, 1, 72, 73, 74, 75, 2] : List Nat) from by decide) (by intro i; (try simp (disch := decide) only [b_upc]); exact h0 _ (by decide) i) (by decide +kernel) (by simp [b_nr]) (by simp [b_nr]) rfl (by decide) wa_long ⟨by decide, by decide⟩ dX8_init_80 ?_
  refine g_putR (kf := 13) (kz := 13) rfl (by decide) kd_2 rfl ⟨by decide, by decide⟩ rfl (by decide) rfl rfl wf_8_41 rfl (ty := tyX8 13) rfl (fun _ => ⟨rfl, rfl⟩) dX8_init_82 ?_
  refine v_return rfl dX8_init_85 ⟨by decide, by decide⟩ ?_
  rfl
