abbrev xX0_init : bX := ("BurntHall$Act", prog_2_method_1_code, 1, (Option.none : Option Jvm.ClassFile.FieldType), b_rm 1 4 59, 1, "<init>")
abbrev yX0_init : MethodName := ⟨"BurntHall$Act", "<init>", "()V"⟩
theorem dX0_init_0 : decode prog_2_method_1_code 0 = .ok (.aload_n 0, 1) := by decide +kernel
theorem dX0_init_1 : decode prog_2_method_1_code 1 = .ok (.invokespecial 1, 3) := by decide +kernel
theorem dX0_init_4 : decode prog_2_method_1_code 4 = .ok (.aload_n 0, 1) := by decide +kernel
theorem dX0_init_5 : decode prog_2_method_1_code 5 = .ok (.bipush 10, 2) := by decide +kernel
theorem dX0_init_7 : decode prog_2_method_1_code 7 = .ok (.newarray .int, 2) := by decide +kernel
theorem dX0_init_9 : decode prog_2_method_1_code 9 = .ok (.putfield 9, 3) := by decide +kernel
theorem dX0_init_12 : decode prog_2_method_1_code 12 = .ok (.aload_n 0, 1) := by decide +kernel
theorem dX0_init_13 : decode prog_2_method_1_code 13 = .ok (.bipush 24, 2) := by decide +kernel
theorem dX0_init_15 : decode prog_2_method_1_code 15 = .ok (.newarray .int, 2) := by decide +kernel
theorem dX0_init_17 : decode prog_2_method_1_code 17 = .ok (.putfield 13, 3) := by decide +kernel
theorem dX0_init_20 : decode prog_2_method_1_code 20 = .ok (.aload_n 0, 1) := by decide +kernel
theorem dX0_init_21 : decode prog_2_method_1_code 21 = .ok (.bipush 25, 2) := by decide +kernel
theorem dX0_init_23 : decode prog_2_method_1_code 23 = .ok (.newarray .int, 2) := by decide +kernel
theorem dX0_init_25 : decode prog_2_method_1_code 25 = .ok (.putfield 16, 3) := by decide +kernel
theorem dX0_init_28 : decode prog_2_method_1_code 28 = .ok (.aload_n 0, 1) := by decide +kernel
theorem dX0_init_29 : decode prog_2_method_1_code 29 = .ok (.iconst 0, 1) := by decide +kernel
theorem dX0_init_30 : decode prog_2_method_1_code 30 = .ok (.newarray .long, 2) := by decide +kernel
theorem dX0_init_32 : decode prog_2_method_1_code 32 = .ok (.putfield 19, 3) := by decide +kernel
theorem dX0_init_35 : decode prog_2_method_1_code 35 = .ok (.getstatic 23, 3) := by decide +kernel
theorem dX0_init_38 : decode prog_2_method_1_code 38 = .ok (.iconst 0, 1) := by decide +kernel
theorem dX0_init_39 : decode prog_2_method_1_code 39 = .ok (.aload_n 0, 1) := by decide +kernel
theorem dX0_init_40 : decode prog_2_method_1_code 40 = .ok (.getfield 9, 3) := by decide +kernel
theorem dX0_init_43 : decode prog_2_method_1_code 43 = .ok (.iconst 0, 1) := by decide +kernel
theorem dX0_init_44 : decode prog_2_method_1_code 44 = .ok (.bipush 10, 2) := by decide +kernel
theorem dX0_init_46 : decode prog_2_method_1_code 46 = .ok (.invokestatic 26, 3) := by decide +kernel
theorem dX0_init_49 : decode prog_2_method_1_code 49 = .ok (.return_, 1) := by decide +kernel
theorem c_X0_init0 {l : Launch} {E : bE} {M : bM} (hfg : b_fg E) (h0 : ∀ c ∈ ([22, 32, 52, 62] : List Nat), ∀ i, M c i = 0) (hgh : M b_G 62 = 0) : b_CL l E xX0_init yX0_init [0, 1, 72, 2, 76, 77, 78, 79, 80, 81, 82, 83, 84, 3, 85, 86, 87, 88, 89, 90, 91, 92, 93, 94, 95, 96, 97, 98, 99, 100, 101, 102, 103, 4, 107, 108, 109, 104, 105, 106, 12] [0, 1, 72, 2, 76, 77, 78, 79, 80, 81, 82, 83, 84, 3, 85, 86, 87, 88, 89, 90, 91, 92, 93, 94, 95, 96, 97, 98, 99, 100, 101, 102, 103, 4, 107, 108, 109, 104, 105, 106, 12, 22, 32, 52, 62] [bR 12] M (fun r M' => r = none ∧ M' = b_set (b_upl M [(12, 2, 1), (12, 3, 1), (12, 4, 1), (12, 5, 1)]) 22 (s_cpy s_u0 (b_upl M [(12, 2, 1), (12, 3, 1), (12, 4, 1), (12, 5, 1)] 22) 0 0 10)) := by
  have hz := hfg.2.2.2.2.2.2.2.2.2.2.2.1
  have ht := hfg.2.2.2.2.2.2.2.2.2.2.2.2.1
  refine b_met (by decide) ⟨rfl, rfl⟩ (Nat.le_of_ble_eq_true rfl) (fun hA hRg => ?_)
  refine v_sub (ls2 := [(0, bR _)]) [0] rfl ?_
  refine v_aload_n (f := 0) 0 rfl dX0_init_0 ?_
  refine g_objInit wm_0_1 wob_i wob_c (Nat.le_of_ble_eq_true rfl) ⟨by decide, by decide⟩ dX0_init_1 ?_
  refine v_aload_n (f := 0) 0 rfl dX0_init_4 ?_
  refine v_bipush ⟨by decide, by decide⟩ (by decide) dX0_init_5 ?_
  refine g_newa_int kd_22 (by decide) (show (22 : Nat) ∉ ([0, 1, 72, 2, 76, 77, 78, 79, 80, 81, 82, 83, 84, 3, 85, 86, 87, 88, 89, 90, 91, 92, 93, 94, 95, 96, 97, 98, 99, 100, 101, 102, 103, 4, 107, 108, 109, 104, 105, 106, 12] : List Nat) from by decide) (by intro i; (try simp (disch := decide) only [b_upc]); exact h0 _ (by decide) i) (by decide +kernel) (by simp [b_nr]) (by simp [b_nr]) rfl (by decide) wa_int ⟨by decide, by decide⟩ dX0_init_7 ?_
  refine g_putO (kf := 2) (kz := 2) rfl (by decide) kd_12 rfl ⟨by decide, by decide⟩ rfl (by decide) rfl rfl wf_0_9 rfl (ty := tyX0 2) rfl (fun _ => ⟨rfl, rfl⟩) dX0_init_9 ?_
  refine v_aload_n (f := 0) 0 rfl dX0_init_12 ?_
  refine v_bipush ⟨by decide, by decide⟩ (by decide) dX0_init_13 ?_
  refine g_newa_int kd_32 (by decide) (show (32 : Nat) ∉ ([0, 1, 72, 2, 76, 77, 78, 79, 80, 81, 82, 83, 84, 3, 85, 86, 87, 88, 89, 90, 91, 92, 93, 94, 95, 96, 97, 98, 99, 100, 101, 102, 103, 4, 107, 108, 109, 104, 105, 106, 12] : List Nat) from by decide) (by intro i; (try simp (disch := decide) only [b_upc]); exact h0 _ (by decide) i) (by decide +kernel) (by simp [b_nr]) (by simp [b_nr]) rfl (by decide) wa_int ⟨by decide, by decide⟩ dX0_init_15 ?_
  refine g_putO (kf := 3) (kz := 3) rfl (by decide) kd_12 rfl ⟨by decide, by decide⟩ rfl (by decide) rfl rfl wf_0_13 rfl (ty := tyX0 3) rfl (fun _ => ⟨rfl, rfl⟩) dX0_init_17 ?_
  refine v_aload_n (f := 0) 0 rfl dX0_init_20 ?_
  refine v_bipush ⟨by decide, by decide⟩ (by decide) dX0_init_21 ?_
  refine g_newa_int kd_52 (by decide) (show (52 : Nat) ∉ ([0, 1, 72, 2, 76, 77, 78, 79, 80, 81, 82, 83, 84, 3, 85, 86, 87, 88, 89, 90, 91, 92, 93, 94, 95, 96, 97, 98, 99, 100, 101, 102, 103, 4, 107, 108, 109, 104, 105, 106, 12] : List Nat) from by decide) (by intro i; (try simp (disch := decide) only [b_upc]); exact h0 _ (by decide) i) (by decide +kernel) (by simp [b_nr]) (by simp [b_nr]) rfl (by decide) wa_int ⟨by decide, by decide⟩ dX0_init_23 ?_
  refine g_putO (kf := 4) (kz := 4) rfl (by decide) kd_12 rfl ⟨by decide, by decide⟩ rfl (by decide) rfl rfl wf_0_16 rfl (ty := tyX0 4) rfl (fun _ => ⟨rfl, rfl⟩) dX0_init_25 ?_
  refine v_aload_n (f := 0) 0 rfl dX0_init_28 ?_
  refine v_iconst ⟨by decide, by decide⟩ dX0_init_29 ?_
  refine g_newa_long0 kd_62 (by decide) (show (62 : Nat) ∉ ([0, 1, 72, 2, 76, 77, 78, 79, 80, 81, 82, 83, 84, 3, 85, 86, 87, 88, 89, 90, 91, 92, 93, 94, 95, 96, 97, 98, 99, 100, 101, 102, 103, 4, 107, 108, 109, 104, 105, 106, 12] : List Nat) from by decide) ⟨(by intro i; (try simp (disch := decide) only [b_upc]); exact h0 _ (by decide) i), (by (try simp (disch := decide) only [b_upc]); exact hgh)⟩ (by decide +kernel) (by simp [b_nr]) (by simp [b_nr]) rfl (by decide) wa_long ⟨by decide, by decide⟩ dX0_init_30 ?_
  refine g_putOn (kf := 5) (kz := 5) rfl (by decide) kd_12 rfl ⟨by decide, by decide⟩ rfl (by decide) wf_0_19 rfl (ty := tyX0 5) rfl (fun _ => ⟨rfl, rfl⟩) dX0_init_32 ?_
  refine f_getsR (c2 := 2020) (by decide) hz wf_0_23 dX0_init_35 ?_
  refine v_iconst ⟨by decide, by decide⟩ dX0_init_38 ?_
  refine v_aload_n (f := 0) 0 rfl dX0_init_39 ?_
  refine g_getO (Or.inr (by simp (disch := decide) only [b_upc, b_upi, b_ups]; decide)) (kf := 2) (kz := 2) rfl (by decide) kd_12 rfl ⟨by decide, by decide⟩ rfl wf_0_9 dX0_init_40 ?_
  refine v_iconst ⟨by decide, by decide⟩ dX0_init_43 ?_
  refine v_bipush ⟨by decide, by decide⟩ (by decide) dX0_init_44 ?_
  refine f_copyI (c1 := 22) (by decide) ht s_u0_r (by decide) kd_22 (by decide) wm_0_26 ⟨by decide, by decide⟩ (Nat.le_of_ble_eq_true rfl) dX0_init_46 ?_
  exact v_return rfl dX0_init_49 ⟨by decide, by decide⟩ ⟨rfl, rfl⟩
theorem c_X0_init1 {l : Launch} {E : bE} {M : bM} (hfg : b_fg E) (h0 : ∀ c ∈ ([23, 33, 53, 63] : List Nat), ∀ i, M c i = 0) (hgh : M b_G 63 = 0) : b_CL l E xX0_init yX0_init [0, 1, 72, 2, 76, 77, 78, 79, 80, 81, 82, 83, 84, 3, 85, 86, 87, 88, 89, 90, 91, 92, 93, 94, 95, 96, 97, 98, 99, 100, 101, 102, 103, 4, 107, 108, 109, 104, 105, 106, 12, 22, 32, 52, 62, 13] [0, 1, 72, 2, 76, 77, 78, 79, 80, 81, 82, 83, 84, 3, 85, 86, 87, 88, 89, 90, 91, 92, 93, 94, 95, 96, 97, 98, 99, 100, 101, 102, 103, 4, 107, 108, 109, 104, 105, 106, 12, 22, 32, 52, 62, 13, 23, 33, 53, 63] [bR 13] M (fun r M' => r = none ∧ M' = b_set (b_upl M [(13, 2, 1), (13, 3, 1), (13, 4, 1), (13, 5, 1)]) 23 (s_cpy s_u0 (b_upl M [(13, 2, 1), (13, 3, 1), (13, 4, 1), (13, 5, 1)] 23) 0 0 10)) := by
  have hz := hfg.2.2.2.2.2.2.2.2.2.2.2.1
  have ht := hfg.2.2.2.2.2.2.2.2.2.2.2.2.1
  refine b_met (by decide) ⟨rfl, rfl⟩ (Nat.le_of_ble_eq_true rfl) (fun hA hRg => ?_)
  refine v_sub (ls2 := [(0, bR _)]) [0] rfl ?_
  refine v_aload_n (f := 0) 0 rfl dX0_init_0 ?_
  refine g_objInit wm_0_1 wob_i wob_c (Nat.le_of_ble_eq_true rfl) ⟨by decide, by decide⟩ dX0_init_1 ?_
  refine v_aload_n (f := 0) 0 rfl dX0_init_4 ?_
  refine v_bipush ⟨by decide, by decide⟩ (by decide) dX0_init_5 ?_
  refine g_newa_int kd_23 (by decide) (show (23 : Nat) ∉ ([0, 1, 72, 2, 76, 77, 78, 79, 80, 81, 82, 83, 84, 3, 85, 86, 87, 88, 89, 90, 91, 92, 93, 94, 95, 96, 97, 98, 99, 100, 101, 102, 103, 4, 107, 108, 109, 104, 105, 106, 12, 22, 32, 52, 62, 13] : List Nat) from by decide) (by intro i; (try simp (disch := decide) only [b_upc]); exact h0 _ (by decide) i) (by decide +kernel) (by simp [b_nr]) (by simp [b_nr]) rfl (by decide) wa_int ⟨by decide, by decide⟩ dX0_init_7 ?_
  refine g_putO (kf := 2) (kz := 2) rfl (by decide) kd_13 rfl ⟨by decide, by decide⟩ rfl (by decide) rfl rfl wf_0_9 rfl (ty := tyX0 2) rfl (fun _ => ⟨rfl, rfl⟩) dX0_init_9 ?_
  refine v_aload_n (f := 0) 0 rfl dX0_init_12 ?_
  refine v_bipush ⟨by decide, by decide⟩ (by decide) dX0_init_13 ?_
  refine g_newa_int kd_33 (by decide) (show (33 : Nat) ∉ ([0, 1, 72, 2, 76, 77, 78, 79, 80, 81, 82, 83, 84, 3, 85, 86, 87, 88, 89, 90, 91, 92, 93, 94, 95, 96, 97, 98, 99, 100, 101, 102, 103, 4, 107, 108, 109, 104, 105, 106, 12, 22, 32, 52, 62, 13] : List Nat) from by decide) (by intro i; (try simp (disch := decide) only [b_upc]); exact h0 _ (by decide) i) (by decide +kernel) (by simp [b_nr]) (by simp [b_nr]) rfl (by decide) wa_int ⟨by decide, by decide⟩ dX0_init_15 ?_
  refine g_putO (kf := 3) (kz := 3) rfl (by decide) kd_13 rfl ⟨by decide, by decide⟩ rfl (by decide) rfl rfl wf_0_13 rfl (ty := tyX0 3) rfl (fun _ => ⟨rfl, rfl⟩) dX0_init_17 ?_
  refine v_aload_n (f := 0) 0 rfl dX0_init_20 ?_
  refine v_bipush ⟨by decide, by decide⟩ (by decide) dX0_init_21 ?_
  refine g_newa_int kd_53 (by decide) (show (53 : Nat) ∉ ([0, 1, 72, 2, 76, 77, 78, 79, 80, 81, 82, 83, 84, 3, 85, 86, 87, 88, 89, 90, 91, 92, 93, 94, 95, 96, 97, 98, 99, 100, 101, 102, 103, 4, 107, 108, 109, 104, 105, 106, 12, 22, 32, 52, 62, 13] : List Nat) from by decide) (by intro i; (try simp (disch := decide) only [b_upc]); exact h0 _ (by decide) i) (by decide +kernel) (by simp [b_nr]) (by simp [b_nr]) rfl (by decide) wa_int ⟨by decide, by decide⟩ dX0_init_23 ?_
  refine g_putO (kf := 4) (kz := 4) rfl (by decide) kd_13 rfl ⟨by decide, by decide⟩ rfl (by decide) rfl rfl wf_0_16 rfl (ty := tyX0 4) rfl (fun _ => ⟨rfl, rfl⟩) dX0_init_25 ?_
  refine v_aload_n (f := 0) 0 rfl dX0_init_28 ?_
  refine v_iconst ⟨by decide, by decide⟩ dX0_init_29 ?_
  refine g_newa_long0 kd_63 (by decide) (show (63 : Nat) ∉ ([0, 1, 72, 2, 76, 77, 78, 79, 80, 81, 82, 83, 84, 3, 85, 86, 87, 88, 89, 90, 91, 92, 93, 94, 95, 96, 97, 98, 99, 100, 101, 102, 103, 4, 107, 108, 109, 104, 105, 106, 12, 22, 32, 52, 62, 13] : List Nat) from by decide) ⟨(by intro i; (try simp (disch := decide) only [b_upc]); exact h0 _ (by decide) i), (by (try simp (disch := decide) only [b_upc]); exact hgh)⟩ (by decide +kernel) (by simp [b_nr]) (by simp [b_nr]) rfl (by decide) wa_long ⟨by decide, by decide⟩ dX0_init_30 ?_
  refine g_putOn (kf := 5) (kz := 5) rfl (by decide) kd_13 rfl ⟨by decide, by decide⟩ rfl (by decide) wf_0_19 rfl (ty := tyX0 5) rfl (fun _ => ⟨rfl, rfl⟩) dX0_init_32 ?_
  refine f_getsR (c2 := 2020) (by decide) hz wf_0_23 dX0_init_35 ?_
  refine v_iconst ⟨by decide, by decide⟩ dX0_init_38 ?_
  refine v_aload_n (f := 0) 0 rfl dX0_init_39 ?_
  refine g_getO (Or.inr (by simp (disch := decide) only [b_upc, b_upi, b_ups]; decide)) (kf := 2) (kz := 2) rfl (by decide) kd_13 rfl ⟨by decide, by decide⟩ rfl wf_0_9 dX0_init_40 ?_
  refine v_iconst ⟨by decide, by decide⟩ dX0_init_43 ?_
  refine v_bipush ⟨by decide, by decide⟩ (by decide) dX0_init_44 ?_
  refine f_copyI (c1 := 23) (by decide) ht s_u0_r (by decide) kd_23 (by decide) wm_0_26 ⟨by decide, by decide⟩ (Nat.le_of_ble_eq_true rfl) dX0_init_46 ?_
  exact v_return rfl dX0_init_49 ⟨by decide, by decide⟩ ⟨rfl, rfl⟩
theorem c_X0_init2 {l : Launch} {E : bE} {M : bM} (hfg : b_fg E) (h0 : ∀ c ∈ ([24, 34, 54, 64] : List Nat), ∀ i, M c i = 0) (hgh : M b_G 64 = 0) : b_CL l E xX0_init yX0_init [0, 1, 72, 2, 76, 77, 78, 79, 80, 81, 82, 83, 84, 3, 85, 86, 87, 88, 89, 90, 91, 92, 93, 94, 95, 96, 97, 98, 99, 100, 101, 102, 103, 4, 107, 108, 109, 104, 105, 106, 12, 22, 32, 52, 62, 13, 23, 33, 53, 63, 14] [0, 1, 72, 2, 76, 77, 78, 79, 80, 81, 82, 83, 84, 3, 85, 86, 87, 88, 89, 90, 91, 92, 93, 94, 95, 96, 97, 98, 99, 100, 101, 102, 103, 4, 107, 108, 109, 104, 105, 106, 12, 22, 32, 52, 62, 13, 23, 33, 53, 63, 14, 24, 34, 54, 64] [bR 14] M (fun r M' => r = none ∧ M' = b_set (b_upl M [(14, 2, 1), (14, 3, 1), (14, 4, 1), (14, 5, 1)]) 24 (s_cpy s_u0 (b_upl M [(14, 2, 1), (14, 3, 1), (14, 4, 1), (14, 5, 1)] 24) 0 0 10)) := by
  have hz := hfg.2.2.2.2.2.2.2.2.2.2.2.1
  have ht := hfg.2.2.2.2.2.2.2.2.2.2.2.2.1
  refine b_met (by decide) ⟨rfl, rfl⟩ (Nat.le_of_ble_eq_true rfl) (fun hA hRg => ?_)
  refine v_sub (ls2 := [(0, bR _)]) [0] rfl ?_
  refine v_aload_n (f := 0) 0 rfl dX0_init_0 ?_
  refine g_objInit wm_0_1 wob_i wob_c (Nat.le_of_ble_eq_true rfl) ⟨by decide, by decide⟩ dX0_init_1 ?_
  refine v_aload_n (f := 0) 0 rfl dX0_init_4 ?_
  refine v_bipush ⟨by decide, by decide⟩ (by decide) dX0_init_5 ?_
  refine g_newa_int kd_24 (by decide) (show (24 : Nat) ∉ ([0, 1, 72, 2, 76, 77, 78, 79, 80, 81, 82, 83, 84, 3, 85, 86, 87, 88, 89, 90, 91, 92, 93, 94, 95, 96, 97, 98, 99, 100, 101, 102, 103, 4, 107, 108, 109, 104, 105, 106, 12, 22, 32, 52, 62, 13, 23, 33, 53, 63, 14] : List Nat) from by decide) (by intro i; (try simp (disch := decide) only [b_upc]); exact h0 _ (by decide) i) (by decide +kernel) (by simp [b_nr]) (by simp [b_nr]) rfl (by decide) wa_int ⟨by decide, by decide⟩ dX0_init_7 ?_
  refine g_putO (kf := 2) (kz := 2) rfl (by decide) kd_14 rfl ⟨by decide, by decide⟩ rfl (by decide) rfl rfl wf_0_9 rfl (ty := tyX0 2) rfl (fun _ => ⟨rfl, rfl⟩) dX0_init_9 ?_
  refine v_aload_n (f := 0) 0 rfl dX0_init_12 ?_
  refine v_bipush ⟨by decide, by decide⟩ (by decide) dX0_init_13 ?_
  refine g_newa_int kd_34 (by decide) (show (34 : Nat) ∉ ([0, 1, 72, 2, 76, 77, 78, 79, 80, 81, 82, 83, 84, 3, 85, 86, 87, 88, 89, 90, 91, 92, 93, 94, 95, 96, 97, 98, 99, 100, 101, 102, 103, 4, 107, 108, 109, 104, 105, 106, 12, 22, 32, 52, 62, 13, 23, 33, 53, 63, 14] : List Nat) from by decide) (by intro i; (try simp (disch := decide) only [b_upc]); exact h0 _ (by decide) i) (by decide +kernel) (by simp [b_nr]) (by simp [b_nr]) rfl (by decide) wa_int ⟨by decide, by decide⟩ dX0_init_15 ?_
  refine g_putO (kf := 3) (kz := 3) rfl (by decide) kd_14 rfl ⟨by decide, by decide⟩ rfl (by decide) rfl rfl wf_0_13 rfl (ty := tyX0 3) rfl (fun _ => ⟨rfl, rfl⟩) dX0_init_17 ?_
  refine v_aload_n (f := 0) 0 rfl dX0_init_20 ?_
  refine v_bipush ⟨by decide, by decide⟩ (by decide) dX0_init_21 ?_
  refine g_newa_int kd_54 (by decide) (show (54 : Nat) ∉ ([0, 1, 72, 2, 76, 77, 78, 79, 80, 81, 82, 83, 84, 3, 85, 86, 87, 88, 89, 90, 91, 92, 93, 94, 95, 96, 97, 98, 99, 100, 101, 102, 103, 4, 107, 108, 109, 104, 105, 106, 12, 22, 32, 52, 62, 13, 23, 33, 53, 63, 14] : List Nat) from by decide) (by intro i; (try simp (disch := decide) only [b_upc]); exact h0 _ (by decide) i) (by decide +kernel) (by simp [b_nr]) (by simp [b_nr]) rfl (by decide) wa_int ⟨by decide, by decide⟩ dX0_init_23 ?_
  refine g_putO (kf := 4) (kz := 4) rfl (by decide) kd_14 rfl ⟨by decide, by decide⟩ rfl (by decide) rfl rfl wf_0_16 rfl (ty := tyX0 4) rfl (fun _ => ⟨rfl, rfl⟩) dX0_init_25 ?_
  refine v_aload_n (f := 0) 0 rfl dX0_init_28 ?_
  refine v_iconst ⟨by decide, by decide⟩ dX0_init_29 ?_
  refine g_newa_long0 kd_64 (by decide) (show (64 : Nat) ∉ ([0, 1, 72, 2, 76, 77, 78, 79, 80, 81, 82, 83, 84, 3, 85, 86, 87, 88, 89, 90, 91, 92, 93, 94, 95, 96, 97, 98, 99, 100, 101, 102, 103, 4, 107, 108, 109, 104, 105, 106, 12, 22, 32, 52, 62, 13, 23, 33, 53, 63, 14] : List Nat) from by decide) ⟨(by intro i; (try simp (disch := decide) only [b_upc]); exact h0 _ (by decide) i), (by (try simp (disch := decide) only [b_upc]); exact hgh)⟩ (by decide +kernel) (by simp [b_nr]) (by simp [b_nr]) rfl (by decide) wa_long ⟨by decide, by decide⟩ dX0_init_30 ?_
  refine g_putOn (kf := 5) (kz := 5) rfl (by decide) kd_14 rfl ⟨by decide, by decide⟩ rfl (by decide) wf_0_19 rfl (ty := tyX0 5) rfl (fun _ => ⟨rfl, rfl⟩) dX0_init_32 ?_
  refine f_getsR (c2 := 2020) (by decide) hz wf_0_23 dX0_init_35 ?_
  refine v_iconst ⟨by decide, by decide⟩ dX0_init_38 ?_
  refine v_aload_n (f := 0) 0 rfl dX0_init_39 ?_
  refine g_getO (Or.inr (by simp (disch := decide) only [b_upc, b_upi, b_ups]; decide)) (kf := 2) (kz := 2) rfl (by decide) kd_14 rfl ⟨by decide, by decide⟩ rfl wf_0_9 dX0_init_40 ?_
  refine v_iconst ⟨by decide, by decide⟩ dX0_init_43 ?_
  refine v_bipush ⟨by decide, by decide⟩ (by decide) dX0_init_44 ?_
  refine f_copyI (c1 := 24) (by decide) ht s_u0_r (by decide) kd_24 (by decide) wm_0_26 ⟨by decide, by decide⟩ (Nat.le_of_ble_eq_true rfl) dX0_init_46 ?_
  exact v_return rfl dX0_init_49 ⟨by decide, by decide⟩ ⟨rfl, rfl⟩
theorem c_X0_init3 {l : Launch} {E : bE} {M : bM} (hfg : b_fg E) (h0 : ∀ c ∈ ([25, 35, 55, 65] : List Nat), ∀ i, M c i = 0) (hgh : M b_G 65 = 0) : b_CL l E xX0_init yX0_init [0, 1, 72, 2, 76, 77, 78, 79, 80, 81, 82, 83, 84, 3, 85, 86, 87, 88, 89, 90, 91, 92, 93, 94, 95, 96, 97, 98, 99, 100, 101, 102, 103, 4, 107, 108, 109, 104, 105, 106, 12, 22, 32, 52, 62, 13, 23, 33, 53, 63, 14, 24, 34, 54, 64, 15] [0, 1, 72, 2, 76, 77, 78, 79, 80, 81, 82, 83, 84, 3, 85, 86, 87, 88, 89, 90, 91, 92, 93, 94, 95, 96, 97, 98, 99, 100, 101, 102, 103, 4, 107, 108, 109, 104, 105, 106, 12, 22, 32, 52, 62, 13, 23, 33, 53, 63, 14, 24, 34, 54, 64, 15, 25, 35, 55, 65] [bR 15] M (fun r M' => r = none ∧ M' = b_set (b_upl M [(15, 2, 1), (15, 3, 1), (15, 4, 1), (15, 5, 1)]) 25 (s_cpy s_u0 (b_upl M [(15, 2, 1), (15, 3, 1), (15, 4, 1), (15, 5, 1)] 25) 0 0 10)) := by
  have hz := hfg.2.2.2.2.2.2.2.2.2.2.2.1
  have ht := hfg.2.2.2.2.2.2.2.2.2.2.2.2.1
  refine b_met (by decide) ⟨rfl, rfl⟩ (Nat.le_of_ble_eq_true rfl) (fun hA hRg => ?_)
  refine v_sub (ls2 := [(0, bR _)]) [0] rfl ?_
  refine v_aload_n (f := 0) 0 rfl dX0_init_0 ?_
  refine g_objInit wm_0_1 wob_i wob_c (Nat.le_of_ble_eq_true rfl) ⟨by decide, by decide⟩ dX0_init_1 ?_
  refine v_aload_n (f := 0) 0 rfl dX0_init_4 ?_
  refine v_bipush ⟨by decide, by decide⟩ (by decide) dX0_init_5 ?_
  refine g_newa_int kd_25 (by decide) (show (25 : Nat) ∉ ([0, 1, 72, 2, 76, 77, 78, 79, 80, 81, 82, 83, 84, 3, 85, 86, 87, 88, 89, 90, 91, 92, 93, 94, 95, 96, 97, 98, 99, 100, 101, 102, 103, 4, 107, 108, 109, 104, 105, 106, 12, 22, 32, 52, 62, 13, 23, 33, 53, 63, 14, 24, 34, 54, 64, 15] : List Nat) from by decide) (by intro i; (try simp (disch := decide) only [b_upc]); exact h0 _ (by decide) i) (by decide +kernel) (by simp [b_nr]) (by simp [b_nr]) rfl (by decide) wa_int ⟨by decide, by decide⟩ dX0_init_7 ?_
  refine g_putO (kf := 2) (kz := 2) rfl (by decide) kd_15 rfl ⟨by decide, by decide⟩ rfl (by decide) rfl rfl wf_0_9 rfl (ty := tyX0 2) rfl (fun _ => ⟨rfl, rfl⟩) dX0_init_9 ?_
  refine v_aload_n (f := 0) 0 rfl dX0_init_12 ?_
  refine v_bipush ⟨by decide, by decide⟩ (by decide) dX0_init_13 ?_
  refine g_newa_int kd_35 (by decide) (show (35 : Nat) ∉ ([0, 1, 72, 2, 76, 77, 78, 79, 80, 81, 82, 83, 84, 3, 85, 86, 87, 88, 89, 90, 91, 92, 93, 94, 95, 96, 97, 98, 99, 100, 101, 102, 103, 4, 107, 108, 109, 104, 105, 106, 12, 22, 32, 52, 62, 13, 23, 33, 53, 63, 14, 24, 34, 54, 64, 15] : List Nat) from by decide) (by intro i; (try simp (disch := decide) only [b_upc]); exact h0 _ (by decide) i) (by decide +kernel) (by simp [b_nr]) (by simp [b_nr]) rfl (by decide) wa_int ⟨by decide, by decide⟩ dX0_init_15 ?_
  refine g_putO (kf := 3) (kz := 3) rfl (by decide) kd_15 rfl ⟨by decide, by decide⟩ rfl (by decide) rfl rfl wf_0_13 rfl (ty := tyX0 3) rfl (fun _ => ⟨rfl, rfl⟩) dX0_init_17 ?_
  refine v_aload_n (f := 0) 0 rfl dX0_init_20 ?_
  refine v_bipush ⟨by decide, by decide⟩ (by decide) dX0_init_21 ?_
  refine g_newa_int kd_55 (by decide) (show (55 : Nat) ∉ ([0, 1, 72, 2, 76, 77, 78, 79, 80, 81, 82, 83, 84, 3, 85, 86, 87, 88, 89, 90, 91, 92, 93, 94, 95, 96, 97, 98, 99, 100, 101, 102, 103, 4, 107, 108, 109, 104, 105, 106, 12, 22, 32, 52, 62, 13, 23, 33, 53, 63, 14, 24, 34, 54, 64, 15] : List Nat) from by decide) (by intro i; (try simp (disch := decide) only [b_upc]); exact h0 _ (by decide) i) (by decide +kernel) (by simp [b_nr]) (by simp [b_nr]) rfl (by decide) wa_int ⟨by decide, by decide⟩ dX0_init_23 ?_
  refine g_putO (kf := 4) (kz := 4) rfl (by decide) kd_15 rfl ⟨by decide, by decide⟩ rfl (by decide) rfl rfl wf_0_16 rfl (ty := tyX0 4) rfl (fun _ => ⟨rfl, rfl⟩) dX0_init_25 ?_
  refine v_aload_n (f := 0) 0 rfl dX0_init_28 ?_
  refine v_iconst ⟨by decide, by decide⟩ dX0_init_29 ?_
  refine g_newa_long0 kd_65 (by decide) (show (65 : Nat) ∉ ([0, 1, 72, 2, 76, 77, 78, 79, 80, 81, 82, 83, 84, 3, 85, 86, 87, 88, 89, 90, 91, 92, 93, 94, 95, 96, 97, 98, 99, 100, 101, 102, 103, 4, 107, 108, 109, 104, 105, 106, 12, 22, 32, 52, 62, 13, 23, 33, 53, 63, 14, 24, 34, 54, 64, 15] : List Nat) from by decide) ⟨(by intro i; (try simp (disch := decide) only [b_upc]); exact h0 _ (by decide) i), (by (try simp (disch := decide) only [b_upc]); exact hgh)⟩ (by decide +kernel) (by simp [b_nr]) (by simp [b_nr]) rfl (by decide) wa_long ⟨by decide, by decide⟩ dX0_init_30 ?_
  refine g_putOn (kf := 5) (kz := 5) rfl (by decide) kd_15 rfl ⟨by decide, by decide⟩ rfl (by decide) wf_0_19 rfl (ty := tyX0 5) rfl (fun _ => ⟨rfl, rfl⟩) dX0_init_32 ?_
  refine f_getsR (c2 := 2020) (by decide) hz wf_0_23 dX0_init_35 ?_
  refine v_iconst ⟨by decide, by decide⟩ dX0_init_38 ?_
  refine v_aload_n (f := 0) 0 rfl dX0_init_39 ?_
  refine g_getO (Or.inr (by simp (disch := decide) only [b_upc, b_upi, b_ups]; decide)) (kf := 2) (kz := 2) rfl (by decide) kd_15 rfl ⟨by decide, by decide⟩ rfl wf_0_9 dX0_init_40 ?_
  refine v_iconst ⟨by decide, by decide⟩ dX0_init_43 ?_
  refine v_bipush ⟨by decide, by decide⟩ (by decide) dX0_init_44 ?_
  refine f_copyI (c1 := 25) (by decide) ht s_u0_r (by decide) kd_25 (by decide) wm_0_26 ⟨by decide, by decide⟩ (Nat.le_of_ble_eq_true rfl) dX0_init_46 ?_
  exact v_return rfl dX0_init_49 ⟨by decide, by decide⟩ ⟨rfl, rfl⟩
theorem c_X0_init4 {l : Launch} {E : bE} {M : bM} (hfg : b_fg E) (h0 : ∀ c ∈ ([26, 36, 56, 66] : List Nat), ∀ i, M c i = 0) (hgh : M b_G 66 = 0) : b_CL l E xX0_init yX0_init [0, 1, 72, 2, 76, 77, 78, 79, 80, 81, 82, 83, 84, 3, 85, 86, 87, 88, 89, 90, 91, 92, 93, 94, 95, 96, 97, 98, 99, 100, 101, 102, 103, 4, 107, 108, 109, 104, 105, 106, 12, 22, 32, 52, 62, 13, 23, 33, 53, 63, 14, 24, 34, 54, 64, 15, 25, 35, 55, 65, 16] [0, 1, 72, 2, 76, 77, 78, 79, 80, 81, 82, 83, 84, 3, 85, 86, 87, 88, 89, 90, 91, 92, 93, 94, 95, 96, 97, 98, 99, 100, 101, 102, 103, 4, 107, 108, 109, 104, 105, 106, 12, 22, 32, 52, 62, 13, 23, 33, 53, 63, 14, 24, 34, 54, 64, 15, 25, 35, 55, 65, 16, 26, 36, 56, 66] [bR 16] M (fun r M' => r = none ∧ M' = b_set (b_upl M [(16, 2, 1), (16, 3, 1), (16, 4, 1), (16, 5, 1)]) 26 (s_cpy s_u0 (b_upl M [(16, 2, 1), (16, 3, 1), (16, 4, 1), (16, 5, 1)] 26) 0 0 10)) := by
  have hz := hfg.2.2.2.2.2.2.2.2.2.2.2.1
  have ht := hfg.2.2.2.2.2.2.2.2.2.2.2.2.1
  refine b_met (by decide) ⟨rfl, rfl⟩ (Nat.le_of_ble_eq_true rfl) (fun hA hRg => ?_)
  refine v_sub (ls2 := [(0, bR _)]) [0] rfl ?_
  refine v_aload_n (f := 0) 0 rfl dX0_init_0 ?_
  refine g_objInit wm_0_1 wob_i wob_c (Nat.le_of_ble_eq_true rfl) ⟨by decide, by decide⟩ dX0_init_1 ?_
  refine v_aload_n (f := 0) 0 rfl dX0_init_4 ?_
  refine v_bipush ⟨by decide, by decide⟩ (by decide) dX0_init_5 ?_
  refine g_newa_int kd_26 (by decide) (show (26 : Nat) ∉ ([0, 1, 72, 2, 76, 77, 78, 79, 80, 81, 82, 83, 84, 3, 85, 86, 87, 88, 89, 90, 91, 92, 93, 94, 95, 96, 97, 98, 99, 100, 101, 102, 103, 4, 107, 108, 109, 104, 105, 106, 12, 22, 32, 52, 62, 13, 23, 33, 53, 63, 14, 24, 34, 54, 64, 15, 25, 35, 55, 65, 16] : List Nat) from by decide) (by intro i; (try simp (disch := decide) only [b_upc]); exact h0 _ (by decide) i) (by decide +kernel) (by simp [b_nr]) (by simp [b_nr]) rfl (by decide) wa_int ⟨by decide, by decide⟩ dX0_init_7 ?_
  refine g_putO (kf := 2) (kz := 2) rfl (by decide) kd_16 rfl ⟨by decide, by decide⟩ rfl (by decide) rfl rfl wf_0_9 rfl (ty := tyX0 2) rfl (fun _ => ⟨rfl, rfl⟩) dX0_init_9 ?_
  refine v_aload_n (f := 0) 0 rfl dX0_init_12 ?_
  refine v_bipush ⟨by decide, by decide⟩ (by decide) dX0_init_13 ?_
  refine g_newa_int kd_36 (by decide) (show (36 : Nat) ∉ ([0, 1, 72, 2, 76, 77, 78, 79, 80, 81, 82, 83, 84, 3, 85, 86, 87, 88, 89, 90, 91, 92, 93, 94, 95, 96, 97, 98, 99, 100, 101, 102, 103, 4, 107, 108, 109, 104, 105, 106, 12, 22, 32, 52, 62, 13, 23, 33, 53, 63, 14, 24, 34, 54, 64, 15, 25, 35, 55, 65, 16] : List Nat) from by decide) (by intro i; (try simp (disch := decide) only [b_upc]); exact h0 _ (by decide) i) (by decide +kernel) (by simp [b_nr]) (by simp [b_nr]) rfl (by decide) wa_int ⟨by decide, by decide⟩ dX0_init_15 ?_
  refine g_putO (kf := 3) (kz := 3) rfl (by decide) kd_16 rfl ⟨by decide, by decide⟩ rfl (by decide) rfl rfl wf_0_13 rfl (ty := tyX0 3) rfl (fun _ => ⟨rfl, rfl⟩) dX0_init_17 ?_
  refine v_aload_n (f := 0) 0 rfl dX0_init_20 ?_
  refine v_bipush ⟨by decide, by decide⟩ (by decide) dX0_init_21 ?_
  refine g_newa_int kd_56 (by decide) (show (56 : Nat) ∉ ([0, 1, 72, 2, 76, 77, 78, 79, 80, 81, 82, 83, 84, 3, 85, 86, 87, 88, 89, 90, 91, 92, 93, 94, 95, 96, 97, 98, 99, 100, 101, 102, 103, 4, 107, 108, 109, 104, 105, 106, 12, 22, 32, 52, 62, 13, 23, 33, 53, 63, 14, 24, 34, 54, 64, 15, 25, 35, 55, 65, 16] : List Nat) from by decide) (by intro i; (try simp (disch := decide) only [b_upc]); exact h0 _ (by decide) i) (by decide +kernel) (by simp [b_nr]) (by simp [b_nr]) rfl (by decide) wa_int ⟨by decide, by decide⟩ dX0_init_23 ?_
  refine g_putO (kf := 4) (kz := 4) rfl (by decide) kd_16 rfl ⟨by decide, by decide⟩ rfl (by decide) rfl rfl wf_0_16 rfl (ty := tyX0 4) rfl (fun _ => ⟨rfl, rfl⟩) dX0_init_25 ?_
  refine v_aload_n (f := 0) 0 rfl dX0_init_28 ?_
  refine v_iconst ⟨by decide, by decide⟩ dX0_init_29 ?_
  refine g_newa_long0 kd_66 (by decide) (show (66 : Nat) ∉ ([0, 1, 72, 2, 76, 77, 78, 79, 80, 81, 82, 83, 84, 3, 85, 86, 87, 88, 89, 90, 91, 92, 93, 94, 95, 96, 97, 98, 99, 100, 101, 102, 103, 4, 107, 108, 109, 104, 105, 106, 12, 22, 32, 52, 62, 13, 23, 33, 53, 63, 14, 24, 34, 54, 64, 15, 25, 35, 55, 65, 16] : List Nat) from by decide) ⟨(by intro i; (try simp (disch := decide) only [b_upc]); exact h0 _ (by decide) i), (by (try simp (disch := decide) only [b_upc]); exact hgh)⟩ (by decide +kernel) (by simp [b_nr]) (by simp [b_nr]) rfl (by decide) wa_long ⟨by decide, by decide⟩ dX0_init_30 ?_
  refine g_putOn (kf := 5) (kz := 5) rfl (by decide) kd_16 rfl ⟨by decide, by decide⟩ rfl (by decide) wf_0_19 rfl (ty := tyX0 5) rfl (fun _ => ⟨rfl, rfl⟩) dX0_init_32 ?_
  refine f_getsR (c2 := 2020) (by decide) hz wf_0_23 dX0_init_35 ?_
  refine v_iconst ⟨by decide, by decide⟩ dX0_init_38 ?_
  refine v_aload_n (f := 0) 0 rfl dX0_init_39 ?_
  refine g_getO (Or.inr (by simp (disch := decide) only [b_upc, b_upi, b_ups]; decide)) (kf := 2) (kz := 2) rfl (by decide) kd_16 rfl ⟨by decide, by decide⟩ rfl wf_0_9 dX0_init_40 ?_
  refine v_iconst ⟨by decide, by decide⟩ dX0_init_43 ?_
  refine v_bipush ⟨by decide, by decide⟩ (by decide) dX0_init_44 ?_
  refine f_copyI (c1 := 26) (by decide) ht s_u0_r (by decide) kd_26 (by decide) wm_0_26 ⟨by decide, by decide⟩ (Nat.le_of_ble_eq_true rfl) dX0_init_46 ?_
  exact v_return rfl dX0_init_49 ⟨by decide, by decide⟩ ⟨rfl, rfl⟩
theorem c_X0_init5 {l : Launch} {E : bE} {M : bM} (hfg : b_fg E) (h0 : ∀ c ∈ ([27, 37, 57, 67] : List Nat), ∀ i, M c i = 0) (hgh : M b_G 67 = 0) : b_CL l E xX0_init yX0_init [0, 1, 72, 2, 76, 77, 78, 79, 80, 81, 82, 83, 84, 3, 85, 86, 87, 88, 89, 90, 91, 92, 93, 94, 95, 96, 97, 98, 99, 100, 101, 102, 103, 4, 107, 108, 109, 104, 105, 106, 12, 22, 32, 52, 62, 13, 23, 33, 53, 63, 14, 24, 34, 54, 64, 15, 25, 35, 55, 65, 16, 26, 36, 56, 66, 17] [0, 1, 72, 2, 76, 77, 78, 79, 80, 81, 82, 83, 84, 3, 85, 86, 87, 88, 89, 90, 91, 92, 93, 94, 95, 96, 97, 98, 99, 100, 101, 102, 103, 4, 107, 108, 109, 104, 105, 106, 12, 22, 32, 52, 62, 13, 23, 33, 53, 63, 14, 24, 34, 54, 64, 15, 25, 35, 55, 65, 16, 26, 36, 56, 66, 17, 27, 37, 57, 67] [bR 17] M (fun r M' => r = none ∧ M' = b_set (b_upl M [(17, 2, 1), (17, 3, 1), (17, 4, 1), (17, 5, 1)]) 27 (s_cpy s_u0 (b_upl M [(17, 2, 1), (17, 3, 1), (17, 4, 1), (17, 5, 1)] 27) 0 0 10)) := by
  have hz := hfg.2.2.2.2.2.2.2.2.2.2.2.1
  have ht := hfg.2.2.2.2.2.2.2.2.2.2.2.2.1
  refine b_met (by decide) ⟨rfl, rfl⟩ (Nat.le_of_ble_eq_true rfl) (fun hA hRg => ?_)
  refine v_sub (ls2 := [(0, bR _)]) [0] rfl ?_
  refine v_aload_n (f := 0) 0 rfl dX0_init_0 ?_
  refine g_objInit wm_0_1 wob_i wob_c (Nat.le_of_ble_eq_true rfl) ⟨by decide, by decide⟩ dX0_init_1 ?_
  refine v_aload_n (f := 0) 0 rfl dX0_init_4 ?_
  refine v_bipush ⟨by decide, by decide⟩ (by decide) dX0_init_5 ?_
  refine g_newa_int kd_27 (by decide) (show (27 : Nat) ∉ ([0, 1, 72, 2, 76, 77, 78, 79, 80, 81, 82, 83, 84, 3, 85, 86, 87, 88, 89, 90, 91, 92, 93, 94, 95, 96, 97, 98, 99, 100, 101, 102, 103, 4, 107, 108, 109, 104, 105, 106, 12, 22, 32, 52, 62, 13, 23, 33, 53, 63, 14, 24, 34, 54, 64, 15, 25, 35, 55, 65, 16, 26, 36, 56, 66, 17] : List Nat) from by decide) (by intro i; (try simp (disch := decide) only [b_upc]); exact h0 _ (by decide) i) (by decide +kernel) (by simp [b_nr]) (by simp [b_nr]) rfl (by decide) wa_int ⟨by decide, by decide⟩ dX0_init_7 ?_
  refine g_putO (kf := 2) (kz := 2) rfl (by decide) kd_17 rfl ⟨by decide, by decide⟩ rfl (by decide) rfl rfl wf_0_9 rfl (ty := tyX0 2) rfl (fun _ => ⟨rfl, rfl⟩) dX0_init_9 ?_
  refine v_aload_n (f := 0) 0 rfl dX0_init_12 ?_
  refine v_bipush ⟨by decide, by decide⟩ (by decide) dX0_init_13 ?_
  refine g_newa_int kd_37 (by decide) (show (37 : Nat) ∉ ([0, 1, 72, 2, 76, 77, 78, 79, 80, 81, 82, 83, 84, 3, 85, 86, 87, 88, 89, 90, 91, 92, 93, 94, 95, 96, 97, 98, 99, 100, 101, 102, 103, 4, 107, 108, 109, 104, 105, 106, 12, 22, 32, 52, 62, 13, 23, 33, 53, 63, 14, 24, 34, 54, 64, 15, 25, 35, 55, 65, 16, 26, 36, 56, 66, 17] : List Nat) from by decide) (by intro i; (try simp (disch := decide) only [b_upc]); exact h0 _ (by decide) i) (by decide +kernel) (by simp [b_nr]) (by simp [b_nr]) rfl (by decide) wa_int ⟨by decide, by decide⟩ dX0_init_15 ?_
  refine g_putO (kf := 3) (kz := 3) rfl (by decide) kd_17 rfl ⟨by decide, by decide⟩ rfl (by decide) rfl rfl wf_0_13 rfl (ty := tyX0 3) rfl (fun _ => ⟨rfl, rfl⟩) dX0_init_17 ?_
  refine v_aload_n (f := 0) 0 rfl dX0_init_20 ?_
  refine v_bipush ⟨by decide, by decide⟩ (by decide) dX0_init_21 ?_
  refine g_newa_int kd_57 (by decide) (show (57 : Nat) ∉ ([0, 1, 72, 2, 76, 77, 78, 79, 80, 81, 82, 83, 84, 3, 85, 86, 87, 88, 89, 90, 91, 92, 93, 94, 95, 96, 97, 98, 99, 100, 101, 102, 103, 4, 107, 108, 109, 104, 105, 106, 12, 22, 32, 52, 62, 13, 23, 33, 53, 63, 14, 24, 34, 54, 64, 15, 25, 35, 55, 65, 16, 26, 36, 56, 66, 17] : List Nat) from by decide) (by intro i; (try simp (disch := decide) only [b_upc]); exact h0 _ (by decide) i) (by decide +kernel) (by simp [b_nr]) (by simp [b_nr]) rfl (by decide) wa_int ⟨by decide, by decide⟩ dX0_init_23 ?_
  refine g_putO (kf := 4) (kz := 4) rfl (by decide) kd_17 rfl ⟨by decide, by decide⟩ rfl (by decide) rfl rfl wf_0_16 rfl (ty := tyX0 4) rfl (fun _ => ⟨rfl, rfl⟩) dX0_init_25 ?_
  refine v_aload_n (f := 0) 0 rfl dX0_init_28 ?_
  refine v_iconst ⟨by decide, by decide⟩ dX0_init_29 ?_
  refine g_newa_long0 kd_67 (by decide) (show (67 : Nat) ∉ ([0, 1, 72, 2, 76, 77, 78, 79, 80, 81, 82, 83, 84, 3, 85, 86, 87, 88, 89, 90, 91, 92, 93, 94, 95, 96, 97, 98, 99, 100, 101, 102, 103, 4, 107, 108, 109, 104, 105, 106, 12, 22, 32, 52, 62, 13, 23, 33, 53, 63, 14, 24, 34, 54, 64, 15, 25, 35, 55, 65, 16, 26, 36, 56, 66, 17] : List Nat) from by decide) ⟨(by intro i; (try simp (disch := decide) only [b_upc]); exact h0 _ (by decide) i), (by (try simp (disch := decide) only [b_upc]); exact hgh)⟩ (by decide +kernel) (by simp [b_nr]) (by simp [b_nr]) rfl (by decide) wa_long ⟨by decide, by decide⟩ dX0_init_30 ?_
  refine g_putOn (kf := 5) (kz := 5) rfl (by decide) kd_17 rfl ⟨by decide, by decide⟩ rfl (by decide) wf_0_19 rfl (ty := tyX0 5) rfl (fun _ => ⟨rfl, rfl⟩) dX0_init_32 ?_
  refine f_getsR (c2 := 2020) (by decide) hz wf_0_23 dX0_init_35 ?_
  refine v_iconst ⟨by decide, by decide⟩ dX0_init_38 ?_
  refine v_aload_n (f := 0) 0 rfl dX0_init_39 ?_
  refine g_getO (Or.inr (by simp (disch := decide) only [b_upc, b_upi, b_ups]; decide)) (kf := 2) (kz := 2) rfl (by decide) kd_17 rfl ⟨by decide, by decide⟩ rfl wf_0_9 dX0_init_40 ?_
  refine v_iconst ⟨by decide, by decide⟩ dX0_init_43 ?_
  refine v_bipush ⟨by decide, by decide⟩ (by decide) dX0_init_44 ?_
  refine f_copyI (c1 := 27) (by decide) ht s_u0_r (by decide) kd_27 (by decide) wm_0_26 ⟨by decide, by decide⟩ (Nat.le_of_ble_eq_true rfl) dX0_init_46 ?_
  exact v_return rfl dX0_init_49 ⟨by decide, by decide⟩ ⟨rfl, rfl⟩
theorem c_X0_init6 {l : Launch} {E : bE} {M : bM} (hfg : b_fg E) (h0 : ∀ c ∈ ([28, 38, 58, 68] : List Nat), ∀ i, M c i = 0) (hgh : M b_G 68 = 0) : b_CL l E xX0_init yX0_init [0, 1, 72, 2, 76, 77, 78, 79, 80, 81, 82, 83, 84, 3, 85, 86, 87, 88, 89, 90, 91, 92, 93, 94, 95, 96, 97, 98, 99, 100, 101, 102, 103, 4, 107, 108, 109, 104, 105, 106, 12, 22, 32, 52, 62, 13, 23, 33, 53, 63, 14, 24, 34, 54, 64, 15, 25, 35, 55, 65, 16, 26, 36, 56, 66, 17, 27, 37, 57, 67, 18] [0, 1, 72, 2, 76, 77, 78, 79, 80, 81, 82, 83, 84, 3, 85, 86, 87, 88, 89, 90, 91, 92, 93, 94, 95, 96, 97, 98, 99, 100, 101, 102, 103, 4, 107, 108, 109, 104, 105, 106, 12, 22, 32, 52, 62, 13, 23, 33, 53, 63, 14, 24, 34, 54, 64, 15, 25, 35, 55, 65, 16, 26, 36, 56, 66, 17, 27, 37, 57, 67, 18, 28, 38, 58, 68] [bR 18] M (fun r M' => r = none ∧ M' = b_set (b_upl M [(18, 2, 1), (18, 3, 1), (18, 4, 1), (18, 5, 1)]) 28 (s_cpy s_u0 (b_upl M [(18, 2, 1), (18, 3, 1), (18, 4, 1), (18, 5, 1)] 28) 0 0 10)) := by
  have hz := hfg.2.2.2.2.2.2.2.2.2.2.2.1
  have ht := hfg.2.2.2.2.2.2.2.2.2.2.2.2.1
  refine b_met (by decide) ⟨rfl, rfl⟩ (Nat.le_of_ble_eq_true rfl) (fun hA hRg => ?_)
  refine v_sub (ls2 := [(0, bR _)]) [0] rfl ?_
  refine v_aload_n (f := 0) 0 rfl dX0_init_0 ?_
  refine g_objInit wm_0_1 wob_i wob_c (Nat.le_of_ble_eq_true rfl) ⟨by decide, by decide⟩ dX0_init_1 ?_
  refine v_aload_n (f := 0) 0 rfl dX0_init_4 ?_
  refine v_bipush ⟨by decide, by decide⟩ (by decide) dX0_init_5 ?_
  refine g_newa_int kd_28 (by decide) (show (28 : Nat) ∉ ([0, 1, 72, 2, 76, 77, 78, 79, 80, 81, 82, 83, 84, 3, 85, 86, 87, 88, 89, 90, 91, 92, 93, 94, 95, 96, 97, 98, 99, 100, 101, 102, 103, 4, 107, 108, 109, 104, 105, 106, 12, 22, 32, 52, 62, 13, 23, 33, 53, 63, 14, 24, 34, 54, 64, 15, 25, 35, 55, 65, 16, 26, 36, 56, 66, 17, 27, 37, 57, 67, 18] : List Nat) from by decide) (by intro i; (try simp (disch := decide) only [b_upc]); exact h0 _ (by decide) i) (by decide +kernel) (by simp [b_nr]) (by simp [b_nr]) rfl (by decide) wa_int ⟨by decide, by decide⟩ dX0_init_7 ?_
  refine g_putO (kf := 2) (kz := 2) rfl (by decide) kd_18 rfl ⟨by decide, by decide⟩ rfl (by decide) rfl rfl wf_0_9 rfl (ty := tyX0 2) rfl (fun _ => ⟨rfl, rfl⟩) dX0_init_9 ?_
  refine v_aload_n (f := 0) 0 rfl dX0_init_12 ?_
  refine v_bipush ⟨by decide, by decide⟩ (by decide) dX0_init_13 ?_
  refine g_newa_int kd_38 (by decide) (show (38 : Nat) ∉ ([0, 1, 72, 2, 76, 77, 78, 79, 80, 81, 82, 83, 84, 3, 85, 86, 87, 88, 89, 90, 91, 92, 93, 94, 95, 96, 97, 98, 99, 100, 101, 102, 103, 4, 107, 108, 109, 104, 105, 106, 12, 22, 32, 52, 62, 13, 23, 33, 53, 63, 14, 24, 34, 54, 64, 15, 25, 35, 55, 65, 16, 26, 36, 56, 66, 17, 27, 37, 57, 67, 18] : List Nat) from by decide) (by intro i; (try simp (disch := decide) only [b_upc]); exact h0 _ (by decide) i) (by decide +kernel) (by simp [b_nr]) (by simp [b_nr]) rfl (by decide) wa_int ⟨by decide, by decide⟩ dX0_init_15 ?_
  refine g_putO (kf := 3) (kz := 3) rfl (by decide) kd_18 rfl ⟨by decide, by decide⟩ rfl (by decide) rfl rfl wf_0_13 rfl (ty := tyX0 3) rfl (fun _ => ⟨rfl, rfl⟩) dX0_init_17 ?_
  refine v_aload_n (f := 0) 0 rfl dX0_init_20 ?_
  refine v_bipush ⟨by decide, by decide⟩ (by decide) dX0_init_21 ?_
  refine g_newa_int kd_58 (by decide) (show (58 : Nat) ∉ ([0, 1, 72, 2, 76, 77, 78, 79, 80, 81, 82, 83, 84, 3, 85, 86, 87, 88, 89, 90, 91, 92, 93, 94, 95, 96, 97, 98, 99, 100, 101, 102, 103, 4, 107, 108, 109, 104, 105, 106, 12, 22, 32, 52, 62, 13, 23, 33, 53, 63, 14, 24, 34, 54, 64, 15, 25, 35, 55, 65, 16, 26, 36, 56, 66, 17, 27, 37, 57, 67, 18] : List Nat) from by decide) (by intro i; (try simp (disch := decide) only [b_upc]); exact h0 _ (by decide) i) (by decide +kernel) (by simp [b_nr]) (by simp [b_nr]) rfl (by decide) wa_int ⟨by decide, by decide⟩ dX0_init_23 ?_
  refine g_putO (kf := 4) (kz := 4) rfl (by decide) kd_18 rfl ⟨by decide, by decide⟩ rfl (by decide) rfl rfl wf_0_16 rfl (ty := tyX0 4) rfl (fun _ => ⟨rfl, rfl⟩) dX0_init_25 ?_
  refine v_aload_n (f := 0) 0 rfl dX0_init_28 ?_
  refine v_iconst ⟨by decide, by decide⟩ dX0_init_29 ?_
  refine g_newa_long0 kd_68 (by decide) (show (68 : Nat) ∉ ([0, 1, 72, 2, 76, 77, 78, 79, 80, 81, 82, 83, 84, 3, 85, 86, 87, 88, 89, 90, 91, 92, 93, 94, 95, 96, 97, 98, 99, 100, 101, 102, 103, 4, 107, 108, 109, 104, 105, 106, 12, 22, 32, 52, 62, 13, 23, 33, 53, 63, 14, 24, 34, 54, 64, 15, 25, 35, 55, 65, 16, 26, 36, 56, 66, 17, 27, 37, 57, 67, 18] : List Nat) from by decide) ⟨(by intro i; (try simp (disch := decide) only [b_upc]); exact h0 _ (by decide) i), (by (try simp (disch := decide) only [b_upc]); exact hgh)⟩ (by decide +kernel) (by simp [b_nr]) (by simp [b_nr]) rfl (by decide) wa_long ⟨by decide, by decide⟩ dX0_init_30 ?_
  refine g_putOn (kf := 5) (kz := 5) rfl (by decide) kd_18 rfl ⟨by decide, by decide⟩ rfl (by decide) wf_0_19 rfl (ty := tyX0 5) rfl (fun _ => ⟨rfl, rfl⟩) dX0_init_32 ?_
  refine f_getsR (c2 := 2020) (by decide) hz wf_0_23 dX0_init_35 ?_
  refine v_iconst ⟨by decide, by decide⟩ dX0_init_38 ?_
  refine v_aload_n (f := 0) 0 rfl dX0_init_39 ?_
  refine g_getO (Or.inr (by simp (disch := decide) only [b_upc, b_upi, b_ups]; decide)) (kf := 2) (kz := 2) rfl (by decide) kd_18 rfl ⟨by decide, by decide⟩ rfl wf_0_9 dX0_init_40 ?_
  refine v_iconst ⟨by decide, by decide⟩ dX0_init_43 ?_
  refine v_bipush ⟨by decide, by decide⟩ (by decide) dX0_init_44 ?_
  refine f_copyI (c1 := 28) (by decide) ht s_u0_r (by decide) kd_28 (by decide) wm_0_26 ⟨by decide, by decide⟩ (Nat.le_of_ble_eq_true rfl) dX0_init_46 ?_
  exact v_return rfl dX0_init_49 ⟨by decide, by decide⟩ ⟨rfl, rfl⟩
theorem c_X0_init7 {l : Launch} {E : bE} {M : bM} (hfg : b_fg E) (h0 : ∀ c ∈ ([29, 39, 59, 69] : List Nat), ∀ i, M c i = 0) (hgh : M b_G 69 = 0) : b_CL l E xX0_init yX0_init [0, 1, 72, 2, 76, 77, 78, 79, 80, 81, 82, 83, 84, 3, 85, 86, 87, 88, 89, 90, 91, 92, 93, 94, 95, 96, 97, 98, 99, 100, 101, 102, 103, 4, 107, 108, 109, 104, 105, 106, 12, 22, 32, 52, 62, 13, 23, 33, 53, 63, 14, 24, 34, 54, 64, 15, 25, 35, 55, 65, 16, 26, 36, 56, 66, 17, 27, 37, 57, 67, 18, 28, 38, 58, 68, 19] [0, 1, 72, 2, 76, 77, 78, 79, 80, 81, 82, 83, 84, 3, 85, 86, 87, 88, 89, 90, 91, 92, 93, 94, 95, 96, 97, 98, 99, 100, 101, 102, 103, 4, 107, 108, 109, 104, 105, 106, 12, 22, 32, 52, 62, 13, 23, 33, 53, 63, 14, 24, 34, 54, 64, 15, 25, 35, 55, 65, 16, 26, 36, 56, 66, 17, 27, 37, 57, 67, 18, 28, 38, 58, 68, 19, 29, 39, 59, 69] [bR 19] M (fun r M' => r = none ∧ M' = b_set (b_upl M [(19, 2, 1), (19, 3, 1), (19, 4, 1), (19, 5, 1)]) 29 (s_cpy s_u0 (b_upl M [(19, 2, 1), (19, 3, 1), (19, 4, 1), (19, 5, 1)] 29) 0 0 10)) := by
  have hz := hfg.2.2.2.2.2.2.2.2.2.2.2.1
  have ht := hfg.2.2.2.2.2.2.2.2.2.2.2.2.1
  refine b_met (by decide) ⟨rfl, rfl⟩ (Nat.le_of_ble_eq_true rfl) (fun hA hRg => ?_)
  refine v_sub (ls2 := [(0, bR _)]) [0] rfl ?_
  refine v_aload_n (f := 0) 0 rfl dX0_init_0 ?_
  refine g_objInit wm_0_1 wob_i wob_c (Nat.le_of_ble_eq_true rfl) ⟨by decide, by decide⟩ dX0_init_1 ?_
  refine v_aload_n (f := 0) 0 rfl dX0_init_4 ?_
  refine v_bipush ⟨by decide, by decide⟩ (by decide) dX0_init_5 ?_
  refine g_newa_int kd_29 (by decide) (show (29 : Nat) ∉ ([0, 1, 72, 2, 76, 77, 78, 79, 80, 81, 82, 83, 84, 3, 85, 86, 87, 88, 89, 90, 91, 92, 93, 94, 95, 96, 97, 98, 99, 100, 101, 102, 103, 4, 107, 108, 109, 104, 105, 106, 12, 22, 32, 52, 62, 13, 23, 33, 53, 63, 14, 24, 34, 54, 64, 15, 25, 35, 55, 65, 16, 26, 36, 56, 66, 17, 27, 37, 57, 67, 18, 28, 38, 58, 68, 19] : List Nat) from by decide) (by intro i; (try simp (disch := decide) only [b_upc]); exact h0 _ (by decide) i) (by decide +kernel) (by simp [b_nr]) (by simp [b_nr]) rfl (by decide) wa_int ⟨by decide, by decide⟩ dX0_init_7 ?_
  refine g_putO (kf := 2) (kz := 2) rfl (by decide) kd_19 rfl ⟨by decide, by decide⟩ rfl (by decide) rfl rfl wf_0_9 rfl (ty := tyX0 2) rfl (fun _ => ⟨rfl, rfl⟩) dX0_init_9 ?_
  refine v_aload_n (f := 0) 0 rfl dX0_init_12 ?_
  refine v_bipush ⟨by decide, by decide⟩ (by decide) dX0_init_13 ?_
  refine g_newa_int kd_39 (by decide) (show (39 : Nat) ∉ ([0, 1, 72, 2, 76, 77, 78, 79, 80, 81, 82, 83, 84, 3, 85, 86, 87, 88, 89, 90, 91, 92, 93, 94, 95, 96, 97, 98, 99, 100, 101, 102, 103, 4, 107, 108, 109, 104, 105, 106, 12, 22, 32, 52, 62, 13, 23, 33, 53, 63, 14, 24, 34, 54, 64, 15, 25, 35, 55, 65, 16, 26, 36, 56, 66, 17, 27, 37, 57, 67, 18, 28, 38, 58, 68, 19] : List Nat) from by decide) (by intro i; (try simp (disch := decide) only [b_upc]); exact h0 _ (by decide) i) (by decide +kernel) (by simp [b_nr]) (by simp [b_nr]) rfl (by decide) wa_int ⟨by decide, by decide⟩ dX0_init_15 ?_
  refine g_putO (kf := 3) (kz := 3) rfl (by decide) kd_19 rfl ⟨by decide, by decide⟩ rfl (by decide) rfl rfl wf_0_13 rfl (ty := tyX0 3) rfl (fun _ => ⟨rfl, rfl⟩) dX0_init_17 ?_
  refine v_aload_n (f := 0) 0 rfl dX0_init_20 ?_
  refine v_bipush ⟨by decide, by decide⟩ (by decide) dX0_init_21 ?_
  refine g_newa_int kd_59 (by decide) (show (59 : Nat) ∉ ([0, 1, 72, 2, 76, 77, 78, 79, 80, 81, 82, 83, 84, 3, 85, 86, 87, 88, 89, 90, 91, 92, 93, 94, 95, 96, 97, 98, 99, 100, 101, 102, 103, 4, 107, 108, 109, 104, 105, 106, 12, 22, 32, 52, 62, 13, 23, 33, 53, 63, 14, 24, 34, 54, 64, 15, 25, 35, 55, 65, 16, 26, 36, 56, 66, 17, 27, 37, 57, 67, 18, 28, 38, 58, 68, 19] : List Nat) from by decide) (by intro i; (try simp (disch := decide) only [b_upc]); exact h0 _ (by decide) i) (by decide +kernel) (by simp [b_nr]) (by simp [b_nr]) rfl (by decide) wa_int ⟨by decide, by decide⟩ dX0_init_23 ?_
  refine g_putO (kf := 4) (kz := 4) rfl (by decide) kd_19 rfl ⟨by decide, by decide⟩ rfl (by decide) rfl rfl wf_0_16 rfl (ty := tyX0 4) rfl (fun _ => ⟨rfl, rfl⟩) dX0_init_25 ?_
  refine v_aload_n (f := 0) 0 rfl dX0_init_28 ?_
  refine v_iconst ⟨by decide, by decide⟩ dX0_init_29 ?_
  refine g_newa_long0 kd_69 (by decide) (show (69 : Nat) ∉ ([0, 1, 72, 2, 76, 77, 78, 79, 80, 81, 82, 83, 84, 3, 85, 86, 87, 88, 89, 90, 91, 92, 93, 94, 95, 96, 97, 98, 99, 100, 101, 102, 103, 4, 107, 108, 109, 104, 105, 106, 12, 22, 32, 52, 62, 13, 23, 33, 53, 63, 14, 24, 34, 54, 64, 15, 25, 35, 55, 65, 16, 26, 36, 56, 66, 17, 27, 37, 57, 67, 18, 28, 38, 58, 68, 19] : List Nat) from by decide) ⟨(by intro i; (try simp (disch := decide) only [b_upc]); exact h0 _ (by decide) i), (by (try simp (disch := decide) only [b_upc]); exact hgh)⟩ (by decide +kernel) (by simp [b_nr]) (by simp [b_nr]) rfl (by decide) wa_long ⟨by decide, by decide⟩ dX0_init_30 ?_
  refine g_putOn (kf := 5) (kz := 5) rfl (by decide) kd_19 rfl ⟨by decide, by decide⟩ rfl (by decide) wf_0_19 rfl (ty := tyX0 5) rfl (fun _ => ⟨rfl, rfl⟩) dX0_init_32 ?_
  refine f_getsR (c2 := 2020) (by decide) hz wf_0_23 dX0_init_35 ?_
  refine v_iconst ⟨by decide, by decide⟩ dX0_init_38 ?_
  refine v_aload_n (f := 0) 0 rfl dX0_init_39 ?_
  refine g_getO (Or.inr (by simp (disch := decide) only [b_upc, b_upi, b_ups]; decide)) (kf := 2) (kz := 2) rfl (by decide) kd_19 rfl ⟨by decide, by decide⟩ rfl wf_0_9 dX0_init_40 ?_
  refine v_iconst ⟨by decide, by decide⟩ dX0_init_43 ?_
  refine v_bipush ⟨by decide, by decide⟩ (by decide) dX0_init_44 ?_
  refine f_copyI (c1 := 29) (by decide) ht s_u0_r (by decide) kd_29 (by decide) wm_0_26 ⟨by decide, by decide⟩ (Nat.le_of_ble_eq_true rfl) dX0_init_46 ?_
  exact v_return rfl dX0_init_49 ⟨by decide, by decide⟩ ⟨rfl, rfl⟩
theorem c_X0_init8 {l : Launch} {E : bE} {M : bM} (hfg : b_fg E) (h0 : ∀ c ∈ ([30, 40, 60, 70] : List Nat), ∀ i, M c i = 0) (hgh : M b_G 70 = 0) : b_CL l E xX0_init yX0_init [0, 1, 72, 2, 76, 77, 78, 79, 80, 81, 82, 83, 84, 3, 85, 86, 87, 88, 89, 90, 91, 92, 93, 94, 95, 96, 97, 98, 99, 100, 101, 102, 103, 4, 107, 108, 109, 104, 105, 106, 12, 22, 32, 52, 62, 13, 23, 33, 53, 63, 14, 24, 34, 54, 64, 15, 25, 35, 55, 65, 16, 26, 36, 56, 66, 17, 27, 37, 57, 67, 18, 28, 38, 58, 68, 19, 29, 39, 59, 69, 20] [0, 1, 72, 2, 76, 77, 78, 79, 80, 81, 82, 83, 84, 3, 85, 86, 87, 88, 89, 90, 91, 92, 93, 94, 95, 96, 97, 98, 99, 100, 101, 102, 103, 4, 107, 108, 109, 104, 105, 106, 12, 22, 32, 52, 62, 13, 23, 33, 53, 63, 14, 24, 34, 54, 64, 15, 25, 35, 55, 65, 16, 26, 36, 56, 66, 17, 27, 37, 57, 67, 18, 28, 38, 58, 68, 19, 29, 39, 59, 69, 20, 30, 40, 60, 70] [bR 20] M (fun r M' => r = none ∧ M' = b_set (b_upl M [(20, 2, 1), (20, 3, 1), (20, 4, 1), (20, 5, 1)]) 30 (s_cpy s_u0 (b_upl M [(20, 2, 1), (20, 3, 1), (20, 4, 1), (20, 5, 1)] 30) 0 0 10)) := by
  have hz := hfg.2.2.2.2.2.2.2.2.2.2.2.1
  have ht := hfg.2.2.2.2.2.2.2.2.2.2.2.2.1
  refine b_met (by decide) ⟨rfl, rfl⟩ (Nat.le_of_ble_eq_true rfl) (fun hA hRg => ?_)
  refine v_sub (ls2 := [(0, bR _)]) [0] rfl ?_
  refine v_aload_n (f := 0) 0 rfl dX0_init_0 ?_
  refine g_objInit wm_0_1 wob_i wob_c (Nat.le_of_ble_eq_true rfl) ⟨by decide, by decide⟩ dX0_init_1 ?_
  refine v_aload_n (f := 0) 0 rfl dX0_init_4 ?_
  refine v_bipush ⟨by decide, by decide⟩ (by decide) dX0_init_5 ?_
  refine g_newa_int kd_30 (by decide) (show (30 : Nat) ∉ ([0, 1, 72, 2, 76, 77, 78, 79, 80, 81, 82, 83, 84, 3, 85, 86, 87, 88, 89, 90, 91, 92, 93, 94, 95, 96, 97, 98, 99, 100, 101, 102, 103, 4, 107, 108, 109, 104, 105, 106, 12, 22, 32, 52, 62, 13, 23, 33, 53, 63, 14, 24, 34, 54, 64, 15, 25, 35, 55, 65, 16, 26, 36, 56, 66, 17, 27, 37, 57, 67, 18, 28, 38, 58, 68, 19, 29, 39, 59, 69, 20] : List Nat) from by decide) (by intro i; (try simp (disch := decide) only [b_upc]); exact h0 _ (by decide) i) (by decide +kernel) (by simp [b_nr]) (by simp [b_nr]) rfl (by decide) wa_int ⟨by decide, by decide⟩ dX0_init_7 ?_
  refine g_putO (kf := 2) (kz := 2) rfl (by decide) kd_20 rfl ⟨by decide, by decide⟩ rfl (by decide) rfl rfl wf_0_9 rfl (ty := tyX0 2) rfl (fun _ => ⟨rfl, rfl⟩) dX0_init_9 ?_
  refine v_aload_n (f := 0) 0 rfl dX0_init_12 ?_
  refine v_bipush ⟨by decide, by decide⟩ (by decide) dX0_init_13 ?_
  refine g_newa_int kd_40 (by decide) (show (40 : Nat) ∉ ([0, 1, 72, 2, 76, 77, 78, 79, 80, 81, 82, 83, 84, 3, 85, 86, 87, 88, 89, 90, 91, 92, 93, 94, 95, 96, 97, 98, 99, 100, 101, 102, 103, 4, 107, 108, 109, 104, 105, 106, 12, 22, 32, 52, 62, 13, 23, 33, 53, 63, 14, 24, 34, 54, 64, 15, 25, 35, 55, 65, 16, 26, 36, 56, 66, 17, 27, 37, 57, 67, 18, 28, 38, 58, 68, 19, 29, 39, 59, 69, 20] : List Nat) from by decide) (by intro i; (try simp (disch := decide) only [b_upc]); exact h0 _ (by decide) i) (by decide +kernel) (by simp [b_nr]) (by simp [b_nr]) rfl (by decide) wa_int ⟨by decide, by decide⟩ dX0_init_15 ?_
  refine g_putO (kf := 3) (kz := 3) rfl (by decide) kd_20 rfl ⟨by decide, by decide⟩ rfl (by decide) rfl rfl wf_0_13 rfl (ty := tyX0 3) rfl (fun _ => ⟨rfl, rfl⟩) dX0_init_17 ?_
  refine v_aload_n (f := 0) 0 rfl dX0_init_20 ?_
  refine v_bipush ⟨by decide, by decide⟩ (by decide) dX0_init_21 ?_
  refine g_newa_int kd_60 (by decide) (show (60 : Nat) ∉ ([0, 1, 72, 2, 76, 77, 78, 79, 80, 81, 82, 83, 84, 3, 85, 86, 87, 88, 89, 90, 91, 92, 93, 94, 95, 96, 97, 98, 99, 100, 101, 102, 103, 4, 107, 108, 109, 104, 105, 106, 12, 22, 32, 52, 62, 13, 23, 33, 53, 63, 14, 24, 34, 54, 64, 15, 25, 35, 55, 65, 16, 26, 36, 56, 66, 17, 27, 37, 57, 67, 18, 28, 38, 58, 68, 19, 29, 39, 59, 69, 20] : List Nat) from by decide) (by intro i; (try simp (disch := decide) only [b_upc]); exact h0 _ (by decide) i) (by decide +kernel) (by simp [b_nr]) (by simp [b_nr]) rfl (by decide) wa_int ⟨by decide, by decide⟩ dX0_init_23 ?_
  refine g_putO (kf := 4) (kz := 4) rfl (by decide) kd_20 rfl ⟨by decide, by decide⟩ rfl (by decide) rfl rfl wf_0_16 rfl (ty := tyX0 4) rfl (fun _ => ⟨rfl, rfl⟩) dX0_init_25 ?_
  refine v_aload_n (f := 0) 0 rfl dX0_init_28 ?_
  refine v_iconst ⟨by decide, by decide⟩ dX0_init_29 ?_
  refine g_newa_long0 kd_70 (by decide) (show (70 : Nat) ∉ ([0, 1, 72, 2, 76, 77, 78, 79, 80, 81, 82, 83, 84, 3, 85, 86, 87, 88, 89, 90, 91, 92, 93, 94, 95, 96, 97, 98, 99, 100, 101, 102, 103, 4, 107, 108, 109, 104, 105, 106, 12, 22, 32, 52, 62, 13, 23, 33, 53, 63, 14, 24, 34, 54, 64, 15, 25, 35, 55, 65, 16, 26, 36, 56, 66, 17, 27, 37, 57, 67, 18, 28, 38, 58, 68, 19, 29, 39, 59, 69, 20] : List Nat) from by decide) ⟨(by intro i; (try simp (disch := decide) only [b_upc]); exact h0 _ (by decide) i), (by (try simp (disch := decide) only [b_upc]); exact hgh)⟩ (by decide +kernel) (by simp [b_nr]) (by simp [b_nr]) rfl (by decide) wa_long ⟨by decide, by decide⟩ dX0_init_30 ?_
  refine g_putOn (kf := 5) (kz := 5) rfl (by decide) kd_20 rfl ⟨by decide, by decide⟩ rfl (by decide) wf_0_19 rfl (ty := tyX0 5) rfl (fun _ => ⟨rfl, rfl⟩) dX0_init_32 ?_
  refine f_getsR (c2 := 2020) (by decide) hz wf_0_23 dX0_init_35 ?_
  refine v_iconst ⟨by decide, by decide⟩ dX0_init_38 ?_
  refine v_aload_n (f := 0) 0 rfl dX0_init_39 ?_
  refine g_getO (Or.inr (by simp (disch := decide) only [b_upc, b_upi, b_ups]; decide)) (kf := 2) (kz := 2) rfl (by decide) kd_20 rfl ⟨by decide, by decide⟩ rfl wf_0_9 dX0_init_40 ?_
  refine v_iconst ⟨by decide, by decide⟩ dX0_init_43 ?_
  refine v_bipush ⟨by decide, by decide⟩ (by decide) dX0_init_44 ?_
  refine f_copyI (c1 := 30) (by decide) ht s_u0_r (by decide) kd_30 (by decide) wm_0_26 ⟨by decide, by decide⟩ (Nat.le_of_ble_eq_true rfl) dX0_init_46 ?_
  exact v_return rfl dX0_init_49 ⟨by decide, by decide⟩ ⟨rfl, rfl⟩
theorem c_X0_init9 {l : Launch} {E : bE} {M : bM} (hfg : b_fg E) (h0 : ∀ c ∈ ([31, 41, 61, 71] : List Nat), ∀ i, M c i = 0) (hgh : M b_G 71 = 0) : b_CL l E xX0_init yX0_init [0, 1, 72, 2, 76, 77, 78, 79, 80, 81, 82, 83, 84, 3, 85, 86, 87, 88, 89, 90, 91, 92, 93, 94, 95, 96, 97, 98, 99, 100, 101, 102, 103, 4, 107, 108, 109, 104, 105, 106, 12, 22, 32, 52, 62, 13, 23, 33, 53, 63, 14, 24, 34, 54, 64, 15, 25, 35, 55, 65, 16, 26, 36, 56, 66, 17, 27, 37, 57, 67, 18, 28, 38, 58, 68, 19, 29, 39, 59, 69, 20, 30, 40, 60, 70, 21] [0, 1, 72, 2, 76, 77, 78, 79, 80, 81, 82, 83, 84, 3, 85, 86, 87, 88, 89, 90, 91, 92, 93, 94, 95, 96, 97, 98, 99, 100, 101, 102, 103, 4, 107, 108, 109, 104, 105, 106, 12, 22, 32, 52, 62, 13, 23, 33, 53, 63, 14, 24, 34, 54, 64, 15, 25, 35, 55, 65, 16, 26, 36, 56, 66, 17, 27, 37, 57, 67, 18, 28, 38, 58, 68, 19, 29, 39, 59, 69, 20, 30, 40, 60, 70, 21, 31, 41, 61, 71] [bR 21] M (fun r M' => r = none ∧ M' = b_set (b_upl M [(21, 2, 1), (21, 3, 1), (21, 4, 1), (21, 5, 1)]) 31 (s_cpy s_u0 (b_upl M [(21, 2, 1), (21, 3, 1), (21, 4, 1), (21, 5, 1)] 31) 0 0 10)) := by
  have hz := hfg.2.2.2.2.2.2.2.2.2.2.2.1
  have ht := hfg.2.2.2.2.2.2.2.2.2.2.2.2.1
  refine b_met (by decide) ⟨rfl, rfl⟩ (Nat.le_of_ble_eq_true rfl) (fun hA hRg => ?_)
  refine v_sub (ls2 := [(0, bR _)]) [0] rfl ?_
  refine v_aload_n (f := 0) 0 rfl dX0_init_0 ?_
  refine g_objInit wm_0_1 wob_i wob_c (Nat.le_of_ble_eq_true rfl) ⟨by decide, by decide⟩ dX0_init_1 ?_
  refine v_aload_n (f := 0) 0 rfl dX0_init_4 ?_
  refine v_bipush ⟨by decide, by decide⟩ (by decide) dX0_init_5 ?_
  refine g_newa_int kd_31 (by decide) (show (31 : Nat) ∉ ([0, 1, 72, 2, 76, 77, 78, 79, 80, 81, 82, 83, 84, 3, 85, 86, 87, 88, 89, 90, 91, 92, 93, 94, 95, 96, 97, 98, 99, 100, 101, 102, 103, 4, 107, 108, 109, 104, 105, 106, 12, 22, 32, 52, 62, 13, 23, 33, 53, 63, 14, 24, 34, 54, 64, 15, 25, 35, 55, 65, 16, 26, 36, 56, 66, 17, 27, 37, 57, 67, 18, 28, 38, 58, 68, 19, 29, 39, 59, 69, 20, 30, 40, 60, 70, 21] : List Nat) from by decide) (by intro i; (try simp (disch := decide) only [b_upc]); exact h0 _ (by decide) i) (by decide +kernel) (by simp [b_nr]) (by simp [b_nr]) rfl (by decide) wa_int ⟨by decide, by decide⟩ dX0_init_7 ?_
  refine g_putO (kf := 2) (kz := 2) rfl (by decide) kd_21 rfl ⟨by decide, by decide⟩ rfl (by decide) rfl rfl wf_0_9 rfl (ty := tyX0 2) rfl (fun _ => ⟨rfl, rfl⟩) dX0_init_9 ?_
  refine v_aload_n (f := 0) 0 rfl dX0_init_12 ?_
  refine v_bipush ⟨by decide, by decide⟩ (by decide) dX0_init_13 ?_
  refine g_newa_int kd_41 (by decide) (show (41 : Nat) ∉ ([0, 1, 72, 2, 76, 77, 78, 79, 80, 81, 82, 83, 84, 3, 85, 86, 87, 88, 89, 90, 91, 92, 93, 94, 95, 96, 97, 98, 99, 100, 101, 102, 103, 4, 107, 108, 109, 104, 105, 106, 12, 22, 32, 52, 62, 13, 23, 33, 53, 63, 14, 24, 34, 54, 64, 15, 25, 35, 55, 65, 16, 26, 36, 56, 66, 17, 27, 37, 57, 67, 18, 28, 38, 58, 68, 19, 29, 39, 59, 69, 20, 30, 40, 60, 70, 21] : List Nat) from by decide) (by intro i; (try simp (disch := decide) only [b_upc]); exact h0 _ (by decide) i) (by decide +kernel) (by simp [b_nr]) (by simp [b_nr]) rfl (by decide) wa_int ⟨by decide, by decide⟩ dX0_init_15 ?_
  refine g_putO (kf := 3) (kz := 3) rfl (by decide) kd_21 rfl ⟨by decide, by decide⟩ rfl (by decide) rfl rfl wf_0_13 rfl (ty := tyX0 3) rfl (fun _ => ⟨rfl, rfl⟩) dX0_init_17 ?_
  refine v_aload_n (f := 0) 0 rfl dX0_init_20 ?_
  refine v_bipush ⟨by decide, by decide⟩ (by decide) dX0_init_21 ?_
  refine g_newa_int kd_61 (by decide) (show (61 : Nat) ∉ ([0, 1, 72, 2, 76, 77, 78, 79, 80, 81, 82, 83, 84, 3, 85, 86, 87, 88, 89, 90, 91, 92, 93, 94, 95, 96, 97, 98, 99, 100, 101, 102, 103, 4, 107, 108, 109, 104, 105, 106, 12, 22, 32, 52, 62, 13, 23, 33, 53, 63, 14, 24, 34, 54, 64, 15, 25, 35, 55, 65, 16, 26, 36, 56, 66, 17, 27, 37, 57, 67, 18, 28, 38, 58, 68, 19, 29, 39, 59, 69, 20, 30, 40, 60, 70, 21] : List Nat) from by decide) (by intro i; (try simp (disch := decide) only [b_upc]); exact h0 _ (by decide) i) (by decide +kernel) (by simp [b_nr]) (by simp [b_nr]) rfl (by decide) wa_int ⟨by decide, by decide⟩ dX0_init_23 ?_
  refine g_putO (kf := 4) (kz := 4) rfl (by decide) kd_21 rfl ⟨by decide, by decide⟩ rfl (by decide) rfl rfl wf_0_16 rfl (ty := tyX0 4) rfl (fun _ => ⟨rfl, rfl⟩) dX0_init_25 ?_
  refine v_aload_n (f := 0) 0 rfl dX0_init_28 ?_
  refine v_iconst ⟨by decide, by decide⟩ dX0_init_29 ?_
  refine g_newa_long0 kd_71 (by decide) (show (71 : Nat) ∉ ([0, 1, 72, 2, 76, 77, 78, 79, 80, 81, 82, 83, 84, 3, 85, 86, 87, 88, 89, 90, 91, 92, 93, 94, 95, 96, 97, 98, 99, 100, 101, 102, 103, 4, 107, 108, 109, 104, 105, 106, 12, 22, 32, 52, 62, 13, 23, 33, 53, 63, 14, 24, 34, 54, 64, 15, 25, 35, 55, 65, 16, 26, 36, 56, 66, 17, 27, 37, 57, 67, 18, 28, 38, 58, 68, 19, 29, 39, 59, 69, 20, 30, 40, 60, 70, 21] : List Nat) from by decide) ⟨(by intro i; (try simp (disch := decide) only [b_upc]); exact h0 _ (by decide) i), (by (try simp (disch := decide) only [b_upc]); exact hgh)⟩ (by decide +kernel) (by simp [b_nr]) (by simp [b_nr]) rfl (by decide) wa_long ⟨by decide, by decide⟩ dX0_init_30 ?_
  refine g_putOn (kf := 5) (kz := 5) rfl (by decide) kd_21 rfl ⟨by decide, by decide⟩ rfl (by decide) wf_0_19 rfl (ty := tyX0 5) rfl (fun _ => ⟨rfl, rfl⟩) dX0_init_32 ?_
  refine f_getsR (c2 := 2020) (by decide) hz wf_0_23 dX0_init_35 ?_
  refine v_iconst ⟨by decide, by decide⟩ dX0_init_38 ?_
  refine v_aload_n (f := 0) 0 rfl dX0_init_39 ?_
  refine g_getO (Or.inr (by simp (disch := decide) only [b_upc, b_upi, b_ups]; decide)) (kf := 2) (kz := 2) rfl (by decide) kd_21 rfl ⟨by decide, by decide⟩ rfl wf_0_9 dX0_init_40 ?_
  refine v_iconst ⟨by decide, by decide⟩ dX0_init_43 ?_
  refine v_bipush ⟨by decide, by decide⟩ (by decide) dX0_init_44 ?_
  refine f_copyI (c1 := 31) (by decide) ht s_u0_r (by decide) kd_31 (by decide) wm_0_26 ⟨by decide, by decide⟩ (Nat.le_of_ble_eq_true rfl) dX0_init_46 ?_
  exact v_return rfl dX0_init_49 ⟨by decide, by decide⟩ ⟨rfl, rfl⟩
