abbrev xX1_init : bX := ("BurntHall$Acts", prog_3_method_1_code, 3, (Option.none : Option Jvm.ClassFile.FieldType), b_rm 7 56 1699, 1, "<init>")
abbrev yX1_init : MethodName := ⟨"BurntHall$Acts", "<init>", "(LBurntHall$Tape;)V"⟩
theorem dX1_init_0 : decode prog_3_method_1_code 0 = .ok (.aload_n 0, 1) := by decide +kernel
theorem dX1_init_1 : decode prog_3_method_1_code 1 = .ok (.invokespecial 3, 3) := by decide +kernel
theorem dX1_init_4 : decode prog_3_method_1_code 4 = .ok (.aload_n 0, 1) := by decide +kernel
theorem dX1_init_5 : decode prog_3_method_1_code 5 = .ok (.bipush 10, 2) := by decide +kernel
theorem dX1_init_7 : decode prog_3_method_1_code 7 = .ok (.anewarray 11, 3) := by decide +kernel
theorem dX1_init_10 : decode prog_3_method_1_code 10 = .ok (.putfield 13, 3) := by decide +kernel
theorem dX1_init_13 : decode prog_3_method_1_code 13 = .ok (.aload_n 0, 1) := by decide +kernel
theorem dX1_init_14 : decode prog_3_method_1_code 14 = .ok (.sipush 1000, 3) := by decide +kernel
theorem dX1_init_17 : decode prog_3_method_1_code 17 = .ok (.newarray .long, 2) := by decide +kernel
theorem dX1_init_19 : decode prog_3_method_1_code 19 = .ok (.putfield 19, 3) := by decide +kernel
theorem dX1_init_22 : decode prog_3_method_1_code 22 = .ok (.aload_n 0, 1) := by decide +kernel
theorem dX1_init_23 : decode prog_3_method_1_code 23 = .ok (.bipush 6, 2) := by decide +kernel
theorem dX1_init_25 : decode prog_3_method_1_code 25 = .ok (.newarray .int, 2) := by decide +kernel
theorem dX1_init_27 : decode prog_3_method_1_code 27 = .ok (.putfield 23, 3) := by decide +kernel
theorem dX1_init_30 : decode prog_3_method_1_code 30 = .ok (.aload_n 0, 1) := by decide +kernel
theorem dX1_init_31 : decode prog_3_method_1_code 31 = .ok (.aload_n 1, 1) := by decide +kernel
theorem dX1_init_32 : decode prog_3_method_1_code 32 = .ok (.putfield 27, 3) := by decide +kernel
theorem dX1_init_35 : decode prog_3_method_1_code 35 = .ok (.aload_n 0, 1) := by decide +kernel
theorem dX1_init_36 : decode prog_3_method_1_code 36 = .ok (.ldc 31, 2) := by decide +kernel
theorem dX1_init_38 : decode prog_3_method_1_code 38 = .ok (.bipush 11, 2) := by decide +kernel
theorem dX1_init_40 : decode prog_3_method_1_code 40 = .ok (.invokestatic 33, 3) := by decide +kernel
theorem dX1_init_43 : decode prog_3_method_1_code 43 = .ok (.putfield 37, 3) := by decide +kernel
theorem dX1_init_46 : decode prog_3_method_1_code 46 = .ok (.aload_n 0, 1) := by decide +kernel
theorem dX1_init_47 : decode prog_3_method_1_code 47 = .ok (.ldc 40, 2) := by decide +kernel
theorem dX1_init_49 : decode prog_3_method_1_code 49 = .ok (.bipush 7, 2) := by decide +kernel
theorem dX1_init_51 : decode prog_3_method_1_code 51 = .ok (.invokestatic 33, 3) := by decide +kernel
theorem dX1_init_54 : decode prog_3_method_1_code 54 = .ok (.putfield 42, 3) := by decide +kernel
theorem dX1_init_57 : decode prog_3_method_1_code 57 = .ok (.aload_n 0, 1) := by decide +kernel
theorem dX1_init_58 : decode prog_3_method_1_code 58 = .ok (.ldc 45, 2) := by decide +kernel
theorem dX1_init_60 : decode prog_3_method_1_code 60 = .ok (.bipush 7, 2) := by decide +kernel
theorem dX1_init_62 : decode prog_3_method_1_code 62 = .ok (.invokestatic 33, 3) := by decide +kernel
theorem dX1_init_65 : decode prog_3_method_1_code 65 = .ok (.putfield 47, 3) := by decide +kernel
theorem dX1_init_68 : decode prog_3_method_1_code 68 = .ok (.iconst 0, 1) := by decide +kernel
theorem dX1_init_69 : decode prog_3_method_1_code 69 = .ok (.istore_n 2, 1) := by decide +kernel
theorem dX1_init_70 : decode prog_3_method_1_code 70 = .ok (.iload_n 2, 1) := by decide +kernel
theorem dX1_init_71 : decode prog_3_method_1_code 71 = .ok (.aload_n 0, 1) := by decide +kernel
theorem dX1_init_72 : decode prog_3_method_1_code 72 = .ok (.getfield 13, 3) := by decide +kernel
theorem dX1_init_75 : decode prog_3_method_1_code 75 = .ok (.arraylength, 1) := by decide +kernel
theorem dX1_init_76 : decode prog_3_method_1_code 76 = .ok (.if_icmp .ge 22, 3) := by decide +kernel
theorem dX1_init_79 : decode prog_3_method_1_code 79 = .ok (.aload_n 0, 1) := by decide +kernel
theorem dX1_init_80 : decode prog_3_method_1_code 80 = .ok (.getfield 13, 3) := by decide +kernel
theorem dX1_init_83 : decode prog_3_method_1_code 83 = .ok (.iload_n 2, 1) := by decide +kernel
theorem dX1_init_84 : decode prog_3_method_1_code 84 = .ok (.new 11, 3) := by decide +kernel
theorem dX1_init_87 : decode prog_3_method_1_code 87 = .ok (.dup, 1) := by decide +kernel
theorem dX1_init_88 : decode prog_3_method_1_code 88 = .ok (.invokespecial 50, 3) := by decide +kernel
theorem dX1_init_91 : decode prog_3_method_1_code 91 = .ok (.aastore, 1) := by decide +kernel
theorem dX1_init_92 : decode prog_3_method_1_code 92 = .ok (.iinc 2 1, 3) := by decide +kernel
theorem dX1_init_95 : decode prog_3_method_1_code 95 = .ok (.goto (-25), 3) := by decide +kernel
theorem dX1_init_98 : decode prog_3_method_1_code 98 = .ok (.aload_n 0, 1) := by decide +kernel
theorem dX1_init_99 : decode prog_3_method_1_code 99 = .ok (.aload_n 0, 1) := by decide +kernel
theorem dX1_init_100 : decode prog_3_method_1_code 100 = .ok (.getfield 13, 3) := by decide +kernel
theorem dX1_init_103 : decode prog_3_method_1_code 103 = .ok (.iconst 1, 1) := by decide +kernel
theorem dX1_init_104 : decode prog_3_method_1_code 104 = .ok (.aaload, 1) := by decide +kernel
theorem dX1_init_105 : decode prog_3_method_1_code 105 = .ok (.putfield 51, 3) := by decide +kernel
theorem dX1_init_108 : decode prog_3_method_1_code 108 = .ok (.return_, 1) := by decide +kernel
abbrev b_La : List Nat := [0, 1, 72, 2, 76, 77, 78, 79, 80, 81, 82, 83, 84, 3, 85, 86, 87, 88, 89, 90, 91, 92, 93, 94, 95, 96, 97, 98, 99, 100, 101, 102, 103, 4]
def mact (M : bM) (k : Nat) : bM := b_up (b_set (b_upl M [(12 + k, 2, 1), (12 + k, 3, 1), (12 + k, 4, 1), (12 + k, 5, 1)]) (22 + k) (s_cpy s_u0 (b_upl M [(12 + k, 2, 1), (12 + k, 3, 1), (12 + k, 4, 1), (12 + k, 5, 1)] (22 + k)) 0 0 10)) 107 k 1
theorem mact_ne {M : bM} {k c : Nat} {i : Int} (h1 : c ≠ 12 + k) (h2 : c ≠ 22 + k) (h3 : c ≠ 107) : mact M k c i = M c i := by
  unfold mact
  rw [b_upc h3, b_set_n h2]
  exact b_upl_ne _ _ (fun u hu => by
    simp only [List.mem_cons, List.not_mem_nil, or_false] at hu
    rcases hu with rfl | rfl | rfl | rfl <;> exact h1) i
theorem w_acts0 {l : Launch} {E : bE} {M : bM} {G : bG} (hG2 : G.2.2 = b_La) (hfg : b_fg E) (h0 : ∀ c ∈ ([12, 22, 32, 52, 62, 13, 23, 33, 53, 63, 14, 24, 34, 54, 64, 15, 25, 35, 55, 65, 16, 26, 36, 56, 66, 17, 27, 37, 57, 67, 18, 28, 38, 58, 68, 19, 29, 39, 59, 69, 20, 30, 40, 60, 70, 21, 31, 41, 61, 71] : List Nat), ∀ i, M c i = 0) (hgh : M b_G 62 = 0) (h45 : M 4 5 = 1) (kk : VL l E xX1_init [0, 1, 72, 2, 76, 77, 78, 79, 80, 81, 82, 83, 84, 3, 85, 86, 87, 88, 89, 90, 91, 92, 93, 94, 95, 96, 97, 98, 99, 100, 101, 102, 103, 4, 107, 108, 109, 104, 105, 106, 12, 22, 32, 52, 62] (11, 1114) 70 [(0, bR 4), (1, bR 1), (2, bI 1)] [] (mact M 0) G) : VL l E xX1_init [0, 1, 72, 2, 76, 77, 78, 79, 80, 81, 82, 83, 84, 3, 85, 86, 87, 88, 89, 90, 91, 92, 93, 94, 95, 96, 97, 98, 99, 100, 101, 102, 103, 4, 107, 108, 109, 104, 105, 106] (6, 1049) 70 [(0, bR 4), (1, bR 1), (2, bI 0)] [] M G := by
  refine v_iload_n (f := 2) 2 rfl dX1_init_70 ?_
  refine v_aload_n (f := 0) 0 rfl dX1_init_71 ?_
  refine g_getR (Or.inr (by rw [h45]; decide)) (kf := 5) (kz := 5) rfl (by decide) kd_4 rfl ⟨by decide, by decide⟩ rfl wf_1_13 dX1_init_72 ?_
  refine g_alen5 (by decide) kd_107 (by decide) dX1_init_75 ?_
  refine v_icmp_ge (tgt := 98) dX1_init_76 (by decide) (fun h => absurd h (by decide)) (fun _ => ?_)
  refine v_aload_n (f := 0) 0 rfl dX1_init_79 ?_
  refine g_getR (Or.inr (by rw [h45]; decide)) (kf := 5) (kz := 5) rfl (by decide) kd_4 rfl ⟨by decide, by decide⟩ rfl wf_1_13 dX1_init_80 ?_
  refine v_iload_n (f := 2) 2 rfl dX1_init_83 ?_
  refine g_new (c0 := 12) tyX0 kd_12 rfl rfl tyX0_ok dfX0 (by decide) (by rw [hG2]; decide) (fun i => h0 _ (by decide) i) (by decide +kernel) (by simp [b_nr]) (by simp [b_nr]) rfl wcl_1_11 wt_0 wn_0 ⟨by decide, by decide⟩ dX1_init_84 ?_
  refine v_dup rfl dX1_init_87 ?_
  refine g_callI (L1 := [0, 1, 72, 2, 76, 77, 78, 79, 80, 81, 82, 83, 84, 3, 85, 86, 87, 88, 89, 90, 91, 92, 93, 94, 95, 96, 97, 98, 99, 100, 101, 102, 103, 4, 107, 108, 109, 104, 105, 106, 12, 22, 32, 52, 62]) (nA := 0) (As := []) (ix := 50) (c_X0_init0 hfg (fun c hc => h0 c (by revert c; decide)) hgh) rfl rfl (by rw [hG2]; decide) (by simp [b_iL]) (by simp [b_iL]) rfl rfl wc_X0_init wm_1_50 wi_X0_init wn_0 ⟨by decide, by decide, by decide⟩ rfl ⟨by decide, by decide⟩ ⟨by decide, by decide⟩ (Nat.le_of_ble_eq_true rfl) dX1_init_88 (fun r M2 hp => ?_)
  obtain ⟨rfl, rfl⟩ := hp
  dsimp only [Option.toList, List.cons_append, List.nil_append]
  refine g_aastore (by decide) kd_107 (by decide) (by decide) (by decide) kd_12 rfl dX1_init_91 ?_
  refine v_iincN (ls' := [(2, bI _), (0, bR _), (1, bR _)]) 2 rfl (by decide) ⟨by decide, by decide⟩ dX1_init_92 rfl ?_
  refine v_goto (tgt := 70) dX1_init_95 (by decide) ?_
  exact v_sub (ls2 := [(0, bR 4), (1, bR 1), (2, bI 1)]) [1, 2, 0] rfl kk
theorem w_acts1 {l : Launch} {E : bE} {M : bM} {G : bG} (hG2 : G.2.2 = b_La) (hfg : b_fg E) (h0 : ∀ c ∈ ([13, 23, 33, 53, 63, 14, 24, 34, 54, 64, 15, 25, 35, 55, 65, 16, 26, 36, 56, 66, 17, 27, 37, 57, 67, 18, 28, 38, 58, 68, 19, 29, 39, 59, 69, 20, 30, 40, 60, 70, 21, 31, 41, 61, 71] : List Nat), ∀ i, M c i = 0) (hgh : M b_G 63 = 0) (h45 : M 4 5 = 1) (kk : VL l E xX1_init [0, 1, 72, 2, 76, 77, 78, 79, 80, 81, 82, 83, 84, 3, 85, 86, 87, 88, 89, 90, 91, 92, 93, 94, 95, 96, 97, 98, 99, 100, 101, 102, 103, 4, 107, 108, 109, 104, 105, 106, 12, 22, 32, 52, 62, 13, 23, 33, 53, 63] (16, 1179) 70 [(0, bR 4), (1, bR 1), (2, bI 2)] [] (mact M 1) G) : VL l E xX1_init [0, 1, 72, 2, 76, 77, 78, 79, 80, 81, 82, 83, 84, 3, 85, 86, 87, 88, 89, 90, 91, 92, 93, 94, 95, 96, 97, 98, 99, 100, 101, 102, 103, 4, 107, 108, 109, 104, 105, 106, 12, 22, 32, 52, 62] (11, 1114) 70 [(0, bR 4), (1, bR 1), (2, bI 1)] [] M G := by
  refine v_iload_n (f := 2) 2 rfl dX1_init_70 ?_
  refine v_aload_n (f := 0) 0 rfl dX1_init_71 ?_
  refine g_getR (Or.inr (by rw [h45]; decide)) (kf := 5) (kz := 5) rfl (by decide) kd_4 rfl ⟨by decide, by decide⟩ rfl wf_1_13 dX1_init_72 ?_
  refine g_alen5 (by decide) kd_107 (by decide) dX1_init_75 ?_
  refine v_icmp_ge (tgt := 98) dX1_init_76 (by decide) (fun h => absurd h (by decide)) (fun _ => ?_)
  refine v_aload_n (f := 0) 0 rfl dX1_init_79 ?_
  refine g_getR (Or.inr (by rw [h45]; decide)) (kf := 5) (kz := 5) rfl (by decide) kd_4 rfl ⟨by decide, by decide⟩ rfl wf_1_13 dX1_init_80 ?_
  refine v_iload_n (f := 2) 2 rfl dX1_init_83 ?_
  refine g_new (c0 := 13) tyX0 kd_13 rfl rfl tyX0_ok dfX0 (by decide) (by rw [hG2]; decide) (fun i => h0 _ (by decide) i) (by decide +kernel) (by simp [b_nr]) (by simp [b_nr]) rfl wcl_1_11 wt_0 wn_0 ⟨by decide, by decide⟩ dX1_init_84 ?_
  refine v_dup rfl dX1_init_87 ?_
  refine g_callI (L1 := [0, 1, 72, 2, 76, 77, 78, 79, 80, 81, 82, 83, 84, 3, 85, 86, 87, 88, 89, 90, 91, 92, 93, 94, 95, 96, 97, 98, 99, 100, 101, 102, 103, 4, 107, 108, 109, 104, 105, 106, 12, 22, 32, 52, 62, 13, 23, 33, 53, 63]) (nA := 0) (As := []) (ix := 50) (c_X0_init1 hfg (fun c hc => h0 c (by revert c; decide)) hgh) rfl rfl (by rw [hG2]; decide) (by simp [b_iL]) (by simp [b_iL]) rfl rfl wc_X0_init wm_1_50 wi_X0_init wn_0 ⟨by decide, by decide, by decide⟩ rfl ⟨by decide, by decide⟩ ⟨by decide, by decide⟩ (Nat.le_of_ble_eq_true rfl) dX1_init_88 (fun r M2 hp => ?_)
  obtain ⟨rfl, rfl⟩ := hp
  dsimp only [Option.toList, List.cons_append, List.nil_append]
  refine g_aastore (by decide) kd_107 (by decide) (by decide) (by decide) kd_13 rfl dX1_init_91 ?_
  refine v_iincN (ls' := [(2, bI _), (0, bR _), (1, bR _)]) 2 rfl (by decide) ⟨by decide, by decide⟩ dX1_init_92 rfl ?_
  refine v_goto (tgt := 70) dX1_init_95 (by decide) ?_
  exact v_sub (ls2 := [(0, bR 4), (1, bR 1), (2, bI 2)]) [1, 2, 0] rfl kk
theorem w_acts2 {l : Launch} {E : bE} {M : bM} {G : bG} (hG2 : G.2.2 = b_La) (hfg : b_fg E) (h0 : ∀ c ∈ ([14, 24, 34, 54, 64, 15, 25, 35, 55, 65, 16, 26, 36, 56, 66, 17, 27, 37, 57, 67, 18, 28, 38, 58, 68, 19, 29, 39, 59, 69, 20, 30, 40, 60, 70, 21, 31, 41, 61, 71] : List Nat), ∀ i, M c i = 0) (hgh : M b_G 64 = 0) (h45 : M 4 5 = 1) (kk : VL l E xX1_init [0, 1, 72, 2, 76, 77, 78, 79, 80, 81, 82, 83, 84, 3, 85, 86, 87, 88, 89, 90, 91, 92, 93, 94, 95, 96, 97, 98, 99, 100, 101, 102, 103, 4, 107, 108, 109, 104, 105, 106, 12, 22, 32, 52, 62, 13, 23, 33, 53, 63, 14, 24, 34, 54, 64] (21, 1244) 70 [(0, bR 4), (1, bR 1), (2, bI 3)] [] (mact M 2) G) : VL l E xX1_init [0, 1, 72, 2, 76, 77, 78, 79, 80, 81, 82, 83, 84, 3, 85, 86, 87, 88, 89, 90, 91, 92, 93, 94, 95, 96, 97, 98, 99, 100, 101, 102, 103, 4, 107, 108, 109, 104, 105, 106, 12, 22, 32, 52, 62, 13, 23, 33, 53, 63] (16, 1179) 70 [(0, bR 4), (1, bR 1), (2, bI 2)] [] M G := by
  refine v_iload_n (f := 2) 2 rfl dX1_init_70 ?_
  refine v_aload_n (f := 0) 0 rfl dX1_init_71 ?_
  refine g_getR (Or.inr (by rw [h45]; decide)) (kf := 5) (kz := 5) rfl (by decide) kd_4 rfl ⟨by decide, by decide⟩ rfl wf_1_13 dX1_init_72 ?_
  refine g_alen5 (by decide) kd_107 (by decide) dX1_init_75 ?_
  refine v_icmp_ge (tgt := 98) dX1_init_76 (by decide) (fun h => absurd h (by decide)) (fun _ => ?_)
  refine v_aload_n (f := 0) 0 rfl dX1_init_79 ?_
  refine g_getR (Or.inr (by rw [h45]; decide)) (kf := 5) (kz := 5) rfl (by decide) kd_4 rfl ⟨by decide, by decide⟩ rfl wf_1_13 dX1_init_80 ?_
  refine v_iload_n (f := 2) 2 rfl dX1_init_83 ?_
  refine g_new (c0 := 14) tyX0 kd_14 rfl rfl tyX0_ok dfX0 (by decide) (by rw [hG2]; decide) (fun i => h0 _ (by decide) i) (by decide +kernel) (by simp [b_nr]) (by simp [b_nr]) rfl wcl_1_11 wt_0 wn_0 ⟨by decide, by decide⟩ dX1_init_84 ?_
  refine v_dup rfl dX1_init_87 ?_
  refine g_callI (L1 := [0, 1, 72, 2, 76, 77, 78, 79, 80, 81, 82, 83, 84, 3, 85, 86, 87, 88, 89, 90, 91, 92, 93, 94, 95, 96, 97, 98, 99, 100, 101, 102, 103, 4, 107, 108, 109, 104, 105, 106, 12, 22, 32, 52, 62, 13, 23, 33, 53, 63, 14, 24, 34, 54, 64]) (nA := 0) (As := []) (ix := 50) (c_X0_init2 hfg (fun c hc => h0 c (by revert c; decide)) hgh) rfl rfl (by rw [hG2]; decide) (by simp [b_iL]) (by simp [b_iL]) rfl rfl wc_X0_init wm_1_50 wi_X0_init wn_0 ⟨by decide, by decide, by decide⟩ rfl ⟨by decide, by decide⟩ ⟨by decide, by decide⟩ (Nat.le_of_ble_eq_true rfl) dX1_init_88 (fun r M2 hp => ?_)
  obtain ⟨rfl, rfl⟩ := hp
  dsimp only [Option.toList, List.cons_append, List.nil_append]
  refine g_aastore (by decide) kd_107 (by decide) (by decide) (by decide) kd_14 rfl dX1_init_91 ?_
  refine v_iincN (ls' := [(2, bI _), (0, bR _), (1, bR _)]) 2 rfl (by decide) ⟨by decide, by decide⟩ dX1_init_92 rfl ?_
  refine v_goto (tgt := 70) dX1_init_95 (by decide) ?_
  exact v_sub (ls2 := [(0, bR 4), (1, bR 1), (2, bI 3)]) [1, 2, 0] rfl kk
theorem w_acts3 {l : Launch} {E : bE} {M : bM} {G : bG} (hG2 : G.2.2 = b_La) (hfg : b_fg E) (h0 : ∀ c ∈ ([15, 25, 35, 55, 65, 16, 26, 36, 56, 66, 17, 27, 37, 57, 67, 18, 28, 38, 58, 68, 19, 29, 39, 59, 69, 20, 30, 40, 60, 70, 21, 31, 41, 61, 71] : List Nat), ∀ i, M c i = 0) (hgh : M b_G 65 = 0) (h45 : M 4 5 = 1) (kk : VL l E xX1_init [0, 1, 72, 2, 76, 77, 78, 79, 80, 81, 82, 83, 84, 3, 85, 86, 87, 88, 89, 90, 91, 92, 93, 94, 95, 96, 97, 98, 99, 100, 101, 102, 103, 4, 107, 108, 109, 104, 105, 106, 12, 22, 32, 52, 62, 13, 23, 33, 53, 63, 14, 24, 34, 54, 64, 15, 25, 35, 55, 65] (26, 1309) 70 [(0, bR 4), (1, bR 1), (2, bI 4)] [] (mact M 3) G) : VL l E xX1_init [0, 1, 72, 2, 76, 77, 78, 79, 80, 81, 82, 83, 84, 3, 85, 86, 87, 88, 89, 90, 91, 92, 93, 94, 95, 96, 97, 98, 99, 100, 101, 102, 103, 4, 107, 108, 109, 104, 105, 106, 12, 22, 32, 52, 62, 13, 23, 33, 53, 63, 14, 24, 34, 54, 64] (21, 1244) 70 [(0, bR 4), (1, bR 1), (2, bI 3)] [] M G := by
  refine v_iload_n (f := 2) 2 rfl dX1_init_70 ?_
  refine v_aload_n (f := 0) 0 rfl dX1_init_71 ?_
  refine g_getR (Or.inr (by rw [h45]; decide)) (kf := 5) (kz := 5) rfl (by decide) kd_4 rfl ⟨by decide, by decide⟩ rfl wf_1_13 dX1_init_72 ?_
  refine g_alen5 (by decide) kd_107 (by decide) dX1_init_75 ?_
  refine v_icmp_ge (tgt := 98) dX1_init_76 (by decide) (fun h => absurd h (by decide)) (fun _ => ?_)
  refine v_aload_n (f := 0) 0 rfl dX1_init_79 ?_
  refine g_getR (Or.inr (by rw [h45]; decide)) (kf := 5) (kz := 5) rfl (by decide) kd_4 rfl ⟨by decide, by decide⟩ rfl wf_1_13 dX1_init_80 ?_
  refine v_iload_n (f := 2) 2 rfl dX1_init_83 ?_
  refine g_new (c0 := 15) tyX0 kd_15 rfl rfl tyX0_ok dfX0 (by decide) (by rw [hG2]; decide) (fun i => h0 _ (by decide) i) (by decide +kernel) (by simp [b_nr]) (by simp [b_nr]) rfl wcl_1_11 wt_0 wn_0 ⟨by decide, by decide⟩ dX1_init_84 ?_
  refine v_dup rfl dX1_init_87 ?_
  refine g_callI (L1 := [0, 1, 72, 2, 76, 77, 78, 79, 80, 81, 82, 83, 84, 3, 85, 86, 87, 88, 89, 90, 91, 92, 93, 94, 95, 96, 97, 98, 99, 100, 101, 102, 103, 4, 107, 108, 109, 104, 105, 106, 12, 22, 32, 52, 62, 13, 23, 33, 53, 63, 14, 24, 34, 54, 64, 15, 25, 35, 55, 65]) (nA := 0) (As := []) (ix := 50) (c_X0_init3 hfg (fun c hc => h0 c (by revert c; decide)) hgh) rfl rfl (by rw [hG2]; decide) (by simp [b_iL]) (by simp [b_iL]) rfl rfl wc_X0_init wm_1_50 wi_X0_init wn_0 ⟨by decide, by decide, by decide⟩ rfl ⟨by decide, by decide⟩ ⟨by decide, by decide⟩ (Nat.le_of_ble_eq_true rfl) dX1_init_88 (fun r M2 hp => ?_)
  obtain ⟨rfl, rfl⟩ := hp
  dsimp only [Option.toList, List.cons_append, List.nil_append]
  refine g_aastore (by decide) kd_107 (by decide) (by decide) (by decide) kd_15 rfl dX1_init_91 ?_
  refine v_iincN (ls' := [(2, bI _), (0, bR _), (1, bR _)]) 2 rfl (by decide) ⟨by decide, by decide⟩ dX1_init_92 rfl ?_
  refine v_goto (tgt := 70) dX1_init_95 (by decide) ?_
  exact v_sub (ls2 := [(0, bR 4), (1, bR 1), (2, bI 4)]) [1, 2, 0] rfl kk
theorem w_acts4 {l : Launch} {E : bE} {M : bM} {G : bG} (hG2 : G.2.2 = b_La) (hfg : b_fg E) (h0 : ∀ c ∈ ([16, 26, 36, 56, 66, 17, 27, 37, 57, 67, 18, 28, 38, 58, 68, 19, 29, 39, 59, 69, 20, 30, 40, 60, 70, 21, 31, 41, 61, 71] : List Nat), ∀ i, M c i = 0) (hgh : M b_G 66 = 0) (h45 : M 4 5 = 1) (kk : VL l E xX1_init [0, 1, 72, 2, 76, 77, 78, 79, 80, 81, 82, 83, 84, 3, 85, 86, 87, 88, 89, 90, 91, 92, 93, 94, 95, 96, 97, 98, 99, 100, 101, 102, 103, 4, 107, 108, 109, 104, 105, 106, 12, 22, 32, 52, 62, 13, 23, 33, 53, 63, 14, 24, 34, 54, 64, 15, 25, 35, 55, 65, 16, 26, 36, 56, 66] (31, 1374) 70 [(0, bR 4), (1, bR 1), (2, bI 5)] [] (mact M 4) G) : VL l E xX1_init [0, 1, 72, 2, 76, 77, 78, 79, 80, 81, 82, 83, 84, 3, 85, 86, 87, 88, 89, 90, 91, 92, 93, 94, 95, 96, 97, 98, 99, 100, 101, 102, 103, 4, 107, 108, 109, 104, 105, 106, 12, 22, 32, 52, 62, 13, 23, 33, 53, 63, 14, 24, 34, 54, 64, 15, 25, 35, 55, 65] (26, 1309) 70 [(0, bR 4), (1, bR 1), (2, bI 4)] [] M G := by
  refine v_iload_n (f := 2) 2 rfl dX1_init_70 ?_
  refine v_aload_n (f := 0) 0 rfl dX1_init_71 ?_
  refine g_getR (Or.inr (by rw [h45]; decide)) (kf := 5) (kz := 5) rfl (by decide) kd_4 rfl ⟨by decide, by decide⟩ rfl wf_1_13 dX1_init_72 ?_
  refine g_alen5 (by decide) kd_107 (by decide) dX1_init_75 ?_
  refine v_icmp_ge (tgt := 98) dX1_init_76 (by decide) (fun h => absurd h (by decide)) (fun _ => ?_)
  refine v_aload_n (f := 0) 0 rfl dX1_init_79 ?_
  refine g_getR (Or.inr (by rw [h45]; decide)) (kf := 5) (kz := 5) rfl (by decide) kd_4 rfl ⟨by decide, by decide⟩ rfl wf_1_13 dX1_init_80 ?_
  refine v_iload_n (f := 2) 2 rfl dX1_init_83 ?_
  refine g_new (c0 := 16) tyX0 kd_16 rfl rfl tyX0_ok dfX0 (by decide) (by rw [hG2]; decide) (fun i => h0 _ (by decide) i) (by decide +kernel) (by simp [b_nr]) (by simp [b_nr]) rfl wcl_1_11 wt_0 wn_0 ⟨by decide, by decide⟩ dX1_init_84 ?_
  refine v_dup rfl dX1_init_87 ?_
  refine g_callI (L1 := [0, 1, 72, 2, 76, 77, 78, 79, 80, 81, 82, 83, 84, 3, 85, 86, 87, 88, 89, 90, 91, 92, 93, 94, 95, 96, 97, 98, 99, 100, 101, 102, 103, 4, 107, 108, 109, 104, 105, 106, 12, 22, 32, 52, 62, 13, 23, 33, 53, 63, 14, 24, 34, 54, 64, 15, 25, 35, 55, 65, 16, 26, 36, 56, 66]) (nA := 0) (As := []) (ix := 50) (c_X0_init4 hfg (fun c hc => h0 c (by revert c; decide)) hgh) rfl rfl (by rw [hG2]; decide) (by simp [b_iL]) (by simp [b_iL]) rfl rfl wc_X0_init wm_1_50 wi_X0_init wn_0 ⟨by decide, by decide, by decide⟩ rfl ⟨by decide, by decide⟩ ⟨by decide, by decide⟩ (Nat.le_of_ble_eq_true rfl) dX1_init_88 (fun r M2 hp => ?_)
  obtain ⟨rfl, rfl⟩ := hp
  dsimp only [Option.toList, List.cons_append, List.nil_append]
  refine g_aastore (by decide) kd_107 (by decide) (by decide) (by decide) kd_16 rfl dX1_init_91 ?_
  refine v_iincN (ls' := [(2, bI _), (0, bR _), (1, bR _)]) 2 rfl (by decide) ⟨by decide, by decide⟩ dX1_init_92 rfl ?_
  refine v_goto (tgt := 70) dX1_init_95 (by decide) ?_
  exact v_sub (ls2 := [(0, bR 4), (1, bR 1), (2, bI 5)]) [1, 2, 0] rfl kk
theorem w_acts5 {l : Launch} {E : bE} {M : bM} {G : bG} (hG2 : G.2.2 = b_La) (hfg : b_fg E) (h0 : ∀ c ∈ ([17, 27, 37, 57, 67, 18, 28, 38, 58, 68, 19, 29, 39, 59, 69, 20, 30, 40, 60, 70, 21, 31, 41, 61, 71] : List Nat), ∀ i, M c i = 0) (hgh : M b_G 67 = 0) (h45 : M 4 5 = 1) (kk : VL l E xX1_init [0, 1, 72, 2, 76, 77, 78, 79, 80, 81, 82, 83, 84, 3, 85, 86, 87, 88, 89, 90, 91, 92, 93, 94, 95, 96, 97, 98, 99, 100, 101, 102, 103, 4, 107, 108, 109, 104, 105, 106, 12, 22, 32, 52, 62, 13, 23, 33, 53, 63, 14, 24, 34, 54, 64, 15, 25, 35, 55, 65, 16, 26, 36, 56, 66, 17, 27, 37, 57, 67] (36, 1439) 70 [(0, bR 4), (1, bR 1), (2, bI 6)] [] (mact M 5) G) : VL l E xX1_init [0, 1, 72, 2, 76, 77, 78, 79, 80, 81, 82, 83, 84, 3, 85, 86, 87, 88, 89, 90, 91, 92, 93, 94, 95, 96, 97, 98, 99, 100, 101, 102, 103, 4, 107, 108, 109, 104, 105, 106, 12, 22, 32, 52, 62, 13, 23, 33, 53, 63, 14, 24, 34, 54, 64, 15, 25, 35, 55, 65, 16, 26, 36, 56, 66] (31, 1374) 70 [(0, bR 4), (1, bR 1), (2, bI 5)] [] M G := by
  refine v_iload_n (f := 2) 2 rfl dX1_init_70 ?_
  refine v_aload_n (f := 0) 0 rfl dX1_init_71 ?_
  refine g_getR (Or.inr (by rw [h45]; decide)) (kf := 5) (kz := 5) rfl (by decide) kd_4 rfl ⟨by decide, by decide⟩ rfl wf_1_13 dX1_init_72 ?_
  refine g_alen5 (by decide) kd_107 (by decide) dX1_init_75 ?_
  refine v_icmp_ge (tgt := 98) dX1_init_76 (by decide) (fun h => absurd h (by decide)) (fun _ => ?_)
  refine v_aload_n (f := 0) 0 rfl dX1_init_79 ?_
  refine g_getR (Or.inr (by rw [h45]; decide)) (kf := 5) (kz := 5) rfl (by decide) kd_4 rfl ⟨by decide, by decide⟩ rfl wf_1_13 dX1_init_80 ?_
  refine v_iload_n (f := 2) 2 rfl dX1_init_83 ?_
  refine g_new (c0 := 17) tyX0 kd_17 rfl rfl tyX0_ok dfX0 (by decide) (by rw [hG2]; decide) (fun i => h0 _ (by decide) i) (by decide +kernel) (by simp [b_nr]) (by simp [b_nr]) rfl wcl_1_11 wt_0 wn_0 ⟨by decide, by decide⟩ dX1_init_84 ?_
  refine v_dup rfl dX1_init_87 ?_
  refine g_callI (L1 := [0, 1, 72, 2, 76, 77, 78, 79, 80, 81, 82, 83, 84, 3, 85, 86, 87, 88, 89, 90, 91, 92, 93, 94, 95, 96, 97, 98, 99, 100, 101, 102, 103, 4, 107, 108, 109, 104, 105, 106, 12, 22, 32, 52, 62, 13, 23, 33, 53, 63, 14, 24, 34, 54, 64, 15, 25, 35, 55, 65, 16, 26, 36, 56, 66, 17, 27, 37, 57, 67]) (nA := 0) (As := []) (ix := 50) (c_X0_init5 hfg (fun c hc => h0 c (by revert c; decide)) hgh) rfl rfl (by rw [hG2]; decide) (by simp [b_iL]) (by simp [b_iL]) rfl rfl wc_X0_init wm_1_50 wi_X0_init wn_0 ⟨by decide, by decide, by decide⟩ rfl ⟨by decide, by decide⟩ ⟨by decide, by decide⟩ (Nat.le_of_ble_eq_true rfl) dX1_init_88 (fun r M2 hp => ?_)
  obtain ⟨rfl, rfl⟩ := hp
  dsimp only [Option.toList, List.cons_append, List.nil_append]
  refine g_aastore (by decide) kd_107 (by decide) (by decide) (by decide) kd_17 rfl dX1_init_91 ?_
  refine v_iincN (ls' := [(2, bI _), (0, bR _), (1, bR _)]) 2 rfl (by decide) ⟨by decide, by decide⟩ dX1_init_92 rfl ?_
  refine v_goto (tgt := 70) dX1_init_95 (by decide) ?_
  exact v_sub (ls2 := [(0, bR 4), (1, bR 1), (2, bI 6)]) [1, 2, 0] rfl kk
theorem w_acts6 {l : Launch} {E : bE} {M : bM} {G : bG} (hG2 : G.2.2 = b_La) (hfg : b_fg E) (h0 : ∀ c ∈ ([18, 28, 38, 58, 68, 19, 29, 39, 59, 69, 20, 30, 40, 60, 70, 21, 31, 41, 61, 71] : List Nat), ∀ i, M c i = 0) (hgh : M b_G 68 = 0) (h45 : M 4 5 = 1) (kk : VL l E xX1_init [0, 1, 72, 2, 76, 77, 78, 79, 80, 81, 82, 83, 84, 3, 85, 86, 87, 88, 89, 90, 91, 92, 93, 94, 95, 96, 97, 98, 99, 100, 101, 102, 103, 4, 107, 108, 109, 104, 105, 106, 12, 22, 32, 52, 62, 13, 23, 33, 53, 63, 14, 24, 34, 54, 64, 15, 25, 35, 55, 65, 16, 26, 36, 56, 66, 17, 27, 37, 57, 67, 18, 28, 38, 58, 68] (41, 1504) 70 [(0, bR 4), (1, bR 1), (2, bI 7)] [] (mact M 6) G) : VL l E xX1_init [0, 1, 72, 2, 76, 77, 78, 79, 80, 81, 82, 83, 84, 3, 85, 86, 87, 88, 89, 90, 91, 92, 93, 94, 95, 96, 97, 98, 99, 100, 101, 102, 103, 4, 107, 108, 109, 104, 105, 106, 12, 22, 32, 52, 62, 13, 23, 33, 53, 63, 14, 24, 34, 54, 64, 15, 25, 35, 55, 65, 16, 26, 36, 56, 66, 17, 27, 37, 57, 67] (36, 1439) 70 [(0, bR 4), (1, bR 1), (2, bI 6)] [] M G := by
  refine v_iload_n (f := 2) 2 rfl dX1_init_70 ?_
  refine v_aload_n (f := 0) 0 rfl dX1_init_71 ?_
  refine g_getR (Or.inr (by rw [h45]; decide)) (kf := 5) (kz := 5) rfl (by decide) kd_4 rfl ⟨by decide, by decide⟩ rfl wf_1_13 dX1_init_72 ?_
  refine g_alen5 (by decide) kd_107 (by decide) dX1_init_75 ?_
  refine v_icmp_ge (tgt := 98) dX1_init_76 (by decide) (fun h => absurd h (by decide)) (fun _ => ?_)
  refine v_aload_n (f := 0) 0 rfl dX1_init_79 ?_
  refine g_getR (Or.inr (by rw [h45]; decide)) (kf := 5) (kz := 5) rfl (by decide) kd_4 rfl ⟨by decide, by decide⟩ rfl wf_1_13 dX1_init_80 ?_
  refine v_iload_n (f := 2) 2 rfl dX1_init_83 ?_
  refine g_new (c0 := 18) tyX0 kd_18 rfl rfl tyX0_ok dfX0 (by decide) (by rw [hG2]; decide) (fun i => h0 _ (by decide) i) (by decide +kernel) (by simp [b_nr]) (by simp [b_nr]) rfl wcl_1_11 wt_0 wn_0 ⟨by decide, by decide⟩ dX1_init_84 ?_
  refine v_dup rfl dX1_init_87 ?_
  refine g_callI (L1 := [0, 1, 72, 2, 76, 77, 78, 79, 80, 81, 82, 83, 84, 3, 85, 86, 87, 88, 89, 90, 91, 92, 93, 94, 95, 96, 97, 98, 99, 100, 101, 102, 103, 4, 107, 108, 109, 104, 105, 106, 12, 22, 32, 52, 62, 13, 23, 33, 53, 63, 14, 24, 34, 54, 64, 15, 25, 35, 55, 65, 16, 26, 36, 56, 66, 17, 27, 37, 57, 67, 18, 28, 38, 58, 68]) (nA := 0) (As := []) (ix := 50) (c_X0_init6 hfg (fun c hc => h0 c (by revert c; decide)) hgh) rfl rfl (by rw [hG2]; decide) (by simp [b_iL]) (by simp [b_iL]) rfl rfl wc_X0_init wm_1_50 wi_X0_init wn_0 ⟨by decide, by decide, by decide⟩ rfl ⟨by decide, by decide⟩ ⟨by decide, by decide⟩ (Nat.le_of_ble_eq_true rfl) dX1_init_88 (fun r M2 hp => ?_)
  obtain ⟨rfl, rfl⟩ := hp
  dsimp only [Option.toList, List.cons_append, List.nil_append]
  refine g_aastore (by decide) kd_107 (by decide) (by decide) (by decide) kd_18 rfl dX1_init_91 ?_
  refine v_iincN (ls' := [(2, bI _), (0, bR _), (1, bR _)]) 2 rfl (by decide) ⟨by decide, by decide⟩ dX1_init_92 rfl ?_
  refine v_goto (tgt := 70) dX1_init_95 (by decide) ?_
  exact v_sub (ls2 := [(0, bR 4), (1, bR 1), (2, bI 7)]) [1, 2, 0] rfl kk
theorem w_acts7 {l : Launch} {E : bE} {M : bM} {G : bG} (hG2 : G.2.2 = b_La) (hfg : b_fg E) (h0 : ∀ c ∈ ([19, 29, 39, 59, 69, 20, 30, 40, 60, 70, 21, 31, 41, 61, 71] : List Nat), ∀ i, M c i = 0) (hgh : M b_G 69 = 0) (h45 : M 4 5 = 1) (kk : VL l E xX1_init [0, 1, 72, 2, 76, 77, 78, 79, 80, 81, 82, 83, 84, 3, 85, 86, 87, 88, 89, 90, 91, 92, 93, 94, 95, 96, 97, 98, 99, 100, 101, 102, 103, 4, 107, 108, 109, 104, 105, 106, 12, 22, 32, 52, 62, 13, 23, 33, 53, 63, 14, 24, 34, 54, 64, 15, 25, 35, 55, 65, 16, 26, 36, 56, 66, 17, 27, 37, 57, 67, 18, 28, 38, 58, 68, 19, 29, 39, 59, 69] (46, 1569) 70 [(0, bR 4), (1, bR 1), (2, bI 8)] [] (mact M 7) G) : VL l E xX1_init [0, 1, 72, 2, 76, 77, 78, 79, 80, 81, 82, 83, 84, 3, 85, 86, 87, 88, 89, 90, 91, 92, 93, 94, 95, 96, 97, 98, 99, 100, 101, 102, 103, 4, 107, 108, 109, 104, 105, 106, 12, 22, 32, 52, 62, 13, 23, 33, 53, 63, 14, 24, 34, 54, 64, 15, 25, 35, 55, 65, 16, 26, 36, 56, 66, 17, 27, 37, 57, 67, 18, 28, 38, 58, 68] (41, 1504) 70 [(0, bR 4), (1, bR 1), (2, bI 7)] [] M G := by
  refine v_iload_n (f := 2) 2 rfl dX1_init_70 ?_
  refine v_aload_n (f := 0) 0 rfl dX1_init_71 ?_
  refine g_getR (Or.inr (by rw [h45]; decide)) (kf := 5) (kz := 5) rfl (by decide) kd_4 rfl ⟨by decide, by decide⟩ rfl wf_1_13 dX1_init_72 ?_
  refine g_alen5 (by decide) kd_107 (by decide) dX1_init_75 ?_
  refine v_icmp_ge (tgt := 98) dX1_init_76 (by decide) (fun h => absurd h (by decide)) (fun _ => ?_)
  refine v_aload_n (f := 0) 0 rfl dX1_init_79 ?_
  refine g_getR (Or.inr (by rw [h45]; decide)) (kf := 5) (kz := 5) rfl (by decide) kd_4 rfl ⟨by decide, by decide⟩ rfl wf_1_13 dX1_init_80 ?_
  refine v_iload_n (f := 2) 2 rfl dX1_init_83 ?_
  refine g_new (c0 := 19) tyX0 kd_19 rfl rfl tyX0_ok dfX0 (by decide) (by rw [hG2]; decide) (fun i => h0 _ (by decide) i) (by decide +kernel) (by simp [b_nr]) (by simp [b_nr]) rfl wcl_1_11 wt_0 wn_0 ⟨by decide, by decide⟩ dX1_init_84 ?_
  refine v_dup rfl dX1_init_87 ?_
  refine g_callI (L1 := [0, 1, 72, 2, 76, 77, 78, 79, 80, 81, 82, 83, 84, 3, 85, 86, 87, 88, 89, 90, 91, 92, 93, 94, 95, 96, 97, 98, 99, 100, 101, 102, 103, 4, 107, 108, 109, 104, 105, 106, 12, 22, 32, 52, 62, 13, 23, 33, 53, 63, 14, 24, 34, 54, 64, 15, 25, 35, 55, 65, 16, 26, 36, 56, 66, 17, 27, 37, 57, 67, 18, 28, 38, 58, 68, 19, 29, 39, 59, 69]) (nA := 0) (As := []) (ix := 50) (c_X0_init7 hfg (fun c hc => h0 c (by revert c; decide)) hgh) rfl rfl (by rw [hG2]; decide) (by simp [b_iL]) (by simp [b_iL]) rfl rfl wc_X0_init wm_1_50 wi_X0_init wn_0 ⟨by decide, by decide, by decide⟩ rfl ⟨by decide, by decide⟩ ⟨by decide, by decide⟩ (Nat.le_of_ble_eq_true rfl) dX1_init_88 (fun r M2 hp => ?_)
  obtain ⟨rfl, rfl⟩ := hp
  dsimp only [Option.toList, List.cons_append, List.nil_append]
  refine g_aastore (by decide) kd_107 (by decide) (by decide) (by decide) kd_19 rfl dX1_init_91 ?_
  refine v_iincN (ls' := [(2, bI _), (0, bR _), (1, bR _)]) 2 rfl (by decide) ⟨by decide, by decide⟩ dX1_init_92 rfl ?_
  refine v_goto (tgt := 70) dX1_init_95 (by decide) ?_
  exact v_sub (ls2 := [(0, bR 4), (1, bR 1), (2, bI 8)]) [1, 2, 0] rfl kk
theorem w_acts8 {l : Launch} {E : bE} {M : bM} {G : bG} (hG2 : G.2.2 = b_La) (hfg : b_fg E) (h0 : ∀ c ∈ ([20, 30, 40, 60, 70, 21, 31, 41, 61, 71] : List Nat), ∀ i, M c i = 0) (hgh : M b_G 70 = 0) (h45 : M 4 5 = 1) (kk : VL l E xX1_init [0, 1, 72, 2, 76, 77, 78, 79, 80, 81, 82, 83, 84, 3, 85, 86, 87, 88, 89, 90, 91, 92, 93, 94, 95, 96, 97, 98, 99, 100, 101, 102, 103, 4, 107, 108, 109, 104, 105, 106, 12, 22, 32, 52, 62, 13, 23, 33, 53, 63, 14, 24, 34, 54, 64, 15, 25, 35, 55, 65, 16, 26, 36, 56, 66, 17, 27, 37, 57, 67, 18, 28, 38, 58, 68, 19, 29, 39, 59, 69, 20, 30, 40, 60, 70] (51, 1634) 70 [(0, bR 4), (1, bR 1), (2, bI 9)] [] (mact M 8) G) : VL l E xX1_init [0, 1, 72, 2, 76, 77, 78, 79, 80, 81, 82, 83, 84, 3, 85, 86, 87, 88, 89, 90, 91, 92, 93, 94, 95, 96, 97, 98, 99, 100, 101, 102, 103, 4, 107, 108, 109, 104, 105, 106, 12, 22, 32, 52, 62, 13, 23, 33, 53, 63, 14, 24, 34, 54, 64, 15, 25, 35, 55, 65, 16, 26, 36, 56, 66, 17, 27, 37, 57, 67, 18, 28, 38, 58, 68, 19, 29, 39, 59, 69] (46, 1569) 70 [(0, bR 4), (1, bR 1), (2, bI 8)] [] M G := by
  refine v_iload_n (f := 2) 2 rfl dX1_init_70 ?_
  refine v_aload_n (f := 0) 0 rfl dX1_init_71 ?_
  refine g_getR (Or.inr (by rw [h45]; decide)) (kf := 5) (kz := 5) rfl (by decide) kd_4 rfl ⟨by decide, by decide⟩ rfl wf_1_13 dX1_init_72 ?_
  refine g_alen5 (by decide) kd_107 (by decide) dX1_init_75 ?_
  refine v_icmp_ge (tgt := 98) dX1_init_76 (by decide) (fun h => absurd h (by decide)) (fun _ => ?_)
  refine v_aload_n (f := 0) 0 rfl dX1_init_79 ?_
  refine g_getR (Or.inr (by rw [h45]; decide)) (kf := 5) (kz := 5) rfl (by decide) kd_4 rfl ⟨by decide, by decide⟩ rfl wf_1_13 dX1_init_80 ?_
  refine v_iload_n (f := 2) 2 rfl dX1_init_83 ?_
  refine g_new (c0 := 20) tyX0 kd_20 rfl rfl tyX0_ok dfX0 (by decide) (by rw [hG2]; decide) (fun i => h0 _ (by decide) i) (by decide +kernel) (by simp [b_nr]) (by simp [b_nr]) rfl wcl_1_11 wt_0 wn_0 ⟨by decide, by decide⟩ dX1_init_84 ?_
  refine v_dup rfl dX1_init_87 ?_
  refine g_callI (L1 := [0, 1, 72, 2, 76, 77, 78, 79, 80, 81, 82, 83, 84, 3, 85, 86, 87, 88, 89, 90, 91, 92, 93, 94, 95, 96, 97, 98, 99, 100, 101, 102, 103, 4, 107, 108, 109, 104, 105, 106, 12, 22, 32, 52, 62, 13, 23, 33, 53, 63, 14, 24, 34, 54, 64, 15, 25, 35, 55, 65, 16, 26, 36, 56, 66, 17, 27, 37, 57, 67, 18, 28, 38, 58, 68, 19, 29, 39, 59, 69, 20, 30, 40, 60, 70]) (nA := 0) (As := []) (ix := 50) (c_X0_init8 hfg (fun c hc => h0 c (by revert c; decide)) hgh) rfl rfl (by rw [hG2]; decide) (by simp [b_iL]) (by simp [b_iL]) rfl rfl wc_X0_init wm_1_50 wi_X0_init wn_0 ⟨by decide, by decide, by decide⟩ rfl ⟨by decide, by decide⟩ ⟨by decide, by decide⟩ (Nat.le_of_ble_eq_true rfl) dX1_init_88 (fun r M2 hp => ?_)
  obtain ⟨rfl, rfl⟩ := hp
  dsimp only [Option.toList, List.cons_append, List.nil_append]
  refine g_aastore (by decide) kd_107 (by decide) (by decide) (by decide) kd_20 rfl dX1_init_91 ?_
  refine v_iincN (ls' := [(2, bI _), (0, bR _), (1, bR _)]) 2 rfl (by decide) ⟨by decide, by decide⟩ dX1_init_92 rfl ?_
  refine v_goto (tgt := 70) dX1_init_95 (by decide) ?_
  exact v_sub (ls2 := [(0, bR 4), (1, bR 1), (2, bI 9)]) [1, 2, 0] rfl kk
theorem w_acts9 {l : Launch} {E : bE} {M : bM} {G : bG} (hG2 : G.2.2 = b_La) (hfg : b_fg E) (h0 : ∀ c ∈ ([21, 31, 41, 61, 71] : List Nat), ∀ i, M c i = 0) (hgh : M b_G 71 = 0) (h45 : M 4 5 = 1) (kk : VL l E xX1_init [0, 1, 72, 2, 76, 77, 78, 79, 80, 81, 82, 83, 84, 3, 85, 86, 87, 88, 89, 90, 91, 92, 93, 94, 95, 96, 97, 98, 99, 100, 101, 102, 103, 4, 107, 108, 109, 104, 105, 106, 12, 22, 32, 52, 62, 13, 23, 33, 53, 63, 14, 24, 34, 54, 64, 15, 25, 35, 55, 65, 16, 26, 36, 56, 66, 17, 27, 37, 57, 67, 18, 28, 38, 58, 68, 19, 29, 39, 59, 69, 20, 30, 40, 60, 70, 21, 31, 41, 61, 71] (56, 1699) 70 [(0, bR 4), (1, bR 1), (2, bI 10)] [] (mact M 9) G) : VL l E xX1_init [0, 1, 72, 2, 76, 77, 78, 79, 80, 81, 82, 83, 84, 3, 85, 86, 87, 88, 89, 90, 91, 92, 93, 94, 95, 96, 97, 98, 99, 100, 101, 102, 103, 4, 107, 108, 109, 104, 105, 106, 12, 22, 32, 52, 62, 13, 23, 33, 53, 63, 14, 24, 34, 54, 64, 15, 25, 35, 55, 65, 16, 26, 36, 56, 66, 17, 27, 37, 57, 67, 18, 28, 38, 58, 68, 19, 29, 39, 59, 69, 20, 30, 40, 60, 70] (51, 1634) 70 [(0, bR 4), (1, bR 1), (2, bI 9)] [] M G := by
  refine v_iload_n (f := 2) 2 rfl dX1_init_70 ?_
  refine v_aload_n (f := 0) 0 rfl dX1_init_71 ?_
  refine g_getR (Or.inr (by rw [h45]; decide)) (kf := 5) (kz := 5) rfl (by decide) kd_4 rfl ⟨by decide, by decide⟩ rfl wf_1_13 dX1_init_72 ?_
  refine g_alen5 (by decide) kd_107 (by decide) dX1_init_75 ?_
  refine v_icmp_ge (tgt := 98) dX1_init_76 (by decide) (fun h => absurd h (by decide)) (fun _ => ?_)
  refine v_aload_n (f := 0) 0 rfl dX1_init_79 ?_
  refine g_getR (Or.inr (by rw [h45]; decide)) (kf := 5) (kz := 5) rfl (by decide) kd_4 rfl ⟨by decide, by decide⟩ rfl wf_1_13 dX1_init_80 ?_
  refine v_iload_n (f := 2) 2 rfl dX1_init_83 ?_
  refine g_new (c0 := 21) tyX0 kd_21 rfl rfl tyX0_ok dfX0 (by decide) (by rw [hG2]; decide) (fun i => h0 _ (by decide) i) (by decide +kernel) (by simp [b_nr]) (by simp [b_nr]) rfl wcl_1_11 wt_0 wn_0 ⟨by decide, by decide⟩ dX1_init_84 ?_
  refine v_dup rfl dX1_init_87 ?_
  refine g_callI (L1 := [0, 1, 72, 2, 76, 77, 78, 79, 80, 81, 82, 83, 84, 3, 85, 86, 87, 88, 89, 90, 91, 92, 93, 94, 95, 96, 97, 98, 99, 100, 101, 102, 103, 4, 107, 108, 109, 104, 105, 106, 12, 22, 32, 52, 62, 13, 23, 33, 53, 63, 14, 24, 34, 54, 64, 15, 25, 35, 55, 65, 16, 26, 36, 56, 66, 17, 27, 37, 57, 67, 18, 28, 38, 58, 68, 19, 29, 39, 59, 69, 20, 30, 40, 60, 70, 21, 31, 41, 61, 71]) (nA := 0) (As := []) (ix := 50) (c_X0_init9 hfg (fun c hc => h0 c (by revert c; decide)) hgh) rfl rfl (by rw [hG2]; decide) (by simp [b_iL]) (by simp [b_iL]) rfl rfl wc_X0_init wm_1_50 wi_X0_init wn_0 ⟨by decide, by decide, by decide⟩ rfl ⟨by decide, by decide⟩ ⟨by decide, by decide⟩ (Nat.le_of_ble_eq_true rfl) dX1_init_88 (fun r M2 hp => ?_)
  obtain ⟨rfl, rfl⟩ := hp
  dsimp only [Option.toList, List.cons_append, List.nil_append]
  refine g_aastore (by decide) kd_107 (by decide) (by decide) (by decide) kd_21 rfl dX1_init_91 ?_
  refine v_iincN (ls' := [(2, bI _), (0, bR _), (1, bR _)]) 2 rfl (by decide) ⟨by decide, by decide⟩ dX1_init_92 rfl ?_
  refine v_goto (tgt := 70) dX1_init_95 (by decide) ?_
  exact v_sub (ls2 := [(0, bR 4), (1, bR 1), (2, bI 10)]) [1, 2, 0] rfl kk
