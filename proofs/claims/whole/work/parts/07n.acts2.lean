def mac6 (M : bM) : bM := b_up (b_set (b_up (b_set (b_up (b_set (b_upl M [(4, 5, 1), (4, 6, 1), (4, 7, 1), (4, 1, 1)]) 104 (s_cd s_t1 11 61).2) 4 2 1) 105 (s_cd s_t2 7 39).2) 4 3 1) 106 (s_cd s_t3 7 30).2) 4 4 1
theorem mac6_ne {M : bM} {c : Nat} {i : Int} (h : c ≠ 4 ∧ c ≠ 104 ∧ c ≠ 105 ∧ c ≠ 106) : mac6 M c i = M c i := by
  unfold mac6
  rw [b_upc h.1, b_set_n h.2.2.2, b_upc h.1, b_set_n h.2.2.1, b_upc h.1, b_set_n h.2.1]
  exact b_upl_ne _ _ (fun u hu => by
    simp only [List.mem_cons, List.not_mem_nil, or_false] at hu
    rcases hu with rfl | rfl | rfl | rfl <;> exact h.1) i
theorem mac6_45 (M : bM) : mac6 M 4 5 = 1 := by
  unfold mac6
  simp (disch := decide) only [b_upi, b_set_n]
  rfl
def macs (M : bM) : Nat → bM
  | 0 => mac6 M
  | k + 1 => mact (macs M k) k
theorem macs_ne {M : bM} {c : Nat} {i : Int} : ∀ k : Nat, (c ≠ 4 ∧ c ≠ 104 ∧ c ≠ 105 ∧ c ≠ 106 ∧ c ≠ 107) → (∀ j, j < k → c ≠ 12 + j ∧ c ≠ 22 + j) → macs M k c i = M c i := by
  intro k h
  induction k with
  | zero => intro _; exact mac6_ne ⟨h.1, h.2.1, h.2.2.1, h.2.2.2.1⟩
  | succ k ih =>
    intro hj
    show mact (macs M k) k c i = M c i
    rw [mact_ne (hj k (by omega)).1 (hj k (by omega)).2 h.2.2.2.2]
    exact ih (fun j hk => hj j (by omega))
theorem macs_45 (M : bM) : ∀ k : Nat, macs M k 4 5 = 1 := by
  intro k
  induction k with
  | zero => exact mac6_45 M
  | succ k ih =>
    show mact (macs M k) k 4 5 = 1
    rw [mact_ne (by omega) (by omega) (by decide)]
    exact ih
theorem mact_107 {N : bM} {k : Nat} (h : k ≠ 1) (hk : k < 10) : mact N k 107 1 = N 107 1 := by
  unfold mact
  rw [b_upi (show (1 : Int) ≠ (k : Int) by omega), b_set_n (show 107 ≠ 22 + k by omega)]
  exact b_upl_ne _ _ (fun u hu => by
    simp only [List.mem_cons, List.not_mem_nil, or_false] at hu
    rcases hu with rfl | rfl | rfl | rfl <;> (show 107 ≠ 12 + k; omega)) 1
theorem macs_107 (M : bM) : macs M 10 107 1 ≠ 0 := by
  have h2 : ∀ k, 2 ≤ k → k ≤ 10 → macs M k 107 1 = 1 := by
    intro k
    induction k with
    | zero => intro h; omega
    | succ k ih =>
      intro hk hk2
      show mact (macs M k) k 107 1 = 1
      by_cases q : k = 1
      · subst q
        exact b_ups
      · rw [mact_107 q (by omega)]
        exact ih (by omega) (by omega)
  rw [h2 10 (by omega) (by omega)]
  decide
set_option maxRecDepth 20000 in
theorem c_X1_init {l : Launch} {E : bE} {M : bM} (hfg : b_fg E) (h0 : ∀ c ∈ ([107, 108, 109, 104, 105, 106, 12, 22, 32, 52, 62, 13, 23, 33, 53, 63, 14, 24, 34, 54, 64, 15, 25, 35, 55, 65, 16, 26, 36, 56, 66, 17, 27, 37, 57, 67, 18, 28, 38, 58, 68, 19, 29, 39, 59, 69, 20, 30, 40, 60, 70, 21, 31, 41, 61, 71] : List Nat), ∀ i, M c i = 0) (hgh : ∀ k : Nat, k < 10 → M b_G (62 + k : Nat) = 0) : b_CL l E xX1_init yX1_init b_La [0, 1, 72, 2, 76, 77, 78, 79, 80, 81, 82, 83, 84, 3, 85, 86, 87, 88, 89, 90, 91, 92, 93, 94, 95, 96, 97, 98, 99, 100, 101, 102, 103, 4, 107, 108, 109, 104, 105, 106, 12, 22, 32, 52, 62, 13, 23, 33, 53, 63, 14, 24, 34, 54, 64, 15, 25, 35, 55, 65, 16, 26, 36, 56, 66, 17, 27, 37, 57, 67, 18, 28, 38, 58, 68, 19, 29, 39, 59, 69, 20, 30, 40, 60, 70, 21, 31, 41, 61, 71] [bR 4, bR 1] M (fun r M' => r = none ∧ M' = b_up (macs M 10) 4 8 13) := by
  have hj := hfg.1
  have hao := hfg.2.2.2.2.2.2.2.2.2.2.2.2.2.2.2.2.2.2.2.2.2
  have hs1 := hfg.2.2.1
  have hs2 := hfg.2.2.2.1
  have hs3 := hfg.2.2.2.2.1
  have hr1 := hfg.2.2.2.2.2.2.2.1
  have hr2 := hfg.2.2.2.2.2.2.2.2.1
  have hr3 := hfg.2.2.2.2.2.2.2.2.2.1
  refine b_met (by decide) ⟨rfl, rfl⟩ (Nat.le_of_ble_eq_true rfl) (fun hA hRg => ?_)
  refine v_sub (ls2 := [(0, bR _), (1, bR _)]) [0, 1] rfl ?_
  refine v_aload_n (f := 0) 0 rfl dX1_init_0 ?_
  refine g_objInit wm_1_3 wob_i wob_c (Nat.le_of_ble_eq_true rfl) ⟨by decide, by decide⟩ dX1_init_1 ?_
  refine v_aload_n (f := 0) 0 rfl dX1_init_4 ?_
  refine v_bipush ⟨by decide, by decide⟩ (by decide) dX1_init_5 ?_
  refine g_anew kd_107 (by decide) (show (107 : Nat) ∉ b_La from by decide) (by intro i; (try simp (disch := decide) only [b_upc, b_set_n]); exact h0 _ (by decide) i) (by decide +kernel) (by simp [b_nr]) (by simp [b_nr]) rfl (by decide) hao wcl_1_11 ⟨by decide, by decide⟩ dX1_init_7 ?_
  refine g_putR (kf := 5) (kz := 5) rfl (by decide) kd_4 rfl ⟨by decide, by decide⟩ rfl (by decide) rfl rfl wf_1_13 rfl (ty := tyX1 5) rfl (fun _ => ⟨rfl, rfl⟩) dX1_init_10 ?_
  refine v_aload_n (f := 0) 0 rfl dX1_init_13 ?_
  refine v_sipush ⟨by decide, by decide⟩ (by decide) dX1_init_14 ?_
  refine g_newa_long kd_108 (by decide) (show (108 : Nat) ∉ b_La from by decide) (by intro i; (try simp (disch := decide) only [b_upc, b_set_n]); exact h0 _ (by decide) i) (by decide +kernel) (by simp [b_nr]) (by simp [b_nr]) rfl (by decide) wa_long ⟨by decide, by decide⟩ dX1_init_17 ?_
  refine g_putR (kf := 6) (kz := 6) rfl (by decide) kd_4 rfl ⟨by decide, by decide⟩ rfl (by decide) rfl rfl wf_1_19 rfl (ty := tyX1 6) rfl (fun _ => ⟨rfl, rfl⟩) dX1_init_19 ?_
  refine v_aload_n (f := 0) 0 rfl dX1_init_22 ?_
  refine v_bipush ⟨by decide, by decide⟩ (by decide) dX1_init_23 ?_
  refine g_newa_int kd_109 (by decide) (show (109 : Nat) ∉ b_La from by decide) (by intro i; (try simp (disch := decide) only [b_upc, b_set_n]); exact h0 _ (by decide) i) (by decide +kernel) (by simp [b_nr]) (by simp [b_nr]) rfl (by decide) wa_int ⟨by decide, by decide⟩ dX1_init_25 ?_
  refine g_putR (kf := 7) (kz := 7) rfl (by decide) kd_4 rfl ⟨by decide, by decide⟩ rfl (by decide) rfl rfl wf_1_23 rfl (ty := tyX1 7) rfl (fun _ => ⟨rfl, rfl⟩) dX1_init_27 ?_
  refine v_aload_n (f := 0) 0 rfl dX1_init_30 ?_
  refine v_aload_n (f := 1) 1 rfl dX1_init_31 ?_
  refine g_putR (kf := 1) (kz := 1) rfl (by decide) kd_4 rfl ⟨by decide, by decide⟩ rfl (by decide) rfl rfl wf_1_27 rfl (ty := tyX1 1) rfl (fun _ => ⟨rfl, rfl⟩) dX1_init_32 ?_
  refine v_aload_n (f := 0) 0 rfl dX1_init_35 ?_
  refine f_ldcS (c1 := 2001) (by decide) hr1 dX1_init_36 ?_
  refine v_bipush ⟨by decide, by decide⟩ (by decide) dX1_init_38 ?_
  refine g_callS1 (nA := 2) (ix := 33) (c_codes (c0 := 104) (by decide) (by decide +kernel) (by decide) (by intro i; (try simp (disch := decide) only [b_upc, b_set_n]); exact h0 _ (by decide) i) kd_104 rfl (by decide) hj hs1 (by decide)) rfl rfl (show ∀ c ∈ b_La, c ∈ ([0, 1, 72, 2, 76, 77, 78, 79, 80, 81, 82, 83, 84, 3, 85, 86, 87, 88, 89, 90, 91, 92, 93, 94, 95, 96, 97, 98, 99, 100, 101, 102, 103, 4, 107, 108, 109] : List Nat) from by decide) (by simp [b_iL]) (by simp [b_iL]) wc_X10_codes wm_1_33 wi_X10_codes wn_10 ⟨by decide, by decide, by decide⟩ rfl ⟨by decide, by decide⟩ ⟨by decide, by decide⟩ (Nat.le_of_ble_eq_true rfl) dX1_init_40 (fun r M2 hp => ?_)
  obtain ⟨rfl, rfl⟩ := hp
  dsimp only [Option.toList, List.cons_append, List.nil_append]
  refine g_putR (kf := 2) (kz := 2) rfl (by decide) kd_4 rfl ⟨by decide, by decide⟩ rfl (by decide) rfl rfl wf_1_37 rfl (ty := tyX1 2) rfl (fun _ => ⟨rfl, rfl⟩) dX1_init_43 ?_
  refine v_aload_n (f := 0) 0 rfl dX1_init_46 ?_
  refine f_ldcS (c1 := 2002) (by decide) hr2 dX1_init_47 ?_
  refine v_bipush ⟨by decide, by decide⟩ (by decide) dX1_init_49 ?_
  refine g_callS1 (nA := 2) (ix := 33) (c_codes (c0 := 105) (by decide) (by decide +kernel) (by decide) (by intro i; (try simp (disch := decide) only [b_upc, b_set_n]); exact h0 _ (by decide) i) kd_105 rfl (by decide) hj hs2 (by decide)) rfl rfl (show ∀ c ∈ b_La, c ∈ ([0, 1, 72, 2, 76, 77, 78, 79, 80, 81, 82, 83, 84, 3, 85, 86, 87, 88, 89, 90, 91, 92, 93, 94, 95, 96, 97, 98, 99, 100, 101, 102, 103, 4, 107, 108, 109, 104] : List Nat) from by decide) (by simp [b_iL]) (by simp [b_iL]) wc_X10_codes wm_1_33 wi_X10_codes wn_10 ⟨by decide, by decide, by decide⟩ rfl ⟨by decide, by decide⟩ ⟨by decide, by decide⟩ (Nat.le_of_ble_eq_true rfl) dX1_init_51 (fun r M2 hp => ?_)
  obtain ⟨rfl, rfl⟩ := hp
  dsimp only [Option.toList, List.cons_append, List.nil_append]
  refine g_putR (kf := 3) (kz := 3) rfl (by decide) kd_4 rfl ⟨by decide, by decide⟩ rfl (by decide) rfl rfl wf_1_42 rfl (ty := tyX1 3) rfl (fun _ => ⟨rfl, rfl⟩) dX1_init_54 ?_
  refine v_aload_n (f := 0) 0 rfl dX1_init_57 ?_
  refine f_ldcS (c1 := 2003) (by decide) hr3 dX1_init_58 ?_
  refine v_bipush ⟨by decide, by decide⟩ (by decide) dX1_init_60 ?_
  refine g_callS1 (nA := 2) (ix := 33) (c_codes (c0 := 106) (by decide) (by decide +kernel) (by decide) (by intro i; (try simp (disch := decide) only [b_upc, b_set_n]); exact h0 _ (by decide) i) kd_106 rfl (by decide) hj hs3 (by decide)) rfl rfl (show ∀ c ∈ b_La, c ∈ ([0, 1, 72, 2, 76, 77, 78, 79, 80, 81, 82, 83, 84, 3, 85, 86, 87, 88, 89, 90, 91, 92, 93, 94, 95, 96, 97, 98, 99, 100, 101, 102, 103, 4, 107, 108, 109, 104, 105] : List Nat) from by decide) (by simp [b_iL]) (by simp [b_iL]) wc_X10_codes wm_1_33 wi_X10_codes wn_10 ⟨by decide, by decide, by decide⟩ rfl ⟨by decide, by decide⟩ ⟨by decide, by decide⟩ (Nat.le_of_ble_eq_true rfl) dX1_init_62 (fun r M2 hp => ?_)
  obtain ⟨rfl, rfl⟩ := hp
  dsimp only [Option.toList, List.cons_append, List.nil_append]
  refine g_putR (kf := 4) (kz := 4) rfl (by decide) kd_4 rfl ⟨by decide, by decide⟩ rfl (by decide) rfl rfl wf_1_47 rfl (ty := tyX1 4) rfl (fun _ => ⟨rfl, rfl⟩) dX1_init_65 ?_
  refine v_iconst ⟨by decide, by decide⟩ dX1_init_68 ?_
  refine v_istore_n (g := 2) (i := 2) (ls' := [(2, bI _), (0, bR _), (1, bR _)]) rfl (by decide) dX1_init_69 rfl ?_
  refine v_sub (ls2 := [(0, bR _), (1, bR _), (2, bI _)]) [1, 2, 0] rfl ?_
  refine v_widen (k2 := (6, 1049)) ⟨by decide, by decide⟩ ?_
  refine v_mem (M2 := macs M 0) rfl ?_
  refine w_acts0 rfl hfg (fun c hc i => by rw [macs_ne 0 (by revert c; decide) (by revert c; decide)]; exact h0 c (by revert c; decide) i) (by rw [macs_ne 0 (by decide) (by decide)]; exact hgh 0 (by omega)) (macs_45 M 0) ?_
  refine v_mem (M2 := macs M 1) rfl ?_
  refine w_acts1 rfl hfg (fun c hc i => by rw [macs_ne 1 (by revert c; decide) (by revert c; decide)]; exact h0 c (by revert c; decide) i) (by rw [macs_ne 1 (by decide) (by decide)]; exact hgh 1 (by omega)) (macs_45 M 1) ?_
  refine v_mem (M2 := macs M 2) rfl ?_
  refine w_acts2 rfl hfg (fun c hc i => by rw [macs_ne 2 (by revert c; decide) (by revert c; decide)]; exact h0 c (by revert c; decide) i) (by rw [macs_ne 2 (by decide) (by decide)]; exact hgh 2 (by omega)) (macs_45 M 2) ?_
  refine v_mem (M2 := macs M 3) rfl ?_
  refine w_acts3 rfl hfg (fun c hc i => by rw [macs_ne 3 (by revert c; decide) (by revert c; decide)]; exact h0 c (by revert c; decide) i) (by rw [macs_ne 3 (by decide) (by decide)]; exact hgh 3 (by omega)) (macs_45 M 3) ?_
  refine v_mem (M2 := macs M 4) rfl ?_
  refine w_acts4 rfl hfg (fun c hc i => by rw [macs_ne 4 (by revert c; decide) (by revert c; decide)]; exact h0 c (by revert c; decide) i) (by rw [macs_ne 4 (by decide) (by decide)]; exact hgh 4 (by omega)) (macs_45 M 4) ?_
  refine v_mem (M2 := macs M 5) rfl ?_
  refine w_acts5 rfl hfg (fun c hc i => by rw [macs_ne 5 (by revert c; decide) (by revert c; decide)]; exact h0 c (by revert c; decide) i) (by rw [macs_ne 5 (by decide) (by decide)]; exact hgh 5 (by omega)) (macs_45 M 5) ?_
  refine v_mem (M2 := macs M 6) rfl ?_
  refine w_acts6 rfl hfg (fun c hc i => by rw [macs_ne 6 (by revert c; decide) (by revert c; decide)]; exact h0 c (by revert c; decide) i) (by rw [macs_ne 6 (by decide) (by decide)]; exact hgh 6 (by omega)) (macs_45 M 6) ?_
  refine v_mem (M2 := macs M 7) rfl ?_
  refine w_acts7 rfl hfg (fun c hc i => by rw [macs_ne 7 (by revert c; decide) (by revert c; decide)]; exact h0 c (by revert c; decide) i) (by rw [macs_ne 7 (by decide) (by decide)]; exact hgh 7 (by omega)) (macs_45 M 7) ?_
  refine v_mem (M2 := macs M 8) rfl ?_
  refine w_acts8 rfl hfg (fun c hc i => by rw [macs_ne 8 (by revert c; decide) (by revert c; decide)]; exact h0 c (by revert c; decide) i) (by rw [macs_ne 8 (by decide) (by decide)]; exact hgh 8 (by omega)) (macs_45 M 8) ?_
  refine v_mem (M2 := macs M 9) rfl ?_
  refine w_acts9 rfl hfg (fun c hc i => by rw [macs_ne 9 (by revert c; decide) (by revert c; decide)]; exact h0 c (by revert c; decide) i) (by rw [macs_ne 9 (by decide) (by decide)]; exact hgh 9 (by omega)) (macs_45 M 9) ?_
  refine v_mem (M2 := macs M 10) rfl ?_
  refine v_iload_n (f := 2) 2 rfl dX1_init_70 ?_
  refine v_aload_n (f := 0) 0 rfl dX1_init_71 ?_
  refine g_getR (Or.inr (by rw [macs_45]; decide)) (kf := 5) (kz := 5) rfl (by decide) kd_4 rfl ⟨by decide, by decide⟩ rfl wf_1_13 dX1_init_72 ?_
  refine g_alen5 (by decide) kd_107 (by decide) dX1_init_75 ?_
  refine v_icmp_ge (tgt := 98) dX1_init_76 (by decide) (fun _ => ?_) (fun h => absurd (by decide) h)
  refine v_aload_n (f := 0) 0 rfl dX1_init_98 ?_
  refine v_aload_n (f := 0) 0 rfl dX1_init_99 ?_
  refine g_getR (Or.inr (by rw [macs_45]; decide)) (kf := 5) (kz := 5) rfl (by decide) kd_4 rfl ⟨by decide, by decide⟩ rfl wf_1_13 dX1_init_100 ?_
  refine v_iconst ⟨by decide, by decide⟩ dX1_init_103 ?_
  refine g_aaload (Or.inr (macs_107 M)) (by decide) kd_107 (by decide) (by decide) dX1_init_104 ?_
  refine g_putD (d := 13) (kf := 8) (kz := 8) rfl (by decide) kd_4 rfl ⟨by decide, by decide⟩ rfl (by decide) (by decide) (by decide) wf_1_51 rfl (ty := tyX1 8) rfl (fun _ => ⟨rfl, rfl⟩) dX1_init_105 ?_
  exact v_return rfl dX1_init_108 ⟨by decide, by decide⟩ ⟨rfl, rfl⟩
