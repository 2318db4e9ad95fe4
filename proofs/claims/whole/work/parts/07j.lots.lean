def s_tx0 : List Nat := [110, 32, 101, 32, 115, 32, 119]
def s_t0 (j : Int) : Int := ((s_tx0.getD j.toNat 0 : Nat) : Int)
def s_tx1 : List Nat := [108, 101, 97, 115, 116, 32, 115, 117, 114, 101, 32, 100, 111, 117, 98, 116, 32, 103, 97, 112, 32, 110, 111, 116, 105, 99, 101, 32, 108, 111, 110, 103, 32, 121, 101, 97, 114, 115, 32, 111, 97, 116, 104, 115, 32, 104, 101, 105, 114, 115, 32, 102, 117, 110, 100, 32, 112, 114, 111, 111, 102]
def s_t1 (j : Int) : Int := ((s_tx1.getD j.toNat 0 : Nat) : Int)
def s_tx2 : List Nat := [100, 101, 101, 100, 32, 99, 111, 112, 121, 32, 105, 110, 100, 101, 120, 32, 111, 97, 116, 104, 32, 116, 97, 120, 32, 112, 108, 97, 116, 101, 32, 97, 98, 115, 116, 114, 97, 99, 116]
def s_t2 (j : Int) : Int := ((s_tx2.getD j.toNat 0 : Nat) : Int)
def s_tx3 : List Nat := [111, 114, 32, 97, 110, 100, 32, 110, 111, 116, 32, 97, 98, 111, 118, 101, 32, 98, 101, 108, 111, 119, 32, 105, 115, 32, 119, 104, 101, 110]
def s_t3 (j : Int) : Int := ((s_tx3.getD j.toNat 0 : Nat) : Int)
def s_tx4 : List Nat := [112, 114, 111, 111, 102, 32, 108, 101, 97, 115, 116, 32, 115, 117, 114, 101, 32, 100, 111, 117, 98, 116, 32, 103, 97, 112, 32, 110, 111, 116, 105, 99, 101, 32, 108, 111, 110, 103, 32, 121, 101, 97, 114, 115, 32, 111, 97, 116, 104, 115, 32, 104, 101, 105, 114, 115, 32, 102, 117, 110, 100, 32, 100, 101, 101, 100, 32, 99, 111, 112, 121, 32, 105, 110, 100, 101, 120, 32, 111, 97, 116, 104, 32, 116, 97, 120, 32, 112, 108, 97, 116, 101, 32, 97, 98, 115, 116, 114, 97, 99, 116, 32, 111, 114, 32, 97, 110, 100, 32, 110, 111, 116, 32, 97, 98, 111, 118, 101, 32, 98, 101, 108, 111, 119, 32, 105, 115, 32, 119, 104, 101, 110, 32, 110, 32, 101, 32, 115, 32, 119, 32]
def s_t4 (j : Int) : Int := ((s_tx4.getD j.toNat 0 : Nat) : Int)
def s_u0 (j : Int) : Int := ((([1, 20, 8, 2, 30, 20, 10, 2, 0, 0] : List Nat).getD j.toNat 0 : Nat) : Int)
def s_u1 (j : Int) : Int := ((([0, 0, 0, 0, 0, 1, 1, 0, 0, 0] : List Nat).getD j.toNat 0 : Nat) : Int)
def s_u2 (j : Int) : Int := ((([999, 999, 999, 20, 999, 99, 99, 20, 1, 9999] : List Nat).getD j.toNat 0 : Nat) : Int)
/-- what is known of the state in which all began -/
def b_fg (E : bE) : Prop := b_jdk E ∧ b_str E 2000 2010 7 s_t0 ∧ b_str E 2001 2011 61 s_t1 ∧ b_str E 2002 2012 39 s_t2 ∧ b_str E 2003 2013 30 s_t3 ∧ b_str E 2004 2014 141 s_t4 ∧ vk_R "BurntHall$Lots" 9 "n e s w" (E.2.2.2 2000) (b_S0 E) ∧ vk_R "BurntHall$Acts" 31 "least sure doubt gap notice long years oaths heirs fund proof" (E.2.2.2 2001) (b_S0 E) ∧ vk_R "BurntHall$Acts" 40 "deed copy index oath tax plate abstract" (E.2.2.2 2002) (b_S0 E) ∧ vk_R "BurntHall$Acts" 45 "or and not above below is when" (E.2.2.2 2003) (b_S0 E) ∧ vk_R "BurntHallModel" 295 "proof least sure doubt gap notice long years oaths heirs fund deed copy index oath tax plate abstract or and not above below is when n e s w " (E.2.2.2 2004) (b_S0 E) ∧ va_Z "BurntHall$Act" "UNTOLD" "[I" (.ref (E.2.2.2 2020)) (b_A0 E) (b_S0 E) (b_S0 E).heap ∧ va_T .int (E.2.2.2 2020) 10 (fun j => .int (Int32.ofInt (s_u0 j))) (b_A0 E) (b_S0 E) (b_S0 E).heap ∧ va_Z "BurntHall$Acts" "LOWEST" "[I" (.ref (E.2.2.2 2021)) (b_A0 E) (b_S0 E) (b_S0 E).heap ∧ va_T .int (E.2.2.2 2021) 10 (fun j => .int (Int32.ofInt (s_u1 j))) (b_A0 E) (b_S0 E) (b_S0 E).heap ∧ va_Z "BurntHall$Acts" "HIGHEST" "[I" (.ref (E.2.2.2 2022)) (b_A0 E) (b_S0 E) (b_S0 E).heap ∧ va_T .int (E.2.2.2 2022) 10 (fun j => .int (Int32.ofInt (s_u2 j))) (b_A0 E) (b_S0 E) (b_S0 E).heap ∧ va_Nw (Cond.methodLinkNest "BurntHall" 9 ⟨"BurntHall$Tape", "<init>", "()V"⟩ "BurntHall") (b_S0 E) ∧ va_Nw (Cond.methodLinkNest "BurntHall" 18 ⟨"BurntHall$People", "<init>", "()V"⟩ "BurntHall") (b_S0 E) ∧ va_Nw (Cond.methodLinkNest "BurntHall" 25 ⟨"BurntHall$Lots", "<init>", "()V"⟩ "BurntHall") (b_S0 E) ∧ va_Nw (Cond.methodLinkNest "BurntHall" 41 ⟨"BurntHall$Papers", "<init>", "()V"⟩ "BurntHall") (b_S0 E) ∧ va_AO "BurntHall$Act" (b_S0 E)
theorem s_u0_r (i : Int) : b_r32 (s_u0 i) := by
  unfold s_u0
  have h : ∀ n : Nat, (([1, 20, 8, 2, 30, 20, 10, 2, 0, 0] : List Nat).getD n 0) ≤ 9999 := by
    intro n
    rcases Nat.lt_or_ge n 10 with q | q
    · revert n; decide
    · rw [List.getD_eq_getElem?_getD, List.getElem?_eq_none (by simpa using q)]; decide
  have := h i.toNat
  exact ⟨by omega, by omega⟩
theorem s_u1_r (i : Int) : b_r32 (s_u1 i) := by
  unfold s_u1
  have h : ∀ n : Nat, (([0, 0, 0, 0, 0, 1, 1, 0, 0, 0] : List Nat).getD n 0) ≤ 9999 := by
    intro n
    rcases Nat.lt_or_ge n 10 with q | q
    · revert n; decide
    · rw [List.getD_eq_getElem?_getD, List.getElem?_eq_none (by simpa using q)]; decide
  have := h i.toNat
  exact ⟨by omega, by omega⟩
theorem s_u2_r (i : Int) : b_r32 (s_u2 i) := by
  unfold s_u2
  have h : ∀ n : Nat, (([999, 999, 999, 20, 999, 99, 99, 20, 1, 9999] : List Nat).getD n 0) ≤ 9999 := by
    intro n
    rcases Nat.lt_or_ge n 10 with q | q
    · revert n; decide
    · rw [List.getD_eq_getElem?_getD, List.getElem?_eq_none (by simpa using q)]; decide
  have := h i.toNat
  exact ⟨by omega, by omega⟩
abbrev xX5_init : bX := ("BurntHall$Lots", prog_7_method_1_code, 1, (Option.none : Option Jvm.ClassFile.FieldType), b_rm 7 19 1459, 1, "<init>")
abbrev yX5_init : MethodName := ⟨"BurntHall$Lots", "<init>", "()V"⟩
theorem dX5_init_0 : decode prog_7_method_1_code 0 = .ok (.aload_n 0, 1) := by decide +kernel
theorem dX5_init_1 : decode prog_7_method_1_code 1 = .ok (.invokespecial 3, 3) := by decide +kernel
theorem dX5_init_4 : decode prog_7_method_1_code 4 = .ok (.aload_n 0, 1) := by decide +kernel
theorem dX5_init_5 : decode prog_7_method_1_code 5 = .ok (.ldc 9, 2) := by decide +kernel
theorem dX5_init_7 : decode prog_7_method_1_code 7 = .ok (.iconst 4, 1) := by decide +kernel
theorem dX5_init_8 : decode prog_7_method_1_code 8 = .ok (.invokestatic 11, 3) := by decide +kernel
theorem dX5_init_11 : decode prog_7_method_1_code 11 = .ok (.putfield 17, 3) := by decide +kernel
theorem dX5_init_14 : decode prog_7_method_1_code 14 = .ok (.aload_n 0, 1) := by decide +kernel
theorem dX5_init_15 : decode prog_7_method_1_code 15 = .ok (.bipush 60, 2) := by decide +kernel
theorem dX5_init_17 : decode prog_7_method_1_code 17 = .ok (.newarray .int, 2) := by decide +kernel
theorem dX5_init_19 : decode prog_7_method_1_code 19 = .ok (.putfield 23, 3) := by decide +kernel
theorem dX5_init_22 : decode prog_7_method_1_code 22 = .ok (.aload_n 0, 1) := by decide +kernel
theorem dX5_init_23 : decode prog_7_method_1_code 23 = .ok (.bipush 60, 2) := by decide +kernel
theorem dX5_init_25 : decode prog_7_method_1_code 25 = .ok (.newarray .int, 2) := by decide +kernel
theorem dX5_init_27 : decode prog_7_method_1_code 27 = .ok (.putfield 27, 3) := by decide +kernel
theorem dX5_init_30 : decode prog_7_method_1_code 30 = .ok (.aload_n 0, 1) := by decide +kernel
theorem dX5_init_31 : decode prog_7_method_1_code 31 = .ok (.bipush 60, 2) := by decide +kernel
theorem dX5_init_33 : decode prog_7_method_1_code 33 = .ok (.newarray .int, 2) := by decide +kernel
theorem dX5_init_35 : decode prog_7_method_1_code 35 = .ok (.putfield 30, 3) := by decide +kernel
theorem dX5_init_38 : decode prog_7_method_1_code 38 = .ok (.aload_n 0, 1) := by decide +kernel
theorem dX5_init_39 : decode prog_7_method_1_code 39 = .ok (.bipush 60, 2) := by decide +kernel
theorem dX5_init_41 : decode prog_7_method_1_code 41 = .ok (.newarray .int, 2) := by decide +kernel
theorem dX5_init_43 : decode prog_7_method_1_code 43 = .ok (.putfield 33, 3) := by decide +kernel
theorem dX5_init_46 : decode prog_7_method_1_code 46 = .ok (.aload_n 0, 1) := by decide +kernel
theorem dX5_init_47 : decode prog_7_method_1_code 47 = .ok (.bipush 60, 2) := by decide +kernel
theorem dX5_init_49 : decode prog_7_method_1_code 49 = .ok (.newarray .int, 2) := by decide +kernel
theorem dX5_init_51 : decode prog_7_method_1_code 51 = .ok (.putfield 36, 3) := by decide +kernel
theorem dX5_init_54 : decode prog_7_method_1_code 54 = .ok (.aload_n 0, 1) := by decide +kernel
theorem dX5_init_55 : decode prog_7_method_1_code 55 = .ok (.bipush 60, 2) := by decide +kernel
theorem dX5_init_57 : decode prog_7_method_1_code 57 = .ok (.newarray .long, 2) := by decide +kernel
theorem dX5_init_59 : decode prog_7_method_1_code 59 = .ok (.putfield 39, 3) := by decide +kernel
theorem dX5_init_62 : decode prog_7_method_1_code 62 = .ok (.aload_n 0, 1) := by decide +kernel
theorem dX5_init_63 : decode prog_7_method_1_code 63 = .ok (.bipush 60, 2) := by decide +kernel
theorem dX5_init_65 : decode prog_7_method_1_code 65 = .ok (.newarray .int, 2) := by decide +kernel
theorem dX5_init_67 : decode prog_7_method_1_code 67 = .ok (.putfield 42, 3) := by decide +kernel
theorem dX5_init_70 : decode prog_7_method_1_code 70 = .ok (.aload_n 0, 1) := by decide +kernel
theorem dX5_init_71 : decode prog_7_method_1_code 71 = .ok (.bipush 60, 2) := by decide +kernel
theorem dX5_init_73 : decode prog_7_method_1_code 73 = .ok (.newarray .int, 2) := by decide +kernel
theorem dX5_init_75 : decode prog_7_method_1_code 75 = .ok (.putfield 45, 3) := by decide +kernel
theorem dX5_init_78 : decode prog_7_method_1_code 78 = .ok (.aload_n 0, 1) := by decide +kernel
theorem dX5_init_79 : decode prog_7_method_1_code 79 = .ok (.bipush 60, 2) := by decide +kernel
theorem dX5_init_81 : decode prog_7_method_1_code 81 = .ok (.newarray .int, 2) := by decide +kernel
theorem dX5_init_83 : decode prog_7_method_1_code 83 = .ok (.putfield 48, 3) := by decide +kernel
theorem dX5_init_86 : decode prog_7_method_1_code 86 = .ok (.aload_n 0, 1) := by decide +kernel
theorem dX5_init_87 : decode prog_7_method_1_code 87 = .ok (.bipush 60, 2) := by decide +kernel
theorem dX5_init_89 : decode prog_7_method_1_code 89 = .ok (.newarray .int, 2) := by decide +kernel
theorem dX5_init_91 : decode prog_7_method_1_code 91 = .ok (.putfield 51, 3) := by decide +kernel
theorem dX5_init_94 : decode prog_7_method_1_code 94 = .ok (.aload_n 0, 1) := by decide +kernel
theorem dX5_init_95 : decode prog_7_method_1_code 95 = .ok (.bipush 60, 2) := by decide +kernel
theorem dX5_init_97 : decode prog_7_method_1_code 97 = .ok (.newarray .int, 2) := by decide +kernel
theorem dX5_init_99 : decode prog_7_method_1_code 99 = .ok (.putfield 54, 3) := by decide +kernel
theorem dX5_init_102 : decode prog_7_method_1_code 102 = .ok (.aload_n 0, 1) := by decide +kernel
theorem dX5_init_103 : decode prog_7_method_1_code 103 = .ok (.sipush 720, 3) := by decide +kernel
theorem dX5_init_106 : decode prog_7_method_1_code 106 = .ok (.newarray .int, 2) := by decide +kernel
theorem dX5_init_108 : decode prog_7_method_1_code 108 = .ok (.putfield 57, 3) := by decide +kernel
theorem dX5_init_111 : decode prog_7_method_1_code 111 = .ok (.aload_n 0, 1) := by decide +kernel
theorem dX5_init_112 : decode prog_7_method_1_code 112 = .ok (.bipush 12, 2) := by decide +kernel
theorem dX5_init_114 : decode prog_7_method_1_code 114 = .ok (.newarray .int, 2) := by decide +kernel
theorem dX5_init_116 : decode prog_7_method_1_code 116 = .ok (.putfield 60, 3) := by decide +kernel
theorem dX5_init_119 : decode prog_7_method_1_code 119 = .ok (.aload_n 0, 1) := by decide +kernel
theorem dX5_init_120 : decode prog_7_method_1_code 120 = .ok (.iconst 4, 1) := by decide +kernel
theorem dX5_init_121 : decode prog_7_method_1_code 121 = .ok (.newarray .int, 2) := by decide +kernel
theorem dX5_init_123 : decode prog_7_method_1_code 123 = .ok (.putfield 63, 3) := by decide +kernel
theorem dX5_init_126 : decode prog_7_method_1_code 126 = .ok (.aload_n 0, 1) := by decide +kernel
theorem dX5_init_127 : decode prog_7_method_1_code 127 = .ok (.bipush 13, 2) := by decide +kernel
theorem dX5_init_129 : decode prog_7_method_1_code 129 = .ok (.newarray .int, 2) := by decide +kernel
theorem dX5_init_131 : decode prog_7_method_1_code 131 = .ok (.putfield 66, 3) := by decide +kernel
theorem dX5_init_134 : decode prog_7_method_1_code 134 = .ok (.aload_n 0, 1) := by decide +kernel
theorem dX5_init_135 : decode prog_7_method_1_code 135 = .ok (.bipush 13, 2) := by decide +kernel
theorem dX5_init_137 : decode prog_7_method_1_code 137 = .ok (.newarray .int, 2) := by decide +kernel
theorem dX5_init_139 : decode prog_7_method_1_code 139 = .ok (.putfield 69, 3) := by decide +kernel
theorem dX5_init_142 : decode prog_7_method_1_code 142 = .ok (.aload_n 0, 1) := by decide +kernel
theorem dX5_init_143 : decode prog_7_method_1_code 143 = .ok (.bipush 13, 2) := by decide +kernel
theorem dX5_init_145 : decode prog_7_method_1_code 145 = .ok (.newarray .int, 2) := by decide +kernel
theorem dX5_init_147 : decode prog_7_method_1_code 147 = .ok (.putfield 72, 3) := by decide +kernel
theorem dX5_init_150 : decode prog_7_method_1_code 150 = .ok (.aload_n 0, 1) := by decide +kernel
theorem dX5_init_151 : decode prog_7_method_1_code 151 = .ok (.bipush 13, 2) := by decide +kernel
theorem dX5_init_153 : decode prog_7_method_1_code 153 = .ok (.newarray .int, 2) := by decide +kernel
theorem dX5_init_155 : decode prog_7_method_1_code 155 = .ok (.putfield 75, 3) := by decide +kernel
theorem dX5_init_158 : decode prog_7_method_1_code 158 = .ok (.return_, 1) := by decide +kernel
theorem c_X5_init {l : Launch} {E : bE} {M : bM} (hfg : b_fg E) (h0 : ∀ c ∈ ([85, 86, 87, 88, 89, 90, 91, 92, 93, 94, 95, 96, 97, 98, 99, 100, 101, 102, 103] : List Nat), ∀ i, M c i = 0) : b_CL l E xX5_init yX5_init [0, 1, 72, 2, 76, 77, 78, 79, 80, 81, 82, 83, 84, 3] [0, 1, 72, 2, 76, 77, 78, 79, 80, 81, 82, 83, 84, 3, 85, 86, 87, 88, 89, 90, 91, 92, 93, 94, 95, 96, 97, 98, 99, 100, 101, 102, 103] [bR 3] M (fun r M' => r = none ∧ M' = b_upl (b_set M 85 (s_cd s_t0 4 7).2) [(3, 1, 1), (3, 2, 1), (3, 3, 1), (3, 4, 1), (3, 5, 1), (3, 6, 1), (3, 7, 1), (3, 8, 1), (3, 9, 1), (3, 10, 1), (3, 11, 1), (3, 12, 1), (3, 13, 1), (3, 14, 1), (3, 15, 1), (3, 16, 1), (3, 17, 1), (3, 18, 1), (3, 19, 1)]) := by
  have hj := hfg.1
  have hs0 := hfg.2.1
  refine b_met (by decide) ⟨rfl, rfl⟩ (Nat.le_of_ble_eq_true rfl) (fun hA hRg => ?_)
  refine v_sub (ls2 := [(0, bR _)]) [0] rfl ?_
  refine v_aload_n (f := 0) 0 rfl dX5_init_0 ?_
  refine g_objInit wm_5_3 wob_i wob_c (Nat.le_of_ble_eq_true rfl) ⟨by decide, by decide⟩ dX5_init_1 ?_
  refine v_aload_n (f := 0) 0 rfl dX5_init_4 ?_
  refine f_ldcS (c1 := 2000) (by decide) hfg.2.2.2.2.2.2.1 dX5_init_5 ?_
  refine v_iconst ⟨by decide, by decide⟩ dX5_init_7 ?_
  refine g_callS1 (nA := 2) (ix := 11) (c_codes (c0 := 85) (by decide) (by decide +kernel) (by decide) (fun i => h0 _ (by decide) i) kd_85 rfl (by decide) hj hs0 (by decide)) rfl rfl (show ∀ c ∈ ([0, 1, 72, 2, 76, 77, 78, 79, 80, 81, 82, 83, 84, 3] : List Nat), c ∈ ([0, 1, 72, 2, 76, 77, 78, 79, 80, 81, 82, 83, 84, 3] : List Nat) from by decide) (by simp [b_iL]) (by simp [b_iL]) wc_X10_codes wm_5_11 wi_X10_codes wn_10 ⟨by decide, by decide, by decide⟩ rfl ⟨by decide, by decide⟩ ⟨by decide, by decide⟩ (Nat.le_of_ble_eq_true rfl) dX5_init_8 (fun r M2 hp => ?_)
  obtain ⟨rfl, rfl⟩ := hp
  dsimp only [Option.toList, List.cons_append, List.nil_append]
  refine g_putR (kf := 1) (kz := 1) rfl (by decide) kd_3 rfl ⟨by decide, by decide⟩ rfl (by decide) rfl rfl wf_5_17 rfl (ty := tyX5 1) rfl (fun _ => ⟨rfl, rfl⟩) dX5_init_11 ?_
  refine v_aload_n (f := 0) 0 rfl dX5_init_14 ?_
  refine v_bipush ⟨by decide, by decide⟩ (by decide) dX5_init_15 ?_
  refine g_newa_int kd_86 (by decide) (show (86 : Nat) ∉ ([0, 1, 72, 2, 76, 77, 78, 79, 80, 81, 82, 83, 84, 3] : List Nat) from by decide) (by intro i; (try simp (disch := decide) only [b_upc, b_set_n]); exact h0 _ (by decide) i) (by decide +kernel) (by simp [b_nr]) (by simp [b_nr]) rfl (by decide) wa_int ⟨by decide, by decide⟩ dX5_init_17 ?_
  refine g_putR (kf := 2) (kz := 2) rfl (by decide) kd_3 rfl ⟨by decide, by decide⟩ rfl (by decide) rfl rfl wf_5_23 rfl (ty := tyX5 2) rfl (fun _ => ⟨rfl, rfl⟩) dX5_init_19 ?_
  refine v_aload_n (f := 0) 0 rfl dX5_init_22 ?_
  refine v_bipush ⟨by decide, by decide⟩ (by decide) dX5_init_23 ?_
  refine g_newa_int kd_87 (by decide) (show (87 : Nat) ∉ ([0, 1, 72, 2, 76, 77, 78, 79, 80, 81, 82, 83, 84, 3] : List Nat) from by decide) (by intro i; (try simp (disch := decide) only [b_upc, b_set_n]); exact h0 _ (by decide) i) (by decide +kernel) (by simp [b_nr]) (by simp [b_nr]) rfl (by decide) wa_int ⟨by decide, by decide⟩ dX5_init_25 ?_
  refine g_putR (kf := 3) (kz := 3) rfl (by decide) kd_3 rfl ⟨by decide, by decide⟩ rfl (by decide) rfl rfl wf_5_27 rfl (ty := tyX5 3) rfl (fun _ => ⟨rfl, rfl⟩) dX5_init_27 ?_
  refine v_aload_n (f := 0) 0 rfl dX5_init_30 ?_
  refine v_bipush ⟨by decide, by decide⟩ (by decide) dX5_init_31 ?_
  refine g_newa_int kd_88 (by decide) (show (88 : Nat) ∉ ([0, 1, 72, 2, 76, 77, 78, 79, 80, 81, 82, 83, 84, 3] : List Nat) from by decide) (by intro i; (try simp (disch := decide) only [b_upc, b_set_n]); exact h0 _ (by decide) i) (by decide +kernel) (by simp [b_nr]) (by simp [b_nr]) rfl (by decide) wa_int ⟨by decide, by decide⟩ dX5_init_33 ?_
  refine g_putR (kf := 4) (kz := 4) rfl (by decide) kd_3 rfl ⟨by decide, by decide⟩ rfl (by decide) rfl rfl wf_5_30 rfl (ty := tyX5 4) rfl (fun _ => ⟨rfl, rfl⟩) dX5_init_35 ?_
  refine v_aload_n (f := 0) 0 rfl dX5_init_38 ?_
  refine v_bipush ⟨by decide, by decide⟩ (by decide) dX5_init_39 ?_
  refine g_newa_int kd_89 (by decide) (show (89 : Nat) ∉ ([0, 1, 72, 2, 76, 77, 78, 79, 80, 81, 82, 83, 84, 3] : List Nat) from by decide) (by intro i; (try simp (disch := decide) only [b_upc, b_set_n]); exact h0 _ (by decide) i) (by decide +kernel) (by simp [b_nr]) (by simp [b_nr]) rfl (by decide) wa_int ⟨by decide, by decide⟩ dX5_init_41 ?_
  refine g_putR (kf := 5) (kz := 5) rfl (by decide) kd_3 rfl ⟨by decide, by decide⟩ rfl (by decide) rfl rfl wf_5_33 rfl (ty := tyX5 5) rfl (fun _ => ⟨rfl, rfl⟩) dX5_init_43 ?_
  refine v_aload_n (f := 0) 0 rfl dX5_init_46 ?_
  refine v_bipush ⟨by decide, by decide⟩ (by decide) dX5_init_47 ?_
  refine g_newa_int kd_90 (by decide) (show (90 : Nat) ∉ ([0, 1, 72, 2, 76, 77, 78, 79, 80, 81, 82, 83, 84, 3] : List Nat) from by decide) (by intro i; (try simp (disch := decide) only [b_upc, b_set_n]); exact h0 _ (by decide) i) (by decide +kernel) (by simp [b_nr]) (by simp [b_nr]) rfl (by decide) wa_int ⟨by decide, by decide⟩ dX5_init_49 ?_
  refine g_putR (kf := 6) (kz := 6) rfl (by decide) kd_3 rfl ⟨by decide, by decide⟩ rfl (by decide) rfl rfl wf_5_36 rfl (ty := tyX5 6) rfl (fun _ => ⟨rfl, rfl⟩) dX5_init_51 ?_
  refine v_aload_n (f := 0) 0 rfl dX5_init_54 ?_
  refine v_bipush ⟨by decide, by decide⟩ (by decide) dX5_init_55 ?_
  refine g_newa_long kd_91 (by decide) (show (91 : Nat) ∉ ([0, 1, 72, 2, 76, 77, 78, 79, 80, 81, 82, 83, 84, 3] : List Nat) from by decide) (by intro i; (try simp (disch := decide) only [b_upc, b_set_n]); exact h0 _ (by decide) i) (by decide +kernel) (by simp [b_nr]) (by simp [b_nr]) rfl (by decide) wa_long ⟨by decide, by decide⟩ dX5_init_57 ?_
  refine g_putR (kf := 7) (kz := 7) rfl (by decide) kd_3 rfl ⟨by decide, by decide⟩ rfl (by decide) rfl rfl wf_5_39 rfl (ty := tyX5 7) rfl (fun _ => ⟨rfl, rfl⟩) dX5_init_59 ?_
  refine v_aload_n (f := 0) 0 rfl dX5_init_62 ?_
  refine v_bipush ⟨by decide, by decide⟩ (by decide) dX5_init_63 ?_
  refine g_newa_int kd_92 (by decide) (show (92 : Nat) ∉ ([0, 1, 72, 2, 76, 77, 78, 79, 80, 81, 82, 83, 84, 3] : List Nat) from by decide) (by intro i; (try simp (disch := decide) only [b_upc, b_set_n]); exact h0 _ (by decide) i) (by decide +kernel) (by simp [b_nr]) (by simp [b_nr]) rfl (by decide) wa_int ⟨by decide, by decide⟩ dX5_init_65 ?_
  refine g_putR (kf := 8) (kz := 8) rfl (by decide) kd_3 rfl ⟨by decide, by decide⟩ rfl (by decide) rfl rfl wf_5_42 rfl (ty := tyX5 8) rfl (fun _ => ⟨rfl, rfl⟩) dX5_init_67 ?_
  refine v_aload_n (f := 0) 0 rfl dX5_init_70 ?_
  refine v_bipush ⟨by decide, by decide⟩ (by decide) dX5_init_71 ?_
  refine g_newa_int kd_93 (by decide) (show (93 : Nat) ∉ ([0, 1, 72, 2, 76, 77, 78, 79, 80, 81, 82, 83, 84, 3] : List Nat) from by decide) (by intro i; (try simp (disch := decide) only [b_upc, b_set_n]); exact h0 _ (by decide) i) (by decide +kernel) (by simp [b_nr]) (by simp [b_nr]) rfl (by decide) wa_int ⟨by decide, by decide⟩ dX5_init_73 ?_
  refine g_putR (kf := 9) (kz := 9) rfl (by decide) kd_3 rfl ⟨by decide, by decide⟩ rfl (by decide) rfl rfl wf_5_45 rfl (ty := tyX5 9) rfl (fun _ => ⟨rfl, rfl⟩) dX5_init_75 ?_
  refine v_aload_n (f := 0) 0 rfl dX5_init_78 ?_
  refine v_bipush ⟨by decide, by decide⟩ (by decide) dX5_init_79 ?_
  refine g_newa_int kd_94 (by decide) (show (94 : Nat) ∉ ([0, 1, 72, 2, 76, 77, 78, 79, 80, 81, 82, 83, 84, 3] : List Nat) from by decide) (by intro i; (try simp (disch := decide) only [b_upc, b_set_n]); exact h0 _ (by decide) i) (by decide +kernel) (by simp [b_nr]) (by simp [b_nr]) rfl (by decide) wa_int ⟨by decide, by decide⟩ dX5_init_81 ?_
  refine g_putR (kf := 10) (kz := 10) rfl (by decide) kd_3 rfl ⟨by decide, by decide⟩ rfl (by decide) rfl rfl wf_5_48 rfl (ty := tyX5 10) rfl (fun _ => ⟨rfl, rfl⟩) dX5_init_83 ?_
  refine v_aload_n (f := 0) 0 rfl dX5_init_86 ?_
  refine v_bipush ⟨by decide, by decide⟩ (by decide) dX5_init_87 ?_
  refine g_newa_int kd_95 (by decide) (show (95 : Nat) ∉ ([0, 1, 72, 2, 76, 77, 78, 79, 80, 81, 82, 83, 84, 3] : List Nat) from by decide) (by intro i; (try simp (disch := decide) only [b_upc, b_set_n]); exact h0 _ (by decide) i) (by decide +kernel) (by simp [b_nr]) (by simp [b_nr]) rfl (by decide) wa_int ⟨by decide, by decide⟩ dX5_init_89 ?_
  refine g_putR (kf := 11) (kz := 11) rfl (by decide) kd_3 rfl ⟨by decide, by decide⟩ rfl (by decide) rfl rfl wf_5_51 rfl (ty := tyX5 11) rfl (fun _ => ⟨rfl, rfl⟩) dX5_init_91 ?_
  refine v_aload_n (f := 0) 0 rfl dX5_init_94 ?_
  refine v_bipush ⟨by decide, by decide⟩ (by decide) dX5_init_95 ?_
  refine g_newa_int kd_96 (by decide) (show (96 : Nat) ∉ ([0, 1, 72, 2, 76, 77, 78, 79, 80, 81, 82, 83, 84, 3] : List Nat) from by decide) (by intro i; (try simp (disch := decide) only [b_upc, b_set_n]); exact h0 _ (by decide) i) (by decide +kernel) (by simp [b_nr]) (by simp [b_nr]) rfl (by decide) wa_int ⟨by decide, by decide⟩ dX5_init_97 ?_
  refine g_putR (kf := 12) (kz := 12) rfl (by decide) kd_3 rfl ⟨by decide, by decide⟩ rfl (by decide) rfl rfl wf_5_54 rfl (ty := tyX5 12) rfl (fun _ => ⟨rfl, rfl⟩) dX5_init_99 ?_
  refine v_aload_n (f := 0) 0 rfl dX5_init_102 ?_
  refine v_sipush ⟨by decide, by decide⟩ (by decide) dX5_init_103 ?_
  refine g_newa_int kd_97 (by decide) (show (97 : Nat) ∉ ([0, 1, 72, 2, 76, 77, 78, 79, 80, 81, 82, 83, 84, 3] : List Nat) from by decide) (by intro i; (try simp (disch := decide) only [b_upc, b_set_n]); exact h0 _ (by decide) i) (by decide +kernel) (by simp [b_nr]) (by simp [b_nr]) rfl (by decide) wa_int ⟨by decide, by decide⟩ dX5_init_106 ?_
  refine g_putR (kf := 13) (kz := 13) rfl (by decide) kd_3 rfl ⟨by decide, by decide⟩ rfl (by decide) rfl rfl wf_5_57 rfl (ty := tyX5 13) rfl (fun _ => ⟨rfl, rfl⟩) dX5_init_108 ?_
  refine v_aload_n (f := 0) 0 rfl dX5_init_111 ?_
  refine v_bipush ⟨by decide, by decide⟩ (by decide) dX5_init_112 ?_
  refine g_newa_int kd_98 (by decide) (show (98 : Nat) ∉ ([0, 1, 72, 2, 76, 77, 78, 79, 80, 81, 82, 83, 84, 3] : List Nat) from by decide) (by intro i; (try simp (disch := decide) only [b_upc, b_set_n]); exact h0 _ (by decide) i) (by decide +kernel) (by simp [b_nr]) (by simp [b_nr]) rfl (by decide) wa_int ⟨by decide, by decide⟩ dX5_init_114 ?_
  refine g_putR (kf := 14) (kz := 14) rfl (by decide) kd_3 rfl ⟨by decide, by decide⟩ rfl (by decide) rfl rfl wf_5_60 rfl (ty := tyX5 14) rfl (fun _ => ⟨rfl, rfl⟩) dX5_init_116 ?_
  refine v_aload_n (f := 0) 0 rfl dX5_init_119 ?_
  refine v_iconst ⟨by decide, by decide⟩ dX5_init_120 ?_
  refine g_newa_int kd_99 (by decide) (show (99 : Nat) ∉ ([0, 1, 72, 2, 76, 77, 78, 79, 80, 81, 82, 83, 84, 3] : List Nat) from by decide) (by intro i; (try simp (disch := decide) only [b_upc, b_set_n]); exact h0 _ (by decide) i) (by decide +kernel) (by simp [b_nr]) (by simp [b_nr]) rfl (by decide) wa_int ⟨by decide, by decide⟩ dX5_init_121 ?_
  refine g_putR (kf := 15) (kz := 15) rfl (by decide) kd_3 rfl ⟨by decide, by decide⟩ rfl (by decide) rfl rfl wf_5_63 rfl (ty := tyX5 15) rfl (fun _ => ⟨rfl, rfl⟩) dX5_init_123 ?_
  refine v_aload_n (f := 0) 0 rfl dX5_init_126 ?_
  refine v_bipush ⟨by decide, by decide⟩ (by decide) dX5_init_127 ?_
  refine g_newa_int kd_100 (by decide) (show (100 : Nat) ∉ ([0, 1, 72, 2, 76, 77, 78, 79, 80, 81, 82, 83, 84, 3] : List Nat) from by decide) (by intro i; (try simp (disch := decide) only [b_upc, b_set_n]); exact h0 _ (by decide) i) (by decide +kernel) (by simp [b_nr]) (by simp [b_nr]) rfl (by decide) wa_int ⟨by decide, by decide⟩ dX5_init_129 ?_
  refine g_putR (kf := 16) (kz := 16) rfl (by decide) kd_3 rfl ⟨by decide, by decide⟩ rfl (by decide) rfl rfl wf_5_66 rfl (ty := tyX5 16) rfl (fun _ => ⟨rfl, rfl⟩) dX5_init_131 ?_
  refine v_aload_n (f := 0) 0 rfl dX5_init_134 ?_
  refine v_bipush ⟨by decide, by decide⟩ (by decide) dX5_init_135 ?_
  refine g_newa_int kd_101 (by decide) (show (101 : Nat) ∉ ([0, 1, 72, 2, 76, 77, 78, 79, 80, 81, 82, 83, 84, 3] : List Nat) from by decide) (by intro i; (try simp (disch := decide) only [b_upc, b_set_n]); exact h0 _ (by decide) i) (by decide +kernel) (by simp [b_nr]) (by simp [b_nr]) rfl (by decide) wa_int ⟨by decide, by decide⟩ dX5_init_137 ?_
  refine g_putR (kf := 17) (kz := 17) rfl (by decide) kd_3 rfl ⟨by decide, by decide⟩ rfl (by decide) rfl rfl wf_5_69 rfl (ty := tyX5 17) rfl (fun _ => ⟨rfl, rfl⟩) dX5_init_139 ?_
  refine v_aload_n (f := 0) 0 rfl dX5_init_142 ?_
  refine v_bipush ⟨by decide, by decide⟩ (by decide) dX5_init_143 ?_
  refine g_newa_int kd_102 (by decide) (show (102 : Nat) ∉ ([0, 1, 72, 2, 76, 77, 78, 79, 80, 81, 82, 83, 84, 3] : List Nat) from by decide) (by intro i; (try simp (disch := decide) only [b_upc, b_set_n]); exact h0 _ (by decide) i) (by decide +kernel) (by simp [b_nr]) (by simp [b_nr]) rfl (by decide) wa_int ⟨by decide, by decide⟩ dX5_init_145 ?_
  refine g_putR (kf := 18) (kz := 18) rfl (by decide) kd_3 rfl ⟨by decide, by decide⟩ rfl (by decide) rfl rfl wf_5_72 rfl (ty := tyX5 18) rfl (fun _ => ⟨rfl, rfl⟩) dX5_init_147 ?_
  refine v_aload_n (f := 0) 0 rfl dX5_init_150 ?_
  refine v_bipush ⟨by decide, by decide⟩ (by decide) dX5_init_151 ?_
  refine g_newa_int kd_103 (by decide) (show (103 : Nat) ∉ ([0, 1, 72, 2, 76, 77, 78, 79, 80, 81, 82, 83, 84, 3] : List Nat) from by decide) (by intro i; (try simp (disch := decide) only [b_upc, b_set_n]); exact h0 _ (by decide) i) (by decide +kernel) (by simp [b_nr]) (by simp [b_nr]) rfl (by decide) wa_int ⟨by decide, by decide⟩ dX5_init_153 ?_
  refine g_putR (kf := 19) (kz := 19) rfl (by decide) kd_3 rfl ⟨by decide, by decide⟩ rfl (by decide) rfl rfl wf_5_75 rfl (ty := tyX5 19) rfl (fun _ => ⟨rfl, rfl⟩) dX5_init_155 ?_
  refine v_return rfl dX5_init_158 ⟨by decide, by decide⟩ ?_
  exact ⟨rfl, rfl⟩
