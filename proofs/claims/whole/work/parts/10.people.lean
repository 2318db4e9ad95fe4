abbrev xX8_has : bX := ("BurntHall$People", prog_10_method_2_code, 2, (Option.some Jvm.ClassFile.FieldType.boolean), b_rm 1 0 0, 0, "has")
abbrev yX8_has : MethodName := ⟨"BurntHall$People", "has", "(I)Z"⟩
theorem dX8_has_0 : decode prog_10_method_2_code 0 = .ok (.iload_n 1, 1) := by decide +kernel
theorem dX8_has_1 : decode prog_10_method_2_code 1 = .ok (.ifCond .lt 15, 3) := by decide +kernel
theorem dX8_has_4 : decode prog_10_method_2_code 4 = .ok (.iload_n 1, 1) := by decide +kernel
theorem dX8_has_5 : decode prog_10_method_2_code 5 = .ok (.aload_n 0, 1) := by decide +kernel
theorem dX8_has_6 : decode prog_10_method_2_code 6 = .ok (.getfield 44, 3) := by decide +kernel
theorem dX8_has_9 : decode prog_10_method_2_code 9 = .ok (.if_icmp .ge 7, 3) := by decide +kernel
theorem dX8_has_12 : decode prog_10_method_2_code 12 = .ok (.iconst 1, 1) := by decide +kernel
theorem dX8_has_13 : decode prog_10_method_2_code 13 = .ok (.goto 4, 3) := by decide +kernel
theorem dX8_has_16 : decode prog_10_method_2_code 16 = .ok (.iconst 0, 1) := by decide +kernel
theorem dX8_has_17 : decode prog_10_method_2_code 17 = .ok (.ireturn, 1) := by decide +kernel
theorem c_X8_has {l : Launch} {E : bE} {M : bM} {p : Int} : b_C l E xX8_has yX8_has [bR 2, bI p] M (fun r M' => M' = M ∧ ∃ b, r = some (bI b) ∧ b_b (0 ≤ p ∧ p < M 2 0) b) := by
  refine b_met (by decide) ⟨rfl, rfl⟩ (Nat.le_of_ble_eq_true rfl) (fun hA hRg => ?_)
  refine v_iload_n (f := 1) 1 rfl dX8_has_0 ?_
  refine v_if_lt (tgt := 16) dX8_has_1 (by decide) (fun h1 => ?_) (fun h1 => ?_)
  · refine v_iconst ⟨by decide, by decide⟩ dX8_has_16 ?_
    refine v_zreturn rfl (by first | exact Or.inl rfl | exact Or.inr rfl | omega | (split <;> simp)) dX8_has_17 ⟨by decide, by decide⟩ ?_
    exact ⟨rfl, _, rfl, by unfold b_b; omega⟩
  · refine v_iload_n (f := 1) 1 rfl dX8_has_4 ?_
    refine v_aload_n (f := 0) 0 rfl dX8_has_5 ?_
    refine v_getI (kf := 0) (kz := 0) rfl kd_2 rfl ⟨by decide, by decide⟩ rfl wf_8_44 dX8_has_6 ?_
    refine v_icmp_ge (tgt := 16) dX8_has_9 (by decide) (fun h9 => ?_) (fun h9 => ?_)
    · refine v_iconst ⟨by decide, by decide⟩ dX8_has_16 ?_
      refine v_zreturn rfl (by first | exact Or.inl rfl | exact Or.inr rfl | omega | (split <;> simp)) dX8_has_17 ⟨by decide, by decide⟩ ?_
      exact ⟨rfl, _, rfl, by unfold b_b; omega⟩
    · refine v_iconst ⟨by decide, by decide⟩ dX8_has_12 ?_
      refine v_goto (tgt := 17) dX8_has_13 (by decide) ?_
      refine v_zreturn rfl (by first | exact Or.inl rfl | exact Or.inr rfl | omega | (split <;> simp)) dX8_has_17 ⟨by decide, by decide⟩ ?_
      exact ⟨rfl, _, rfl, by unfold b_b; omega⟩
abbrev xX8_add : bX := ("BurntHall$People", prog_10_method_3_code, 2, (Option.some Jvm.ClassFile.FieldType.int), b_rm 1 0 0, 0, "add")
abbrev yX8_add : MethodName := ⟨"BurntHall$People", "add", "(I)I"⟩
theorem dX8_add_0 : decode prog_10_method_3_code 0 = .ok (.aload_n 0, 1) := by decide +kernel
theorem dX8_add_1 : decode prog_10_method_3_code 1 = .ok (.getfield 44, 3) := by decide +kernel
theorem dX8_add_4 : decode prog_10_method_3_code 4 = .ok (.bipush 80, 2) := by decide +kernel
theorem dX8_add_6 : decode prog_10_method_3_code 6 = .ok (.if_icmp .lt 6, 3) := by decide +kernel
theorem dX8_add_9 : decode prog_10_method_3_code 9 = .ok (.bipush (-3), 2) := by decide +kernel
theorem dX8_add_11 : decode prog_10_method_3_code 11 = .ok (.ireturn, 1) := by decide +kernel
theorem dX8_add_12 : decode prog_10_method_3_code 12 = .ok (.aload_n 0, 1) := by decide +kernel
theorem dX8_add_13 : decode prog_10_method_3_code 13 = .ok (.getfield 11, 3) := by decide +kernel
theorem dX8_add_16 : decode prog_10_method_3_code 16 = .ok (.aload_n 0, 1) := by decide +kernel
theorem dX8_add_17 : decode prog_10_method_3_code 17 = .ok (.getfield 44, 3) := by decide +kernel
theorem dX8_add_20 : decode prog_10_method_3_code 20 = .ok (.iload_n 1, 1) := by decide +kernel
theorem dX8_add_21 : decode prog_10_method_3_code 21 = .ok (.iastore, 1) := by decide +kernel
theorem dX8_add_22 : decode prog_10_method_3_code 22 = .ok (.aload_n 0, 1) := by decide +kernel
theorem dX8_add_23 : decode prog_10_method_3_code 23 = .ok (.dup, 1) := by decide +kernel
theorem dX8_add_24 : decode prog_10_method_3_code 24 = .ok (.getfield 44, 3) := by decide +kernel
theorem dX8_add_27 : decode prog_10_method_3_code 27 = .ok (.iconst 1, 1) := by decide +kernel
theorem dX8_add_28 : decode prog_10_method_3_code 28 = .ok (.iadd, 1) := by decide +kernel
theorem dX8_add_29 : decode prog_10_method_3_code 29 = .ok (.putfield 44, 3) := by decide +kernel
theorem dX8_add_32 : decode prog_10_method_3_code 32 = .ok (.aload_n 0, 1) := by decide +kernel
theorem dX8_add_33 : decode prog_10_method_3_code 33 = .ok (.getfield 44, 3) := by decide +kernel
theorem dX8_add_36 : decode prog_10_method_3_code 36 = .ok (.iconst 1, 1) := by decide +kernel
theorem dX8_add_37 : decode prog_10_method_3_code 37 = .ok (.isub, 1) := by decide +kernel
theorem dX8_add_38 : decode prog_10_method_3_code 38 = .ok (.ireturn, 1) := by decide +kernel
theorem c_X8_add {l : Launch} {E : bE} {M : bM} {day : Int} (h0 : 0 ≤ M 2 0 ∧ M 2 0 ≤ 80) : b_C l E xX8_add yX8_add [bR 2, bI day] M (fun r M' => (M 2 0 < 80 ∧ r = some (bI (M 2 0)) ∧ M' = b_up (b_up M 76 (M 2 0) day) 2 0 (M 2 0 + 1)) ∨ (80 ≤ M 2 0 ∧ r = some (bI (-3)) ∧ M' = M)) := by
  refine b_met (by decide) ⟨rfl, rfl⟩ (Nat.le_of_ble_eq_true rfl) (fun hA hRg => ?_)
  refine v_aload_n (f := 0) 0 rfl dX8_add_0 ?_
  refine v_getI (kf := 0) (kz := 0) rfl kd_2 rfl ⟨by decide, by decide⟩ rfl wf_8_44 dX8_add_1 ?_
  refine v_bipush ⟨by decide, by decide⟩ (by decide) dX8_add_4 ?_
  refine v_icmp_lt (tgt := 12) dX8_add_6 (by decide) (fun h6 => ?_) (fun h6 => ?_)
  · refine v_aload_n (f := 0) 0 rfl dX8_add_12 ?_
    refine v_getR (kf := 2) (kz := 2) rfl kd_2 rfl ⟨by decide, by decide⟩ rfl wf_8_11 dX8_add_13 ?_
    refine v_aload_n (f := 0) 0 rfl dX8_add_16 ?_
    refine v_getI (kf := 0) (kz := 0) rfl kd_2 rfl ⟨by decide, by decide⟩ rfl wf_8_44 dX8_add_17 ?_
    refine v_iload_n (f := 1) 1 rfl dX8_add_20 ?_
    refine v_iastore kd_76 (by first | omega | (simp (disch := decide) only [b_upc, b_upi, b_ups]; omega)) (by decide) dX8_add_21 ?_
    refine v_aload_n (f := 0) 0 rfl dX8_add_22 ?_
    refine v_dup rfl dX8_add_23 ?_
    refine v_getI (kf := 0) (kz := 0) rfl kd_2 rfl ⟨by decide, by decide⟩ rfl wf_8_44 dX8_add_24 ?_
    try simp (disch := decide) only [b_upc, b_upi, b_ups]
    refine v_iconst ⟨by decide, by decide⟩ dX8_add_27 ?_
    refine v_iaddN (by unfold b_r32; first | omega | (simp (disch := decide) only [b_upc, b_upi, b_ups]; omega)) dX8_add_28 ?_
    refine v_putI (kf := 0) (kz := 0) rfl kd_2 rfl ⟨by decide, by decide⟩ rfl wf_8_44 rfl rfl dX8_add_29 ?_
    refine v_aload_n (f := 0) 0 rfl dX8_add_32 ?_
    refine v_getI (kf := 0) (kz := 0) rfl kd_2 rfl ⟨by decide, by decide⟩ rfl wf_8_44 dX8_add_33 ?_
    try simp (disch := decide) only [b_upc, b_upi, b_ups]
    refine v_iconst ⟨by decide, by decide⟩ dX8_add_36 ?_
    refine v_isubN (by unfold b_r32; first | omega | (simp (disch := decide) only [b_upc, b_upi, b_ups]; omega)) dX8_add_37 ?_
    refine v_ireturn rfl dX8_add_38 ⟨by decide, by decide⟩ ?_
    first | (refine Or.inr ⟨by omega, rfl, rfl⟩; done) | (refine Or.inl ⟨by omega, ?_, rfl⟩; congr 2; omega)
  · refine v_bipush ⟨by decide, by decide⟩ (by decide) dX8_add_9 ?_
    refine v_ireturn rfl dX8_add_11 ⟨by decide, by decide⟩ ?_
    first | (refine Or.inr ⟨by omega, rfl, rfl⟩; done) | (refine Or.inl ⟨by omega, ?_, rfl⟩; congr 2; omega)
