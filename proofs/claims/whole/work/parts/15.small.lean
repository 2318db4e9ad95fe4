abbrev xX11_pass : bX := ("BurntHall", prog_1_method_4_code, 2, (Option.some Jvm.ClassFile.FieldType.int), b_rm 1 0 0, 0, "pass")
abbrev yX11_pass : MethodName := ⟨"BurntHall", "pass", "(I)I"⟩
theorem dX11_pass_0 : decode prog_1_method_4_code 0 = .ok (.iload_n 1, 1) := by decide +kernel
theorem dX11_pass_1 : decode prog_1_method_4_code 1 = .ok (.iconst 1, 1) := by decide +kernel
theorem dX11_pass_2 : decode prog_1_method_4_code 2 = .ok (.if_icmp .lt 22, 3) := by decide +kernel
theorem dX11_pass_5 : decode prog_1_method_4_code 5 = .ok (.iload_n 1, 1) := by decide +kernel
theorem dX11_pass_6 : decode prog_1_method_4_code 6 = .ok (.sipush 5000, 3) := by decide +kernel
theorem dX11_pass_9 : decode prog_1_method_4_code 9 = .ok (.if_icmp .gt 15, 3) := by decide +kernel
theorem dX11_pass_12 : decode prog_1_method_4_code 12 = .ok (.aload_n 0, 1) := by decide +kernel
theorem dX11_pass_13 : decode prog_1_method_4_code 13 = .ok (.getfield 91, 3) := by decide +kernel
theorem dX11_pass_16 : decode prog_1_method_4_code 16 = .ok (.iload_n 1, 1) := by decide +kernel
theorem dX11_pass_17 : decode prog_1_method_4_code 17 = .ok (.iadd, 1) := by decide +kernel
theorem dX11_pass_18 : decode prog_1_method_4_code 18 = .ok (.sipush 9999, 3) := by decide +kernel
theorem dX11_pass_21 : decode prog_1_method_4_code 21 = .ok (.if_icmp .le 6, 3) := by decide +kernel
theorem dX11_pass_24 : decode prog_1_method_4_code 24 = .ok (.bipush (-2), 2) := by decide +kernel
theorem dX11_pass_26 : decode prog_1_method_4_code 26 = .ok (.ireturn, 1) := by decide +kernel
theorem dX11_pass_27 : decode prog_1_method_4_code 27 = .ok (.aload_n 0, 1) := by decide +kernel
theorem dX11_pass_28 : decode prog_1_method_4_code 28 = .ok (.dup, 1) := by decide +kernel
theorem dX11_pass_29 : decode prog_1_method_4_code 29 = .ok (.getfield 91, 3) := by decide +kernel
theorem dX11_pass_32 : decode prog_1_method_4_code 32 = .ok (.iload_n 1, 1) := by decide +kernel
theorem dX11_pass_33 : decode prog_1_method_4_code 33 = .ok (.iadd, 1) := by decide +kernel
theorem dX11_pass_34 : decode prog_1_method_4_code 34 = .ok (.putfield 91, 3) := by decide +kernel
theorem dX11_pass_37 : decode prog_1_method_4_code 37 = .ok (.aload_n 0, 1) := by decide +kernel
theorem dX11_pass_38 : decode prog_1_method_4_code 38 = .ok (.getfield 91, 3) := by decide +kernel
theorem dX11_pass_41 : decode prog_1_method_4_code 41 = .ok (.ireturn, 1) := by decide +kernel
theorem c_X11_pass {l : Launch} {E : bE} {M : bM} {n : Int} (h : 0 ≤ M 0 10 ∧ M 0 10 ≤ 9999) : b_C l E xX11_pass yX11_pass [bR 0, bI n] M (fun r M' => ((¬ (1 ≤ n ∧ n ≤ 5000 ∧ M 0 10 + n ≤ 9999)) ∧ r = some (bI (-2)) ∧ M' = M) ∨ ((1 ≤ n ∧ n ≤ 5000 ∧ M 0 10 + n ≤ 9999) ∧ r = some (bI (M 0 10 + n)) ∧ M' = b_up M 0 10 (M 0 10 + n))) := by
  refine b_met (by decide) ⟨rfl, rfl⟩ (Nat.le_of_ble_eq_true rfl) (fun hA hRg => ?_)
  refine v_iload_n (f := 1) 1 rfl dX11_pass_0 ?_
  refine v_iconst ⟨by decide, by decide⟩ dX11_pass_1 ?_
  refine v_icmp_lt (tgt := 24) dX11_pass_2 (by decide) (fun h2 => ?_) (fun h2 => ?_)
  · refine v_bipush ⟨by decide, by decide⟩ (by decide) dX11_pass_24 ?_
    refine v_ireturn rfl dX11_pass_26 ⟨by decide, by decide⟩ ?_
    first | exact Or.inl ⟨by omega, rfl, rfl⟩ | exact Or.inr (⟨by omega, rfl, rfl⟩)
  · refine v_iload_n (f := 1) 1 rfl dX11_pass_5 ?_
    refine v_sipush ⟨by decide, by decide⟩ (by decide) dX11_pass_6 ?_
    refine v_icmp_gt (tgt := 24) dX11_pass_9 (by decide) (fun h9 => ?_) (fun h9 => ?_)
    · refine v_bipush ⟨by decide, by decide⟩ (by decide) dX11_pass_24 ?_
      refine v_ireturn rfl dX11_pass_26 ⟨by decide, by decide⟩ ?_
      first | exact Or.inl ⟨by omega, rfl, rfl⟩ | exact Or.inr (⟨by omega, rfl, rfl⟩)
    · refine v_aload_n (f := 0) 0 rfl dX11_pass_12 ?_
      refine v_getI (kf := 10) (kz := 10) rfl kd_0 rfl ⟨by decide, by decide⟩ rfl wf_11_91 dX11_pass_13 ?_
      refine v_iload_n (f := 1) 1 rfl dX11_pass_16 ?_
      refine v_iaddN (by unfold b_r32; first | omega | (simp (disch := decide) only [b_upc, b_upi, b_ups]; omega)) dX11_pass_17 ?_
      refine v_sipush ⟨by decide, by decide⟩ (by decide) dX11_pass_18 ?_
      refine v_icmp_le (tgt := 27) dX11_pass_21 (by decide) (fun h21 => ?_) (fun h21 => ?_)
      · refine v_aload_n (f := 0) 0 rfl dX11_pass_27 ?_
        refine v_dup rfl dX11_pass_28 ?_
        refine v_getI (kf := 10) (kz := 10) rfl kd_0 rfl ⟨by decide, by decide⟩ rfl wf_11_91 dX11_pass_29 ?_
        refine v_iload_n (f := 1) 1 rfl dX11_pass_32 ?_
        refine v_iaddN (by unfold b_r32; first | omega | (simp (disch := decide) only [b_upc, b_upi, b_ups]; omega)) dX11_pass_33 ?_
        refine v_putI (kf := 10) (kz := 10) rfl kd_0 rfl ⟨by decide, by decide⟩ rfl wf_11_91 rfl rfl dX11_pass_34 ?_
        refine v_aload_n (f := 0) 0 rfl dX11_pass_37 ?_
        refine v_getI (kf := 10) (kz := 10) rfl kd_0 rfl ⟨by decide, by decide⟩ rfl wf_11_91 dX11_pass_38 ?_
        try simp (disch := decide) only [b_upc, b_upi, b_ups]
        refine v_ireturn rfl dX11_pass_41 ⟨by decide, by decide⟩ ?_
        first | exact Or.inl ⟨by omega, rfl, rfl⟩ | exact Or.inr (⟨by omega, rfl, rfl⟩)
      · refine v_bipush ⟨by decide, by decide⟩ (by decide) dX11_pass_24 ?_
        refine v_ireturn rfl dX11_pass_26 ⟨by decide, by decide⟩ ?_
        first | exact Or.inl ⟨by omega, rfl, rfl⟩ | exact Or.inr (⟨by omega, rfl, rfl⟩)
abbrev xX12_in : bX := ("BurntHallModel", prog_14_method_2_code, 3, (Option.some Jvm.ClassFile.FieldType.boolean), b_rm 1 0 0, 0, "in")
abbrev yX12_in : MethodName := ⟨"BurntHallModel", "in", "(III)Z"⟩
theorem dX12_in_0 : decode prog_14_method_2_code 0 = .ok (.iload_n 0, 1) := by decide +kernel
theorem dX12_in_1 : decode prog_14_method_2_code 1 = .ok (.iload_n 1, 1) := by decide +kernel
theorem dX12_in_2 : decode prog_14_method_2_code 2 = .ok (.if_icmp .lt 12, 3) := by decide +kernel
theorem dX12_in_5 : decode prog_14_method_2_code 5 = .ok (.iload_n 0, 1) := by decide +kernel
theorem dX12_in_6 : decode prog_14_method_2_code 6 = .ok (.iload_n 2, 1) := by decide +kernel
theorem dX12_in_7 : decode prog_14_method_2_code 7 = .ok (.if_icmp .gt 7, 3) := by decide +kernel
theorem dX12_in_10 : decode prog_14_method_2_code 10 = .ok (.iconst 1, 1) := by decide +kernel
theorem dX12_in_11 : decode prog_14_method_2_code 11 = .ok (.goto 4, 3) := by decide +kernel
theorem dX12_in_14 : decode prog_14_method_2_code 14 = .ok (.iconst 0, 1) := by decide +kernel
theorem dX12_in_15 : decode prog_14_method_2_code 15 = .ok (.ireturn, 1) := by decide +kernel
abbrev xX12_pass : bX := ("BurntHallModel", prog_14_method_14_code, 2, (Option.some Jvm.ClassFile.FieldType.int), b_rm 2 0 0, 0, "pass")
abbrev yX12_pass : MethodName := ⟨"BurntHallModel", "pass", "(I)I"⟩
theorem dX12_pass_0 : decode prog_14_method_14_code 0 = .ok (.iload_n 1, 1) := by decide +kernel
theorem dX12_pass_1 : decode prog_14_method_14_code 1 = .ok (.iconst 1, 1) := by decide +kernel
theorem dX12_pass_2 : decode prog_14_method_14_code 2 = .ok (.sipush 5000, 3) := by decide +kernel
theorem dX12_pass_5 : decode prog_14_method_14_code 5 = .ok (.invokestatic 279, 3) := by decide +kernel
theorem dX12_pass_8 : decode prog_14_method_14_code 8 = .ok (.ifCond .eq 15, 3) := by decide +kernel
theorem dX12_pass_11 : decode prog_14_method_14_code 11 = .ok (.aload_n 0, 1) := by decide +kernel
theorem dX12_pass_12 : decode prog_14_method_14_code 12 = .ok (.getfield 344, 3) := by decide +kernel
theorem dX12_pass_15 : decode prog_14_method_14_code 15 = .ok (.iload_n 1, 1) := by decide +kernel
theorem dX12_pass_16 : decode prog_14_method_14_code 16 = .ok (.iadd, 1) := by decide +kernel
theorem dX12_pass_17 : decode prog_14_method_14_code 17 = .ok (.sipush 9999, 3) := by decide +kernel
theorem dX12_pass_20 : decode prog_14_method_14_code 20 = .ok (.if_icmp .le 6, 3) := by decide +kernel
theorem dX12_pass_23 : decode prog_14_method_14_code 23 = .ok (.bipush (-2), 2) := by decide +kernel
theorem dX12_pass_25 : decode prog_14_method_14_code 25 = .ok (.ireturn, 1) := by decide +kernel
theorem dX12_pass_26 : decode prog_14_method_14_code 26 = .ok (.aload_n 0, 1) := by decide +kernel
theorem dX12_pass_27 : decode prog_14_method_14_code 27 = .ok (.dup, 1) := by decide +kernel
theorem dX12_pass_28 : decode prog_14_method_14_code 28 = .ok (.getfield 344, 3) := by decide +kernel
theorem dX12_pass_31 : decode prog_14_method_14_code 31 = .ok (.iload_n 1, 1) := by decide +kernel
theorem dX12_pass_32 : decode prog_14_method_14_code 32 = .ok (.iadd, 1) := by decide +kernel
theorem dX12_pass_33 : decode prog_14_method_14_code 33 = .ok (.putfield 344, 3) := by decide +kernel
theorem dX12_pass_36 : decode prog_14_method_14_code 36 = .ok (.aload_n 0, 1) := by decide +kernel
theorem dX12_pass_37 : decode prog_14_method_14_code 37 = .ok (.getfield 344, 3) := by decide +kernel
theorem dX12_pass_40 : decode prog_14_method_14_code 40 = .ok (.ireturn, 1) := by decide +kernel
theorem c_X12_pass {l : Launch} {E : bE} {M : bM} {n : Int} (h : 0 ≤ M 11 11 ∧ M 11 11 ≤ 9999) : b_C l E xX12_pass yX12_pass [bR 11, bI n] M (fun r M' => ((¬ (1 ≤ n ∧ n ≤ 5000 ∧ M 11 11 + n ≤ 9999)) ∧ r = some (bI (-2)) ∧ M' = M) ∨ ((1 ≤ n ∧ n ≤ 5000 ∧ M 11 11 + n ≤ 9999) ∧ r = some (bI (M 11 11 + n)) ∧ M' = b_up M 11 11 (M 11 11 + n))) := by
  refine b_met (by decide) ⟨rfl, rfl⟩ (Nat.le_of_ble_eq_true rfl) (fun hA hRg => ?_)
  refine v_iload_n (f := 1) 1 rfl dX12_pass_0 ?_
  refine v_iconst ⟨by decide, by decide⟩ dX12_pass_1 ?_
  refine v_sipush ⟨by decide, by decide⟩ (by decide) dX12_pass_2 ?_
  refine v_callS (nA := 3) (Y := xX12_in) (y := yX12_in) (As := [bI _, bI _, bI _]) (ix := 279) (b_met (by decide) ⟨rfl, rfl⟩ (Nat.le_of_ble_eq_true rfl) (fun _ _ => ?_)) rfl wc_X12_in wm_12_279 wi_X12_in wn_12 ⟨by decide, by decide, by decide⟩ rfl ⟨by decide, by decide⟩ ⟨by decide, by decide⟩ (Nat.le_of_ble_eq_true rfl) dX12_pass_5 (fun r M' h => h)
  refine v_iload_n (f := 0) 0 rfl dX12_in_0 ?_
  refine v_iload_n (f := 1) 1 rfl dX12_in_1 ?_
  refine v_icmp_lt (tgt := 14) dX12_in_2 (by decide) (fun h2_1 => ?_) (fun h2_1 => ?_)
  · refine v_iconst ⟨by decide, by decide⟩ dX12_in_14 ?_
    refine v_zreturn rfl (by first | exact Or.inl rfl | exact Or.inr rfl | omega | (split <;> simp)) dX12_in_15 ⟨by decide, by decide⟩ ?_
    dsimp only [Option.toList, List.cons_append, List.nil_append]
    refine v_if_eq (tgt := 23) dX12_pass_8 (by decide) (fun h8 => ?_) (fun h8 => ?_)
    · refine v_bipush ⟨by decide, by decide⟩ (by decide) dX12_pass_23 ?_
      refine v_ireturn rfl dX12_pass_25 ⟨by decide, by decide⟩ ?_
      first | exact Or.inl ⟨by omega, rfl, rfl⟩ | exact Or.inr (⟨by omega, rfl, rfl⟩)
    · refine v_aload_n (f := 0) 0 rfl dX12_pass_11 ?_
      refine v_getI (kf := 11) (kz := 11) rfl kd_11 rfl ⟨by decide, by decide⟩ rfl wf_12_344 dX12_pass_12 ?_
      refine v_iload_n (f := 1) 1 rfl dX12_pass_15 ?_
      refine v_iaddN (by unfold b_r32; first | omega | (simp (disch := decide) only [b_upc, b_upi, b_ups]; omega)) dX12_pass_16 ?_
      refine v_sipush ⟨by decide, by decide⟩ (by decide) dX12_pass_17 ?_
      refine v_icmp_le (tgt := 26) dX12_pass_20 (by decide) (fun h20 => ?_) (fun h20 => ?_)
      · refine v_aload_n (f := 0) 0 rfl dX12_pass_26 ?_
        refine v_dup rfl dX12_pass_27 ?_
        refine v_getI (kf := 11) (kz := 11) rfl kd_11 rfl ⟨by decide, by decide⟩ rfl wf_12_344 dX12_pass_28 ?_
        refine v_iload_n (f := 1) 1 rfl dX12_pass_31 ?_
        refine v_iaddN (by unfold b_r32; first | omega | (simp (disch := decide) only [b_upc, b_upi, b_ups]; omega)) dX12_pass_32 ?_
        refine v_putI (kf := 11) (kz := 11) rfl kd_11 rfl ⟨by decide, by decide⟩ rfl wf_12_344 rfl rfl dX12_pass_33 ?_
        refine v_aload_n (f := 0) 0 rfl dX12_pass_36 ?_
        refine v_getI (kf := 11) (kz := 11) rfl kd_11 rfl ⟨by decide, by decide⟩ rfl wf_12_344 dX12_pass_37 ?_
        try simp (disch := decide) only [b_upc, b_upi, b_ups]
        refine v_ireturn rfl dX12_pass_40 ⟨by decide, by decide⟩ ?_
        first | exact Or.inl ⟨by omega, rfl, rfl⟩ | exact Or.inr (⟨by omega, rfl, rfl⟩)
      · refine v_bipush ⟨by decide, by decide⟩ (by decide) dX12_pass_23 ?_
        refine v_ireturn rfl dX12_pass_25 ⟨by decide, by decide⟩ ?_
        first | exact Or.inl ⟨by omega, rfl, rfl⟩ | exact Or.inr (⟨by omega, rfl, rfl⟩)
  · refine v_iload_n (f := 0) 0 rfl dX12_in_5 ?_
    refine v_iload_n (f := 2) 2 rfl dX12_in_6 ?_
    refine v_icmp_gt (tgt := 14) dX12_in_7 (by decide) (fun h7_1 => ?_) (fun h7_1 => ?_)
    · refine v_iconst ⟨by decide, by decide⟩ dX12_in_14 ?_
      refine v_zreturn rfl (by first | exact Or.inl rfl | exact Or.inr rfl | omega | (split <;> simp)) dX12_in_15 ⟨by decide, by decide⟩ ?_
      dsimp only [Option.toList, List.cons_append, List.nil_append]
      refine v_if_eq (tgt := 23) dX12_pass_8 (by decide) (fun h8 => ?_) (fun h8 => ?_)
      · refine v_bipush ⟨by decide, by decide⟩ (by decide) dX12_pass_23 ?_
        refine v_ireturn rfl dX12_pass_25 ⟨by decide, by decide⟩ ?_
        first | exact Or.inl ⟨by omega, rfl, rfl⟩ | exact Or.inr (⟨by omega, rfl, rfl⟩)
      · refine v_aload_n (f := 0) 0 rfl dX12_pass_11 ?_
        refine v_getI (kf := 11) (kz := 11) rfl kd_11 rfl ⟨by decide, by decide⟩ rfl wf_12_344 dX12_pass_12 ?_
        refine v_iload_n (f := 1) 1 rfl dX12_pass_15 ?_
        refine v_iaddN (by unfold b_r32; first | omega | (simp (disch := decide) only [b_upc, b_upi, b_ups]; omega)) dX12_pass_16 ?_
        refine v_sipush ⟨by decide, by decide⟩ (by decide) dX12_pass_17 ?_
        refine v_icmp_le (tgt := 26) dX12_pass_20 (by decide) (fun h20 => ?_) (fun h20 => ?_)
        · refine v_aload_n (f := 0) 0 rfl dX12_pass_26 ?_
          refine v_dup rfl dX12_pass_27 ?_
          refine v_getI (kf := 11) (kz := 11) rfl kd_11 rfl ⟨by decide, by decide⟩ rfl wf_12_344 dX12_pass_28 ?_
          refine v_iload_n (f := 1) 1 rfl dX12_pass_31 ?_
          refine v_iaddN (by unfold b_r32; first | omega | (simp (disch := decide) only [b_upc, b_upi, b_ups]; omega)) dX12_pass_32 ?_
          refine v_putI (kf := 11) (kz := 11) rfl kd_11 rfl ⟨by decide, by decide⟩ rfl wf_12_344 rfl rfl dX12_pass_33 ?_
          refine v_aload_n (f := 0) 0 rfl dX12_pass_36 ?_
          refine v_getI (kf := 11) (kz := 11) rfl kd_11 rfl ⟨by decide, by decide⟩ rfl wf_12_344 dX12_pass_37 ?_
          try simp (disch := decide) only [b_upc, b_upi, b_ups]
          refine v_ireturn rfl dX12_pass_40 ⟨by decide, by decide⟩ ?_
          first | exact Or.inl ⟨by omega, rfl, rfl⟩ | exact Or.inr (⟨by omega, rfl, rfl⟩)
        · refine v_bipush ⟨by decide, by decide⟩ (by decide) dX12_pass_23 ?_
          refine v_ireturn rfl dX12_pass_25 ⟨by decide, by decide⟩ ?_
          first | exact Or.inl ⟨by omega, rfl, rfl⟩ | exact Or.inr (⟨by omega, rfl, rfl⟩)
    · refine v_iconst ⟨by decide, by decide⟩ dX12_in_10 ?_
      refine v_goto (tgt := 15) dX12_in_11 (by decide) ?_
      refine v_zreturn rfl (by first | exact Or.inl rfl | exact Or.inr rfl | omega | (split <;> simp)) dX12_in_15 ⟨by decide, by decide⟩ ?_
      dsimp only [Option.toList, List.cons_append, List.nil_append]
      refine v_if_eq (tgt := 23) dX12_pass_8 (by decide) (fun h8 => ?_) (fun h8 => ?_)
      · refine v_bipush ⟨by decide, by decide⟩ (by decide) dX12_pass_23 ?_
        refine v_ireturn rfl dX12_pass_25 ⟨by decide, by decide⟩ ?_
        first | exact Or.inl ⟨by omega, rfl, rfl⟩ | exact Or.inr (⟨by omega, rfl, rfl⟩)
      · refine v_aload_n (f := 0) 0 rfl dX12_pass_11 ?_
        refine v_getI (kf := 11) (kz := 11) rfl kd_11 rfl ⟨by decide, by decide⟩ rfl wf_12_344 dX12_pass_12 ?_
        refine v_iload_n (f := 1) 1 rfl dX12_pass_15 ?_
        refine v_iaddN (by unfold b_r32; first | omega | (simp (disch := decide) only [b_upc, b_upi, b_ups]; omega)) dX12_pass_16 ?_
        refine v_sipush ⟨by decide, by decide⟩ (by decide) dX12_pass_17 ?_
        refine v_icmp_le (tgt := 26) dX12_pass_20 (by decide) (fun h20 => ?_) (fun h20 => ?_)
        · refine v_aload_n (f := 0) 0 rfl dX12_pass_26 ?_
          refine v_dup rfl dX12_pass_27 ?_
          refine v_getI (kf := 11) (kz := 11) rfl kd_11 rfl ⟨by decide, by decide⟩ rfl wf_12_344 dX12_pass_28 ?_
          refine v_iload_n (f := 1) 1 rfl dX12_pass_31 ?_
          refine v_iaddN (by unfold b_r32; first | omega | (simp (disch := decide) only [b_upc, b_upi, b_ups]; omega)) dX12_pass_32 ?_
          refine v_putI (kf := 11) (kz := 11) rfl kd_11 rfl ⟨by decide, by decide⟩ rfl wf_12_344 rfl rfl dX12_pass_33 ?_
          refine v_aload_n (f := 0) 0 rfl dX12_pass_36 ?_
          refine v_getI (kf := 11) (kz := 11) rfl kd_11 rfl ⟨by decide, by decide⟩ rfl wf_12_344 dX12_pass_37 ?_
          try simp (disch := decide) only [b_upc, b_upi, b_ups]
          refine v_ireturn rfl dX12_pass_40 ⟨by decide, by decide⟩ ?_
          first | exact Or.inl ⟨by omega, rfl, rfl⟩ | exact Or.inr (⟨by omega, rfl, rfl⟩)
        · refine v_bipush ⟨by decide, by decide⟩ (by decide) dX12_pass_23 ?_
          refine v_ireturn rfl dX12_pass_25 ⟨by decide, by decide⟩ ?_
          first | exact Or.inl ⟨by omega, rfl, rfl⟩ | exact Or.inr (⟨by omega, rfl, rfl⟩)
abbrev xX11_end : bX := ("BurntHall", prog_1_method_3_code, 2, (Option.some Jvm.ClassFile.FieldType.int), b_rm 1 0 0, 0, "end")
abbrev yX11_end : MethodName := ⟨"BurntHall", "end", "(I)I"⟩
theorem dX11_end_0 : decode prog_1_method_3_code 0 = .ok (.iload_n 1, 1) := by decide +kernel
theorem dX11_end_1 : decode prog_1_method_3_code 1 = .ok (.ifCond .lt 14, 3) := by decide +kernel
theorem dX11_end_4 : decode prog_1_method_3_code 4 = .ok (.iload_n 1, 1) := by decide +kernel
theorem dX11_end_5 : decode prog_1_method_3_code 5 = .ok (.aload_n 0, 1) := by decide +kernel
theorem dX11_end_6 : decode prog_1_method_3_code 6 = .ok (.getfield 10, 3) := by decide +kernel
theorem dX11_end_9 : decode prog_1_method_3_code 9 = .ok (.getfield 95, 3) := by decide +kernel
theorem dX11_end_12 : decode prog_1_method_3_code 12 = .ok (.if_icmp .le 5, 3) := by decide +kernel
theorem dX11_end_15 : decode prog_1_method_3_code 15 = .ok (.iconst (-1), 1) := by decide +kernel
theorem dX11_end_16 : decode prog_1_method_3_code 16 = .ok (.ireturn, 1) := by decide +kernel
theorem dX11_end_17 : decode prog_1_method_3_code 17 = .ok (.aload_n 0, 1) := by decide +kernel
theorem dX11_end_18 : decode prog_1_method_3_code 18 = .ok (.getfield 10, 3) := by decide +kernel
theorem dX11_end_21 : decode prog_1_method_3_code 21 = .ok (.iload_n 1, 1) := by decide +kernel
theorem dX11_end_22 : decode prog_1_method_3_code 22 = .ok (.putfield 95, 3) := by decide +kernel
theorem dX11_end_25 : decode prog_1_method_3_code 25 = .ok (.iload_n 1, 1) := by decide +kernel
theorem dX11_end_26 : decode prog_1_method_3_code 26 = .ok (.ireturn, 1) := by decide +kernel
theorem c_X11_end {l : Launch} {E : bE} {M : bM} {n : Int}  : b_C l E xX11_end yX11_end [bR 0, bI n] M (fun r M' => ((¬ (0 ≤ n ∧ n ≤ M 1 1)) ∧ r = some (bI (-1)) ∧ M' = M) ∨ ((0 ≤ n ∧ n ≤ M 1 1) ∧ r = some (bI (n)) ∧ M' = b_up M 1 1 n)) := by
  refine b_met (by decide) ⟨rfl, rfl⟩ (Nat.le_of_ble_eq_true rfl) (fun hA hRg => ?_)
  refine v_iload_n (f := 1) 1 rfl dX11_end_0 ?_
  refine v_if_lt (tgt := 15) dX11_end_1 (by decide) (fun h1 => ?_) (fun h1 => ?_)
  · refine v_iconst ⟨by decide, by decide⟩ dX11_end_15 ?_
    refine v_ireturn rfl dX11_end_16 ⟨by decide, by decide⟩ ?_
    first | exact Or.inl ⟨by omega, rfl, rfl⟩ | exact Or.inr (⟨by omega, rfl, rfl⟩)
  · refine v_iload_n (f := 1) 1 rfl dX11_end_4 ?_
    refine v_aload_n (f := 0) 0 rfl dX11_end_5 ?_
    refine v_getR (kf := 0) (kz := 0) rfl kd_0 rfl ⟨by decide, by decide⟩ rfl wf_11_10 dX11_end_6 ?_
    refine v_getI (kf := 1) (kz := 1) rfl kd_1 rfl ⟨by decide, by decide⟩ rfl wf_11_95 dX11_end_9 ?_
    refine v_icmp_le (tgt := 17) dX11_end_12 (by decide) (fun h12 => ?_) (fun h12 => ?_)
    · refine v_aload_n (f := 0) 0 rfl dX11_end_17 ?_
      refine v_getR (kf := 0) (kz := 0) rfl kd_0 rfl ⟨by decide, by decide⟩ rfl wf_11_10 dX11_end_18 ?_
      refine v_iload_n (f := 1) 1 rfl dX11_end_21 ?_
      refine v_putI (kf := 1) (kz := 1) rfl kd_1 rfl ⟨by decide, by decide⟩ rfl wf_11_95 rfl rfl dX11_end_22 ?_
      refine v_iload_n (f := 1) 1 rfl dX11_end_25 ?_
      refine v_ireturn rfl dX11_end_26 ⟨by decide, by decide⟩ ?_
      first | exact Or.inl ⟨by omega, rfl, rfl⟩ | exact Or.inr (⟨by omega, rfl, rfl⟩)
    · refine v_iconst ⟨by decide, by decide⟩ dX11_end_15 ?_
      refine v_ireturn rfl dX11_end_16 ⟨by decide, by decide⟩ ?_
      first | exact Or.inl ⟨by omega, rfl, rfl⟩ | exact Or.inr (⟨by omega, rfl, rfl⟩)
abbrev xX12_end : bX := ("BurntHallModel", prog_14_method_5_code, 2, (Option.some Jvm.ClassFile.FieldType.int), b_rm 1 0 0, 0, "end")
abbrev yX12_end : MethodName := ⟨"BurntHallModel", "end", "(I)I"⟩
theorem dX12_end_0 : decode prog_14_method_5_code 0 = .ok (.iload_n 1, 1) := by decide +kernel
theorem dX12_end_1 : decode prog_14_method_5_code 1 = .ok (.ifCond .lt 11, 3) := by decide +kernel
theorem dX12_end_4 : decode prog_14_method_5_code 4 = .ok (.iload_n 1, 1) := by decide +kernel
theorem dX12_end_5 : decode prog_14_method_5_code 5 = .ok (.aload_n 0, 1) := by decide +kernel
theorem dX12_end_6 : decode prog_14_method_5_code 6 = .ok (.getfield 283, 3) := by decide +kernel
theorem dX12_end_9 : decode prog_14_method_5_code 9 = .ok (.if_icmp .le 5, 3) := by decide +kernel
theorem dX12_end_12 : decode prog_14_method_5_code 12 = .ok (.iconst (-1), 1) := by decide +kernel
theorem dX12_end_13 : decode prog_14_method_5_code 13 = .ok (.ireturn, 1) := by decide +kernel
theorem dX12_end_14 : decode prog_14_method_5_code 14 = .ok (.aload_n 0, 1) := by decide +kernel
theorem dX12_end_15 : decode prog_14_method_5_code 15 = .ok (.iload_n 1, 1) := by decide +kernel
theorem dX12_end_16 : decode prog_14_method_5_code 16 = .ok (.putfield 283, 3) := by decide +kernel
theorem dX12_end_19 : decode prog_14_method_5_code 19 = .ok (.iload_n 1, 1) := by decide +kernel
theorem dX12_end_20 : decode prog_14_method_5_code 20 = .ok (.ireturn, 1) := by decide +kernel
theorem c_X12_end {l : Launch} {E : bE} {M : bM} {n : Int}  : b_C l E xX12_end yX12_end [bR 11, bI n] M (fun r M' => ((¬ (0 ≤ n ∧ n ≤ M 11 1)) ∧ r = some (bI (-1)) ∧ M' = M) ∨ ((0 ≤ n ∧ n ≤ M 11 1) ∧ r = some (bI (n)) ∧ M' = b_up M 11 1 n)) := by
  refine b_met (by decide) ⟨rfl, rfl⟩ (Nat.le_of_ble_eq_true rfl) (fun hA hRg => ?_)
  refine v_iload_n (f := 1) 1 rfl dX12_end_0 ?_
  refine v_if_lt (tgt := 12) dX12_end_1 (by decide) (fun h1 => ?_) (fun h1 => ?_)
  · refine v_iconst ⟨by decide, by decide⟩ dX12_end_12 ?_
    refine v_ireturn rfl dX12_end_13 ⟨by decide, by decide⟩ ?_
    first | exact Or.inl ⟨by omega, rfl, rfl⟩ | exact Or.inr (⟨by omega, rfl, rfl⟩)
  · refine v_iload_n (f := 1) 1 rfl dX12_end_4 ?_
    refine v_aload_n (f := 0) 0 rfl dX12_end_5 ?_
    refine v_getI (kf := 1) (kz := 1) rfl kd_11 rfl ⟨by decide, by decide⟩ rfl wf_12_283 dX12_end_6 ?_
    refine v_icmp_le (tgt := 14) dX12_end_9 (by decide) (fun h9 => ?_) (fun h9 => ?_)
    · refine v_aload_n (f := 0) 0 rfl dX12_end_14 ?_
      refine v_iload_n (f := 1) 1 rfl dX12_end_15 ?_
      refine v_putI (kf := 1) (kz := 1) rfl kd_11 rfl ⟨by decide, by decide⟩ rfl wf_12_283 rfl rfl dX12_end_16 ?_
      refine v_iload_n (f := 1) 1 rfl dX12_end_19 ?_
      refine v_ireturn rfl dX12_end_20 ⟨by decide, by decide⟩ ?_
      first | exact Or.inl ⟨by omega, rfl, rfl⟩ | exact Or.inr (⟨by omega, rfl, rfl⟩)
    · refine v_iconst ⟨by decide, by decide⟩ dX12_end_12 ?_
      refine v_ireturn rfl dX12_end_13 ⟨by decide, by decide⟩ ?_
      first | exact Or.inl ⟨by omega, rfl, rfl⟩ | exact Or.inr (⟨by omega, rfl, rfl⟩)
