abbrev xX8_tell : bX := ("BurntHall$People", prog_10_method_4_code, 5, (Option.some Jvm.ClassFile.FieldType.int), b_rm 1 0 0, 0, "tell")
abbrev yX8_tell : MethodName := ⟨"BurntHall$People", "tell", "(IIII)I"⟩
theorem dX8_tell_0 : decode prog_10_method_4_code 0 = .ok (.aload_n 0, 1) := by decide +kernel
theorem dX8_tell_1 : decode prog_10_method_4_code 1 = .ok (.getfield 47, 3) := by decide +kernel
theorem dX8_tell_4 : decode prog_10_method_4_code 4 = .ok (.sipush 400, 3) := by decide +kernel
theorem dX8_tell_7 : decode prog_10_method_4_code 7 = .ok (.if_icmp .lt 6, 3) := by decide +kernel
theorem dX8_tell_10 : decode prog_10_method_4_code 10 = .ok (.bipush (-3), 2) := by decide +kernel
theorem dX8_tell_12 : decode prog_10_method_4_code 12 = .ok (.ireturn, 1) := by decide +kernel
theorem dX8_tell_13 : decode prog_10_method_4_code 13 = .ok (.aload_n 0, 1) := by decide +kernel
theorem dX8_tell_14 : decode prog_10_method_4_code 14 = .ok (.getfield 15, 3) := by decide +kernel
theorem dX8_tell_17 : decode prog_10_method_4_code 17 = .ok (.aload_n 0, 1) := by decide +kernel
theorem dX8_tell_18 : decode prog_10_method_4_code 18 = .ok (.getfield 47, 3) := by decide +kernel
theorem dX8_tell_21 : decode prog_10_method_4_code 21 = .ok (.iload_n 1, 1) := by decide +kernel
theorem dX8_tell_22 : decode prog_10_method_4_code 22 = .ok (.iastore, 1) := by decide +kernel
theorem dX8_tell_23 : decode prog_10_method_4_code 23 = .ok (.aload_n 0, 1) := by decide +kernel
theorem dX8_tell_24 : decode prog_10_method_4_code 24 = .ok (.getfield 18, 3) := by decide +kernel
theorem dX8_tell_27 : decode prog_10_method_4_code 27 = .ok (.aload_n 0, 1) := by decide +kernel
theorem dX8_tell_28 : decode prog_10_method_4_code 28 = .ok (.getfield 47, 3) := by decide +kernel
theorem dX8_tell_31 : decode prog_10_method_4_code 31 = .ok (.iload_n 2, 1) := by decide +kernel
theorem dX8_tell_32 : decode prog_10_method_4_code 32 = .ok (.iastore, 1) := by decide +kernel
theorem dX8_tell_33 : decode prog_10_method_4_code 33 = .ok (.aload_n 0, 1) := by decide +kernel
theorem dX8_tell_34 : decode prog_10_method_4_code 34 = .ok (.getfield 21, 3) := by decide +kernel
theorem dX8_tell_37 : decode prog_10_method_4_code 37 = .ok (.aload_n 0, 1) := by decide +kernel
theorem dX8_tell_38 : decode prog_10_method_4_code 38 = .ok (.getfield 47, 3) := by decide +kernel
theorem dX8_tell_41 : decode prog_10_method_4_code 41 = .ok (.iload_n 3, 1) := by decide +kernel
theorem dX8_tell_42 : decode prog_10_method_4_code 42 = .ok (.iastore, 1) := by decide +kernel
theorem dX8_tell_43 : decode prog_10_method_4_code 43 = .ok (.aload_n 0, 1) := by decide +kernel
theorem dX8_tell_44 : decode prog_10_method_4_code 44 = .ok (.getfield 24, 3) := by decide +kernel
theorem dX8_tell_47 : decode prog_10_method_4_code 47 = .ok (.aload_n 0, 1) := by decide +kernel
theorem dX8_tell_48 : decode prog_10_method_4_code 48 = .ok (.getfield 47, 3) := by decide +kernel
theorem dX8_tell_51 : decode prog_10_method_4_code 51 = .ok (.iload 4, 2) := by decide +kernel
theorem dX8_tell_53 : decode prog_10_method_4_code 53 = .ok (.iastore, 1) := by decide +kernel
theorem dX8_tell_54 : decode prog_10_method_4_code 54 = .ok (.aload_n 0, 1) := by decide +kernel
theorem dX8_tell_55 : decode prog_10_method_4_code 55 = .ok (.dup, 1) := by decide +kernel
theorem dX8_tell_56 : decode prog_10_method_4_code 56 = .ok (.getfield 47, 3) := by decide +kernel
theorem dX8_tell_59 : decode prog_10_method_4_code 59 = .ok (.iconst 1, 1) := by decide +kernel
theorem dX8_tell_60 : decode prog_10_method_4_code 60 = .ok (.iadd, 1) := by decide +kernel
theorem dX8_tell_61 : decode prog_10_method_4_code 61 = .ok (.putfield 47, 3) := by decide +kernel
theorem dX8_tell_64 : decode prog_10_method_4_code 64 = .ok (.aload_n 0, 1) := by decide +kernel
theorem dX8_tell_65 : decode prog_10_method_4_code 65 = .ok (.getfield 47, 3) := by decide +kernel
theorem dX8_tell_68 : decode prog_10_method_4_code 68 = .ok (.ireturn, 1) := by decide +kernel
abbrev xX11_isDay : bX := ("BurntHall", prog_1_method_56_code, 1, (Option.some Jvm.ClassFile.FieldType.boolean), b_rm 1 0 0, 0, "isDay")
abbrev yX11_isDay : MethodName := ⟨"BurntHall", "isDay", "(I)Z"⟩
theorem dX11_isDay_0 : decode prog_1_method_56_code 0 = .ok (.iload_n 0, 1) := by decide +kernel
theorem dX11_isDay_1 : decode prog_1_method_56_code 1 = .ok (.ifCond .lt 14, 3) := by decide +kernel
theorem dX11_isDay_4 : decode prog_1_method_56_code 4 = .ok (.iload_n 0, 1) := by decide +kernel
theorem dX11_isDay_5 : decode prog_1_method_56_code 5 = .ok (.sipush 9999, 3) := by decide +kernel
theorem dX11_isDay_8 : decode prog_1_method_56_code 8 = .ok (.if_icmp .gt 7, 3) := by decide +kernel
theorem dX11_isDay_11 : decode prog_1_method_56_code 11 = .ok (.iconst 1, 1) := by decide +kernel
theorem dX11_isDay_12 : decode prog_1_method_56_code 12 = .ok (.goto 4, 3) := by decide +kernel
theorem dX11_isDay_15 : decode prog_1_method_56_code 15 = .ok (.iconst 0, 1) := by decide +kernel
theorem dX11_isDay_16 : decode prog_1_method_56_code 16 = .ok (.ireturn, 1) := by decide +kernel
abbrev xX4_forget : bX := ("BurntHall$Evidence", prog_6_method_4_code, 1, (Option.none : Option Jvm.ClassFile.FieldType), b_rm 1 0 0, 0, "forget")
abbrev yX4_forget : MethodName := ⟨"BurntHall$Evidence", "forget", "()V"⟩
theorem dX4_forget_0 : decode prog_6_method_4_code 0 = .ok (.aload_n 0, 1) := by decide +kernel
theorem dX4_forget_1 : decode prog_6_method_4_code 1 = .ok (.iconst 0, 1) := by decide +kernel
theorem dX4_forget_2 : decode prog_6_method_4_code 2 = .ok (.putfield 47, 3) := by decide +kernel
theorem dX4_forget_5 : decode prog_6_method_4_code 5 = .ok (.return_, 1) := by decide +kernel
abbrev xX11_dead : bX := ("BurntHall", prog_1_method_6_code, 3, (Option.some Jvm.ClassFile.FieldType.int), b_rm 2 0 0, 0, "dead")
abbrev yX11_dead : MethodName := ⟨"BurntHall", "dead", "(II)I"⟩
theorem dX11_dead_0 : decode prog_1_method_6_code 0 = .ok (.aload_n 0, 1) := by decide +kernel
theorem dX11_dead_1 : decode prog_1_method_6_code 1 = .ok (.getfield 19, 3) := by decide +kernel
theorem dX11_dead_4 : decode prog_1_method_6_code 4 = .ok (.iload_n 1, 1) := by decide +kernel
theorem dX11_dead_5 : decode prog_1_method_6_code 5 = .ok (.invokevirtual 110, 3) := by decide +kernel
theorem dX11_dead_8 : decode prog_1_method_6_code 8 = .ok (.ifCond .eq 10, 3) := by decide +kernel
theorem dX11_dead_11 : decode prog_1_method_6_code 11 = .ok (.iload_n 2, 1) := by decide +kernel
theorem dX11_dead_12 : decode prog_1_method_6_code 12 = .ok (.invokestatic 102, 3) := by decide +kernel
theorem dX11_dead_15 : decode prog_1_method_6_code 15 = .ok (.ifCond .ne 6, 3) := by decide +kernel
theorem dX11_dead_18 : decode prog_1_method_6_code 18 = .ok (.bipush (-2), 2) := by decide +kernel
theorem dX11_dead_20 : decode prog_1_method_6_code 20 = .ok (.ireturn, 1) := by decide +kernel
theorem dX11_dead_21 : decode prog_1_method_6_code 21 = .ok (.aload_n 0, 1) := by decide +kernel
theorem dX11_dead_22 : decode prog_1_method_6_code 22 = .ok (.getfield 51, 3) := by decide +kernel
theorem dX11_dead_25 : decode prog_1_method_6_code 25 = .ok (.invokevirtual 113, 3) := by decide +kernel
theorem dX11_dead_28 : decode prog_1_method_6_code 28 = .ok (.aload_n 0, 1) := by decide +kernel
theorem dX11_dead_29 : decode prog_1_method_6_code 29 = .ok (.getfield 19, 3) := by decide +kernel
theorem dX11_dead_32 : decode prog_1_method_6_code 32 = .ok (.iconst 0, 1) := by decide +kernel
theorem dX11_dead_33 : decode prog_1_method_6_code 33 = .ok (.iload_n 1, 1) := by decide +kernel
theorem dX11_dead_34 : decode prog_1_method_6_code 34 = .ok (.iload_n 2, 1) := by decide +kernel
theorem dX11_dead_35 : decode prog_1_method_6_code 35 = .ok (.aload_n 0, 1) := by decide +kernel
theorem dX11_dead_36 : decode prog_1_method_6_code 36 = .ok (.getfield 91, 3) := by decide +kernel
theorem dX11_dead_39 : decode prog_1_method_6_code 39 = .ok (.invokevirtual 116, 3) := by decide +kernel
theorem dX11_dead_42 : decode prog_1_method_6_code 42 = .ok (.ireturn, 1) := by decide +kernel
theorem c_X11_dead {l : Launch} {E : bE} {M : bM} {p from0 : Int} (hs : 0 ≤ M 2 0 ∧ M 2 0 ≤ 80) (ht : 0 ≤ M 2 1 ∧ M 2 1 ≤ 400) : b_C l E xX11_dead yX11_dead [bR 0, bI p, bI from0] M (fun r M' => (¬ (0 ≤ p ∧ p < M 2 0 ∧ 0 ≤ from0 ∧ from0 ≤ 9999) ∧ r = some (bI (-2)) ∧ M' = M) ∨ ((0 ≤ p ∧ p < M 2 0 ∧ 0 ≤ from0 ∧ from0 ≤ 9999 ∧ 400 ≤ M 2 1) ∧ r = some (bI (-3)) ∧ M' = b_up M 6 5 0) ∨ ((0 ≤ p ∧ p < M 2 0 ∧ 0 ≤ from0 ∧ from0 ≤ 9999 ∧ M 2 1 < 400) ∧ r = some (bI (M 2 1 + 1)) ∧ M' = b_up (b_up (b_up (b_up (b_up (b_up M 6 5 0) 77 (M 2 1) 0) 78 (M 2 1) p) 79 (M 2 1) from0) 80 (M 2 1) (M 0 10)) 2 1 (M 2 1 + 1))) := by
  refine b_met (by decide) ⟨rfl, rfl⟩ (Nat.le_of_ble_eq_true rfl) (fun hA hRg => ?_)
  refine v_aload_n (f := 0) 0 rfl dX11_dead_0 ?_
  refine v_getR (kf := 1) (kz := 1) rfl kd_0 rfl ⟨by decide, by decide⟩ rfl wf_11_19 dX11_dead_1 ?_
  refine v_iload_n (f := 1) 1 rfl dX11_dead_4 ?_
  refine v_callV (nA := 1) (Y := xX8_has) (y := yX8_has) (As := [bI _]) (ix := 110) (b_met (by decide) ⟨rfl, rfl⟩ (Nat.le_of_ble_eq_true rfl) (fun _ _ => ?_)) rfl kd_2 rfl rfl wc_X8_has wm_11_110 wi_X8_has ws_X8_has wn_8 ⟨by decide, by decide, by decide⟩ rfl ⟨by decide, by decide⟩ ⟨by decide, by decide⟩ (Nat.le_of_ble_eq_true rfl) dX11_dead_5 (fun r M' h => h)
  refine v_iload_n (f := 1) 1 rfl dX8_has_0 ?_
  refine v_if_lt (tgt := 16) dX8_has_1 (by decide) (fun h1_1 => ?_) (fun h1_1 => ?_)
  · refine v_iconst ⟨by decide, by decide⟩ dX8_has_16 ?_
    refine v_zreturn rfl (by first | exact Or.inl rfl | exact Or.inr rfl | omega | (split <;> simp)) dX8_has_17 ⟨by decide, by decide⟩ ?_
    dsimp only [Option.toList, List.cons_append, List.nil_append]
    refine v_if_eq (tgt := 18) dX11_dead_8 (by decide) (fun h8 => ?_) (fun h8 => ?_)
    · refine v_bipush ⟨by decide, by decide⟩ (by decide) dX11_dead_18 ?_
      refine v_ireturn rfl dX11_dead_20 ⟨by decide, by decide⟩ ?_
      first | exact Or.inl ⟨by omega, rfl, rfl⟩ | exact Or.inr (Or.inl ⟨by omega, rfl, rfl⟩) | exact Or.inr (Or.inr (⟨by omega, rfl, rfl⟩))
    · refine v_iload_n (f := 2) 2 rfl dX11_dead_11 ?_
      refine v_callS (nA := 1) (Y := xX11_isDay) (y := yX11_isDay) (As := [bI _]) (ix := 102) (b_met (by decide) ⟨rfl, rfl⟩ (Nat.le_of_ble_eq_true rfl) (fun _ _ => ?_)) rfl wc_X11_isDay wm_11_102 wi_X11_isDay wn_11 ⟨by decide, by decide, by decide⟩ rfl ⟨by decide, by decide⟩ ⟨by decide, by decide⟩ (Nat.le_of_ble_eq_true rfl) dX11_dead_12 (fun r M' h => h)
      refine v_iload_n (f := 0) 0 rfl dX11_isDay_0 ?_
      refine v_if_lt (tgt := 15) dX11_isDay_1 (by decide) (fun h1_2 => ?_) (fun h1_2 => ?_)
      · refine v_iconst ⟨by decide, by decide⟩ dX11_isDay_15 ?_
        refine v_zreturn rfl (by first | exact Or.inl rfl | exact Or.inr rfl | omega | (split <;> simp)) dX11_isDay_16 ⟨by decide, by decide⟩ ?_
        dsimp only [Option.toList, List.cons_append, List.nil_append]
        refine v_if_ne (tgt := 21) dX11_dead_15 (by decide) (fun h15 => ?_) (fun h15 => ?_)
        · refine v_aload_n (f := 0) 0 rfl dX11_dead_21 ?_
          refine v_getR (kf := 5) (kz := 5) rfl kd_0 rfl ⟨by decide, by decide⟩ rfl wf_11_51 dX11_dead_22 ?_
          refine v_callV (nA := 0) (Y := xX4_forget) (y := yX4_forget) (As := []) (ix := 113) (b_met (by decide) ⟨rfl, rfl⟩ (Nat.le_of_ble_eq_true rfl) (fun _ _ => ?_)) rfl kd_6 rfl rfl wc_X4_forget wm_11_113 wi_X4_forget ws_X4_forget wn_4 ⟨by decide, by decide, by decide⟩ rfl ⟨by decide, by decide⟩ ⟨by decide, by decide⟩ (Nat.le_of_ble_eq_true rfl) dX11_dead_25 (fun r M' h => h)
          refine v_aload_n (f := 0) 0 rfl dX4_forget_0 ?_
          refine v_iconst ⟨by decide, by decide⟩ dX4_forget_1 ?_
          refine v_putZ (kf := 5) (kz := 5) rfl kd_6 rfl ⟨by decide, by decide⟩ rfl (by first | exact Or.inl rfl | exact Or.inr rfl | omega) wf_4_47 rfl rfl dX4_forget_2 ?_
          refine v_return rfl dX4_forget_5 ⟨by decide, by decide⟩ ?_
          dsimp only [Option.toList, List.cons_append, List.nil_append]
          refine v_aload_n (f := 0) 0 rfl dX11_dead_28 ?_
          refine v_getR (kf := 1) (kz := 1) rfl kd_0 rfl ⟨by decide, by decide⟩ rfl wf_11_19 dX11_dead_29 ?_
          refine v_iconst ⟨by decide, by decide⟩ dX11_dead_32 ?_
          refine v_iload_n (f := 1) 1 rfl dX11_dead_33 ?_
          refine v_iload_n (f := 2) 2 rfl dX11_dead_34 ?_
          refine v_aload_n (f := 0) 0 rfl dX11_dead_35 ?_
          refine v_getI (kf := 10) (kz := 10) rfl kd_0 rfl ⟨by decide, by decide⟩ rfl wf_11_91 dX11_dead_36 ?_
          try simp (disch := decide) only [b_upc, b_upi, b_ups]
          refine v_callV (nA := 4) (Y := xX8_tell) (y := yX8_tell) (As := [bI _, bI _, bI _, bI _]) (ix := 116) (b_met (by decide) ⟨rfl, rfl⟩ (Nat.le_of_ble_eq_true rfl) (fun _ _ => ?_)) rfl kd_2 rfl rfl wc_X8_tell wm_11_116 wi_X8_tell ws_X8_tell wn_8 ⟨by decide, by decide, by decide⟩ rfl ⟨by decide, by decide⟩ ⟨by decide, by decide⟩ (Nat.le_of_ble_eq_true rfl) dX11_dead_39 (fun r M' h => h)
          refine v_aload_n (f := 0) 0 rfl dX8_tell_0 ?_
          refine v_getI (kf := 1) (kz := 1) rfl kd_2 rfl ⟨by decide, by decide⟩ rfl wf_8_47 dX8_tell_1 ?_
          try simp (disch := decide) only [b_upc, b_upi, b_ups]
          refine v_sipush ⟨by decide, by decide⟩ (by decide) dX8_tell_4 ?_
          refine v_icmp_lt (tgt := 13) dX8_tell_7 (by decide) (fun h7_4 => ?_) (fun h7_4 => ?_)
          · refine v_aload_n (f := 0) 0 rfl dX8_tell_13 ?_
            refine v_getR (kf := 3) (kz := 3) rfl kd_2 rfl ⟨by decide, by decide⟩ rfl wf_8_15 dX8_tell_14 ?_
            refine v_aload_n (f := 0) 0 rfl dX8_tell_17 ?_
            refine v_getI (kf := 1) (kz := 1) rfl kd_2 rfl ⟨by decide, by decide⟩ rfl wf_8_47 dX8_tell_18 ?_
            try simp (disch := decide) only [b_upc, b_upi, b_ups]
            refine v_iload_n (f := 1) 1 rfl dX8_tell_21 ?_
            refine v_iastore kd_77 (by first | omega | (simp (disch := decide) only [b_upc, b_upi, b_ups]; omega)) (by decide) dX8_tell_22 ?_
            refine v_aload_n (f := 0) 0 rfl dX8_tell_23 ?_
            refine v_getR (kf := 4) (kz := 4) rfl kd_2 rfl ⟨by decide, by decide⟩ rfl wf_8_18 dX8_tell_24 ?_
            refine v_aload_n (f := 0) 0 rfl dX8_tell_27 ?_
            refine v_getI (kf := 1) (kz := 1) rfl kd_2 rfl ⟨by decide, by decide⟩ rfl wf_8_47 dX8_tell_28 ?_
            try simp (disch := decide) only [b_upc, b_upi, b_ups]
            refine v_iload_n (f := 2) 2 rfl dX8_tell_31 ?_
            refine v_iastore kd_78 (by first | omega | (simp (disch := decide) only [b_upc, b_upi, b_ups]; omega)) (by decide) dX8_tell_32 ?_
            refine v_aload_n (f := 0) 0 rfl dX8_tell_33 ?_
            refine v_getR (kf := 5) (kz := 5) rfl kd_2 rfl ⟨by decide, by decide⟩ rfl wf_8_21 dX8_tell_34 ?_
            refine v_aload_n (f := 0) 0 rfl dX8_tell_37 ?_
            refine v_getI (kf := 1) (kz := 1) rfl kd_2 rfl ⟨by decide, by decide⟩ rfl wf_8_47 dX8_tell_38 ?_
            try simp (disch := decide) only [b_upc, b_upi, b_ups]
            refine v_iload_n (f := 3) 3 rfl dX8_tell_41 ?_
            refine v_iastore kd_79 (by first | omega | (simp (disch := decide) only [b_upc, b_upi, b_ups]; omega)) (by decide) dX8_tell_42 ?_
            refine v_aload_n (f := 0) 0 rfl dX8_tell_43 ?_
            refine v_getR (kf := 6) (kz := 6) rfl kd_2 rfl ⟨by decide, by decide⟩ rfl wf_8_24 dX8_tell_44 ?_
            refine v_aload_n (f := 0) 0 rfl dX8_tell_47 ?_
            refine v_getI (kf := 1) (kz := 1) rfl kd_2 rfl ⟨by decide, by decide⟩ rfl wf_8_47 dX8_tell_48 ?_
            try simp (disch := decide) only [b_upc, b_upi, b_ups]
            refine v_iload (i := 4) 4 rfl dX8_tell_51 ?_
            refine v_iastore kd_80 (by first | omega | (simp (disch := decide) only [b_upc, b_upi, b_ups]; omega)) (by decide) dX8_tell_53 ?_
            refine v_aload_n (f := 0) 0 rfl dX8_tell_54 ?_
            refine v_dup rfl dX8_tell_55 ?_
            refine v_getI (kf := 1) (kz := 1) rfl kd_2 rfl ⟨by decide, by decide⟩ rfl wf_8_47 dX8_tell_56 ?_
            try simp (disch := decide) only [b_upc, b_upi, b_ups]
            refine v_iconst ⟨by decide, by decide⟩ dX8_tell_59 ?_
            refine v_iaddN (by unfold b_r32; first | omega | (simp (disch := decide) only [b_upc, b_upi, b_ups]; omega)) dX8_tell_60 ?_
            refine v_putI (kf := 1) (kz := 1) rfl kd_2 rfl ⟨by decide, by decide⟩ rfl wf_8_47 rfl rfl dX8_tell_61 ?_
            refine v_aload_n (f := 0) 0 rfl dX8_tell_64 ?_
            refine v_getI (kf := 1) (kz := 1) rfl kd_2 rfl ⟨by decide, by decide⟩ rfl wf_8_47 dX8_tell_65 ?_
            try simp (disch := decide) only [b_upc, b_upi, b_ups]
            refine v_ireturn rfl dX8_tell_68 ⟨by decide, by decide⟩ ?_
            dsimp only [Option.toList, List.cons_append, List.nil_append]
            refine v_ireturn rfl dX11_dead_42 ⟨by decide, by decide⟩ ?_
            first | exact Or.inl ⟨by omega, rfl, rfl⟩ | exact Or.inr (Or.inl ⟨by omega, rfl, rfl⟩) | exact Or.inr (Or.inr (⟨by omega, rfl, rfl⟩))
          · refine v_bipush ⟨by decide, by decide⟩ (by decide) dX8_tell_10 ?_
            refine v_ireturn rfl dX8_tell_12 ⟨by decide, by decide⟩ ?_
            dsimp only [Option.toList, List.cons_append, List.nil_append]
            refine v_ireturn rfl dX11_dead_42 ⟨by decide, by decide⟩ ?_
            first | exact Or.inl ⟨by omega, rfl, rfl⟩ | exact Or.inr (Or.inl ⟨by omega, rfl, rfl⟩) | exact Or.inr (Or.inr (⟨by omega, rfl, rfl⟩))
        · refine v_bipush ⟨by decide, by decide⟩ (by decide) dX11_dead_18 ?_
          refine v_ireturn rfl dX11_dead_20 ⟨by decide, by decide⟩ ?_
          first | exact Or.inl ⟨by omega, rfl, rfl⟩ | exact Or.inr (Or.inl ⟨by omega, rfl, rfl⟩) | exact Or.inr (Or.inr (⟨by omega, rfl, rfl⟩))
      · refine v_iload_n (f := 0) 0 rfl dX11_isDay_4 ?_
        refine v_sipush ⟨by decide, by decide⟩ (by decide) dX11_isDay_5 ?_
        refine v_icmp_gt (tgt := 15) dX11_isDay_8 (by decide) (fun h8_2 => ?_) (fun h8_2 => ?_)
        · refine v_iconst ⟨by decide, by decide⟩ dX11_isDay_15 ?_
          refine v_zreturn rfl (by first | exact Or.inl rfl | exact Or.inr rfl | omega | (split <;> simp)) dX11_isDay_16 ⟨by decide, by decide⟩ ?_
          dsimp only [Option.toList, List.cons_append, List.nil_append]
          refine v_if_ne (tgt := 21) dX11_dead_15 (by decide) (fun h15 => ?_) (fun h15 => ?_)
          · refine v_aload_n (f := 0) 0 rfl dX11_dead_21 ?_
            refine v_getR (kf := 5) (kz := 5) rfl kd_0 rfl ⟨by decide, by decide⟩ rfl wf_11_51 dX11_dead_22 ?_
            refine v_callV (nA := 0) (Y := xX4_forget) (y := yX4_forget) (As := []) (ix := 113) (b_met (by decide) ⟨rfl, rfl⟩ (Nat.le_of_ble_eq_true rfl) (fun _ _ => ?_)) rfl kd_6 rfl rfl wc_X4_forget wm_11_113 wi_X4_forget ws_X4_forget wn_4 ⟨by decide, by decide, by decide⟩ rfl ⟨by decide, by decide⟩ ⟨by decide, by decide⟩ (Nat.le_of_ble_eq_true rfl) dX11_dead_25 (fun r M' h => h)
            refine v_aload_n (f := 0) 0 rfl dX4_forget_0 ?_
            refine v_iconst ⟨by decide, by decide⟩ dX4_forget_1 ?_
            refine v_putZ (kf := 5) (kz := 5) rfl kd_6 rfl ⟨by decide, by decide⟩ rfl (by first | exact Or.inl rfl | exact Or.inr rfl | omega) wf_4_47 rfl rfl dX4_forget_2 ?_
            refine v_return rfl dX4_forget_5 ⟨by decide, by decide⟩ ?_
            dsimp only [Option.toList, List.cons_append, List.nil_append]
            refine v_aload_n (f := 0) 0 rfl dX11_dead_28 ?_
            refine v_getR (kf := 1) (kz := 1) rfl kd_0 rfl ⟨by decide, by decide⟩ rfl wf_11_19 dX11_dead_29 ?_
            refine v_iconst ⟨by decide, by decide⟩ dX11_dead_32 ?_
            refine v_iload_n (f := 1) 1 rfl dX11_dead_33 ?_
            refine v_iload_n (f := 2) 2 rfl dX11_dead_34 ?_
            refine v_aload_n (f := 0) 0 rfl dX11_dead_35 ?_
            refine v_getI (kf := 10) (kz := 10) rfl kd_0 rfl ⟨by decide, by decide⟩ rfl wf_11_91 dX11_dead_36 ?_
            try simp (disch := decide) only [b_upc, b_upi, b_ups]
            refine v_callV (nA := 4) (Y := xX8_tell) (y := yX8_tell) (As := [bI _, bI _, bI _, bI _]) (ix := 116) (b_met (by decide) ⟨rfl, rfl⟩ (Nat.le_of_ble_eq_true rfl) (fun _ _ => ?_)) rfl kd_2 rfl rfl wc_X8_tell wm_11_116 wi_X8_tell ws_X8_tell wn_8 ⟨by decide, by decide, by decide⟩ rfl ⟨by decide, by decide⟩ ⟨by decide, by decide⟩ (Nat.le_of_ble_eq_true rfl) dX11_dead_39 (fun r M' h => h)
            refine v_aload_n (f := 0) 0 rfl dX8_tell_0 ?_
            refine v_getI (kf := 1) (kz := 1) rfl kd_2 rfl ⟨by decide, by decide⟩ rfl wf_8_47 dX8_tell_1 ?_
            try simp (disch := decide) only [b_upc, b_upi, b_ups]
            refine v_sipush ⟨by decide, by decide⟩ (by decide) dX8_tell_4 ?_
            refine v_icmp_lt (tgt := 13) dX8_tell_7 (by decide) (fun h7_6 => ?_) (fun h7_6 => ?_)
            · refine v_aload_n (f := 0) 0 rfl dX8_tell_13 ?_
              refine v_getR (kf := 3) (kz := 3) rfl kd_2 rfl ⟨by decide, by decide⟩ rfl wf_8_15 dX8_tell_14 ?_
              refine v_aload_n (f := 0) 0 rfl dX8_tell_17 ?_
              refine v_getI (kf := 1) (kz := 1) rfl kd_2 rfl ⟨by decide, by decide⟩ rfl wf_8_47 dX8_tell_18 ?_
              try simp (disch := decide) only [b_upc, b_upi, b_ups]
              refine v_iload_n (f := 1) 1 rfl dX8_tell_21 ?_
              refine v_iastore kd_77 (by first | omega | (simp (disch := decide) only [b_upc, b_upi, b_ups]; omega)) (by decide) dX8_tell_22 ?_
              refine v_aload_n (f := 0) 0 rfl dX8_tell_23 ?_
              refine v_getR (kf := 4) (kz := 4) rfl kd_2 rfl ⟨by decide, by decide⟩ rfl wf_8_18 dX8_tell_24 ?_
              refine v_aload_n (f := 0) 0 rfl dX8_tell_27 ?_
              refine v_getI (kf := 1) (kz := 1) rfl kd_2 rfl ⟨by decide, by decide⟩ rfl wf_8_47 dX8_tell_28 ?_
              try simp (disch := decide) only [b_upc, b_upi, b_ups]
              refine v_iload_n (f := 2) 2 rfl dX8_tell_31 ?_
              refine v_iastore kd_78 (by first | omega | (simp (disch := decide) only [b_upc, b_upi, b_ups]; omega)) (by decide) dX8_tell_32 ?_
              refine v_aload_n (f := 0) 0 rfl dX8_tell_33 ?_
              refine v_getR (kf := 5) (kz := 5) rfl kd_2 rfl ⟨by decide, by decide⟩ rfl wf_8_21 dX8_tell_34 ?_
              refine v_aload_n (f := 0) 0 rfl dX8_tell_37 ?_
              refine v_getI (kf := 1) (kz := 1) rfl kd_2 rfl ⟨by decide, by decide⟩ rfl wf_8_47 dX8_tell_38 ?_
              try simp (disch := decide) only [b_upc, b_upi, b_ups]
              refine v_iload_n (f := 3) 3 rfl dX8_tell_41 ?_
              refine v_iastore kd_79 (by first | omega | (simp (disch := decide) only [b_upc, b_upi, b_ups]; omega)) (by decide) dX8_tell_42 ?_
              refine v_aload_n (f := 0) 0 rfl dX8_tell_43 ?_
              refine v_getR (kf := 6) (kz := 6) rfl kd_2 rfl ⟨by decide, by decide⟩ rfl wf_8_24 dX8_tell_44 ?_
              refine v_aload_n (f := 0) 0 rfl dX8_tell_47 ?_
              refine v_getI (kf := 1) (kz := 1) rfl kd_2 rfl ⟨by decide, by decide⟩ rfl wf_8_47 dX8_tell_48 ?_
              try simp (disch := decide) only [b_upc, b_upi, b_ups]
              refine v_iload (i := 4) 4 rfl dX8_tell_51 ?_
              refine v_iastore kd_80 (by first | omega | (simp (disch := decide) only [b_upc, b_upi, b_ups]; omega)) (by decide) dX8_tell_53 ?_
              refine v_aload_n (f := 0) 0 rfl dX8_tell_54 ?_
              refine v_dup rfl dX8_tell_55 ?_
              refine v_getI (kf := 1) (kz := 1) rfl kd_2 rfl ⟨by decide, by decide⟩ rfl wf_8_47 dX8_tell_56 ?_
              try simp (disch := decide) only [b_upc, b_upi, b_ups]
              refine v_iconst ⟨by decide, by decide⟩ dX8_tell_59 ?_
              refine v_iaddN (by unfold b_r32; first | omega | (simp (disch := decide) only [b_upc, b_upi, b_ups]; omega)) dX8_tell_60 ?_
              refine v_putI (kf := 1) (kz := 1) rfl kd_2 rfl ⟨by decide, by decide⟩ rfl wf_8_47 rfl rfl dX8_tell_61 ?_
              refine v_aload_n (f := 0) 0 rfl dX8_tell_64 ?_
              refine v_getI (kf := 1) (kz := 1) rfl kd_2 rfl ⟨by decide, by decide⟩ rfl wf_8_47 dX8_tell_65 ?_
              try simp (disch := decide) only [b_upc, b_upi, b_ups]
              refine v_ireturn rfl dX8_tell_68 ⟨by decide, by decide⟩ ?_
              dsimp only [Option.toList, List.cons_append, List.nil_append]
              refine v_ireturn rfl dX11_dead_42 ⟨by decide, by decide⟩ ?_
              first | exact Or.inl ⟨by omega, rfl, rfl⟩ | exact Or.inr (Or.inl ⟨by omega, rfl, rfl⟩) | exact Or.inr (Or.inr (⟨by omega, rfl, rfl⟩))
            · refine v_bipush ⟨by decide, by decide⟩ (by decide) dX8_tell_10 ?_
              refine v_ireturn rfl dX8_tell_12 ⟨by decide, by decide⟩ ?_
              dsimp only [Option.toList, List.cons_append, List.nil_append]
              refine v_ireturn rfl dX11_dead_42 ⟨by decide, by decide⟩ ?_
              first | exact Or.inl ⟨by omega, rfl, rfl⟩ | exact Or.inr (Or.inl ⟨by omega, rfl, rfl⟩) | exact Or.inr (Or.inr (⟨by omega, rfl, rfl⟩))
          · refine v_bipush ⟨by decide, by decide⟩ (by decide) dX11_dead_18 ?_
            refine v_ireturn rfl dX11_dead_20 ⟨by decide, by decide⟩ ?_
            first | exact Or.inl ⟨by omega, rfl, rfl⟩ | exact Or.inr (Or.inl ⟨by omega, rfl, rfl⟩) | exact Or.inr (Or.inr (⟨by omega, rfl, rfl⟩))
        · refine v_iconst ⟨by decide, by decide⟩ dX11_isDay_11 ?_
          refine v_goto (tgt := 16) dX11_isDay_12 (by decide) ?_
          refine v_zreturn rfl (by first | exact Or.inl rfl | exact Or.inr rfl | omega | (split <;> simp)) dX11_isDay_16 ⟨by decide, by decide⟩ ?_
          dsimp only [Option.toList, List.cons_append, List.nil_append]
          refine v_if_ne (tgt := 21) dX11_dead_15 (by decide) (fun h15 => ?_) (fun h15 => ?_)
          · refine v_aload_n (f := 0) 0 rfl dX11_dead_21 ?_
            refine v_getR (kf := 5) (kz := 5) rfl kd_0 rfl ⟨by decide, by decide⟩ rfl wf_11_51 dX11_dead_22 ?_
            refine v_callV (nA := 0) (Y := xX4_forget) (y := yX4_forget) (As := []) (ix := 113) (b_met (by decide) ⟨rfl, rfl⟩ (Nat.le_of_ble_eq_true rfl) (fun _ _ => ?_)) rfl kd_6 rfl rfl wc_X4_forget wm_11_113 wi_X4_forget ws_X4_forget wn_4 ⟨by decide, by decide, by decide⟩ rfl ⟨by decide, by decide⟩ ⟨by decide, by decide⟩ (Nat.le_of_ble_eq_true rfl) dX11_dead_25 (fun r M' h => h)
            refine v_aload_n (f := 0) 0 rfl dX4_forget_0 ?_
            refine v_iconst ⟨by decide, by decide⟩ dX4_forget_1 ?_
            refine v_putZ (kf := 5) (kz := 5) rfl kd_6 rfl ⟨by decide, by decide⟩ rfl (by first | exact Or.inl rfl | exact Or.inr rfl | omega) wf_4_47 rfl rfl dX4_forget_2 ?_
            refine v_return rfl dX4_forget_5 ⟨by decide, by decide⟩ ?_
            dsimp only [Option.toList, List.cons_append, List.nil_append]
            refine v_aload_n (f := 0) 0 rfl dX11_dead_28 ?_
            refine v_getR (kf := 1) (kz := 1) rfl kd_0 rfl ⟨by decide, by decide⟩ rfl wf_11_19 dX11_dead_29 ?_
            refine v_iconst ⟨by decide, by decide⟩ dX11_dead_32 ?_
            refine v_iload_n (f := 1) 1 rfl dX11_dead_33 ?_
            refine v_iload_n (f := 2) 2 rfl dX11_dead_34 ?_
            refine v_aload_n (f := 0) 0 rfl dX11_dead_35 ?_
            refine v_getI (kf := 10) (kz := 10) rfl kd_0 rfl ⟨by decide, by decide⟩ rfl wf_11_91 dX11_dead_36 ?_
            try simp (disch := decide) only [b_upc, b_upi, b_ups]
            refine v_callV (nA := 4) (Y := xX8_tell) (y := yX8_tell) (As := [bI _, bI _, bI _, bI _]) (ix := 116) (b_met (by decide) ⟨rfl, rfl⟩ (Nat.le_of_ble_eq_true rfl) (fun _ _ => ?_)) rfl kd_2 rfl rfl wc_X8_tell wm_11_116 wi_X8_tell ws_X8_tell wn_8 ⟨by decide, by decide, by decide⟩ rfl ⟨by decide, by decide⟩ ⟨by decide, by decide⟩ (Nat.le_of_ble_eq_true rfl) dX11_dead_39 (fun r M' h => h)
            refine v_aload_n (f := 0) 0 rfl dX8_tell_0 ?_
            refine v_getI (kf := 1) (kz := 1) rfl kd_2 rfl ⟨by decide, by decide⟩ rfl wf_8_47 dX8_tell_1 ?_
            try simp (disch := decide) only [b_upc, b_upi, b_ups]
            refine v_sipush ⟨by decide, by decide⟩ (by decide) dX8_tell_4 ?_
            refine v_icmp_lt (tgt := 13) dX8_tell_7 (by decide) (fun h7_8 => ?_) (fun h7_8 => ?_)
            · refine v_aload_n (f := 0) 0 rfl dX8_tell_13 ?_
              refine v_getR (kf := 3) (kz := 3) rfl kd_2 rfl ⟨by decide, by decide⟩ rfl wf_8_15 dX8_tell_14 ?_
              refine v_aload_n (f := 0) 0 rfl dX8_tell_17 ?_
              refine v_getI (kf := 1) (kz := 1) rfl kd_2 rfl ⟨by decide, by decide⟩ rfl wf_8_47 dX8_tell_18 ?_
              try simp (disch := decide) only [b_upc, b_upi, b_ups]
              refine v_iload_n (f := 1) 1 rfl dX8_tell_21 ?_
              refine v_iastore kd_77 (by first | omega | (simp (disch := decide) only [b_upc, b_upi, b_ups]; omega)) (by decide) dX8_tell_22 ?_
              refine v_aload_n (f := 0) 0 rfl dX8_tell_23 ?_
              refine v_getR (kf := 4) (kz := 4) rfl kd_2 rfl ⟨by decide, by decide⟩ rfl wf_8_18 dX8_tell_24 ?_
              refine v_aload_n (f := 0) 0 rfl dX8_tell_27 ?_
              refine v_getI (kf := 1) (kz := 1) rfl kd_2 rfl ⟨by decide, by decide⟩ rfl wf_8_47 dX8_tell_28 ?_
              try simp (disch := decide) only [b_upc, b_upi, b_ups]
              refine v_iload_n (f := 2) 2 rfl dX8_tell_31 ?_
              refine v_iastore kd_78 (by first | omega | (simp (disch := decide) only [b_upc, b_upi, b_ups]; omega)) (by decide) dX8_tell_32 ?_
              refine v_aload_n (f := 0) 0 rfl dX8_tell_33 ?_
              refine v_getR (kf := 5) (kz := 5) rfl kd_2 rfl ⟨by decide, by decide⟩ rfl wf_8_21 dX8_tell_34 ?_
              refine v_aload_n (f := 0) 0 rfl dX8_tell_37 ?_
              refine v_getI (kf := 1) (kz := 1) rfl kd_2 rfl ⟨by decide, by decide⟩ rfl wf_8_47 dX8_tell_38 ?_
              try simp (disch := decide) only [b_upc, b_upi, b_ups]
              refine v_iload_n (f := 3) 3 rfl dX8_tell_41 ?_
              refine v_iastore kd_79 (by first | omega | (simp (disch := decide) only [b_upc, b_upi, b_ups]; omega)) (by decide) dX8_tell_42 ?_
              refine v_aload_n (f := 0) 0 rfl dX8_tell_43 ?_
              refine v_getR (kf := 6) (kz := 6) rfl kd_2 rfl ⟨by decide, by decide⟩ rfl wf_8_24 dX8_tell_44 ?_
              refine v_aload_n (f := 0) 0 rfl dX8_tell_47 ?_
              refine v_getI (kf := 1) (kz := 1) rfl kd_2 rfl ⟨by decide, by decide⟩ rfl wf_8_47 dX8_tell_48 ?_
              try simp (disch := decide) only [b_upc, b_upi, b_ups]
              refine v_iload (i := 4) 4 rfl dX8_tell_51 ?_
              refine v_iastore kd_80 (by first | omega | (simp (disch := decide) only [b_upc, b_upi, b_ups]; omega)) (by decide) dX8_tell_53 ?_
              refine v_aload_n (f := 0) 0 rfl dX8_tell_54 ?_
              refine v_dup rfl dX8_tell_55 ?_
              refine v_getI (kf := 1) (kz := 1) rfl kd_2 rfl ⟨by decide, by decide⟩ rfl wf_8_47 dX8_tell_56 ?_
              try simp (disch := decide) only [b_upc, b_upi, b_ups]
              refine v_iconst ⟨by decide, by decide⟩ dX8_tell_59 ?_
              refine v_iaddN (by unfold b_r32; first | omega | (simp (disch := decide) only [b_upc, b_upi, b_ups]; omega)) dX8_tell_60 ?_
              refine v_putI (kf := 1) (kz := 1) rfl kd_2 rfl ⟨by decide, by decide⟩ rfl wf_8_47 rfl rfl dX8_tell_61 ?_
              refine v_aload_n (f := 0) 0 rfl dX8_tell_64 ?_
              refine v_getI (kf := 1) (kz := 1) rfl kd_2 rfl ⟨by decide, by decide⟩ rfl wf_8_47 dX8_tell_65 ?_
              try simp (disch := decide) only [b_upc, b_upi, b_ups]
              refine v_ireturn rfl dX8_tell_68 ⟨by decide, by decide⟩ ?_
              dsimp only [Option.toList, List.cons_append, List.nil_append]
              refine v_ireturn rfl dX11_dead_42 ⟨by decide, by decide⟩ ?_
              first | exact Or.inl ⟨by omega, rfl, rfl⟩ | exact Or.inr (Or.inl ⟨by omega, rfl, rfl⟩) | exact Or.inr (Or.inr (⟨by omega, rfl, rfl⟩))
            · refine v_bipush ⟨by decide, by decide⟩ (by decide) dX8_tell_10 ?_
              refine v_ireturn rfl dX8_tell_12 ⟨by decide, by decide⟩ ?_
              dsimp only [Option.toList, List.cons_append, List.nil_append]
              refine v_ireturn rfl dX11_dead_42 ⟨by decide, by decide⟩ ?_
              first | exact Or.inl ⟨by omega, rfl, rfl⟩ | exact Or.inr (Or.inl ⟨by omega, rfl, rfl⟩) | exact Or.inr (Or.inr (⟨by omega, rfl, rfl⟩))
          · refine v_bipush ⟨by decide, by decide⟩ (by decide) dX11_dead_18 ?_
            refine v_ireturn rfl dX11_dead_20 ⟨by decide, by decide⟩ ?_
            first | exact Or.inl ⟨by omega, rfl, rfl⟩ | exact Or.inr (Or.inl ⟨by omega, rfl, rfl⟩) | exact Or.inr (Or.inr (⟨by omega, rfl, rfl⟩))
  · refine v_iload_n (f := 1) 1 rfl dX8_has_4 ?_
    refine v_aload_n (f := 0) 0 rfl dX8_has_5 ?_
    refine v_getI (kf := 0) (kz := 0) rfl kd_2 rfl ⟨by decide, by decide⟩ rfl wf_8_44 dX8_has_6 ?_
    refine v_icmp_ge (tgt := 16) dX8_has_9 (by decide) (fun h9_1 => ?_) (fun h9_1 => ?_)
    · refine v_iconst ⟨by decide, by decide⟩ dX8_has_16 ?_
      refine v_zreturn rfl (by first | exact Or.inl rfl | exact Or.inr rfl | omega | (split <;> simp)) dX8_has_17 ⟨by decide, by decide⟩ ?_
      dsimp only [Option.toList, List.cons_append, List.nil_append]
      refine v_if_eq (tgt := 18) dX11_dead_8 (by decide) (fun h8 => ?_) (fun h8 => ?_)
      · refine v_bipush ⟨by decide, by decide⟩ (by decide) dX11_dead_18 ?_
        refine v_ireturn rfl dX11_dead_20 ⟨by decide, by decide⟩ ?_
        first | exact Or.inl ⟨by omega, rfl, rfl⟩ | exact Or.inr (Or.inl ⟨by omega, rfl, rfl⟩) | exact Or.inr (Or.inr (⟨by omega, rfl, rfl⟩))
      · refine v_iload_n (f := 2) 2 rfl dX11_dead_11 ?_
        refine v_callS (nA := 1) (Y := xX11_isDay) (y := yX11_isDay) (As := [bI _]) (ix := 102) (b_met (by decide) ⟨rfl, rfl⟩ (Nat.le_of_ble_eq_true rfl) (fun _ _ => ?_)) rfl wc_X11_isDay wm_11_102 wi_X11_isDay wn_11 ⟨by decide, by decide, by decide⟩ rfl ⟨by decide, by decide⟩ ⟨by decide, by decide⟩ (Nat.le_of_ble_eq_true rfl) dX11_dead_12 (fun r M' h => h)
        refine v_iload_n (f := 0) 0 rfl dX11_isDay_0 ?_
        refine v_if_lt (tgt := 15) dX11_isDay_1 (by decide) (fun h1_9 => ?_) (fun h1_9 => ?_)
        · refine v_iconst ⟨by decide, by decide⟩ dX11_isDay_15 ?_
          refine v_zreturn rfl (by first | exact Or.inl rfl | exact Or.inr rfl | omega | (split <;> simp)) dX11_isDay_16 ⟨by decide, by decide⟩ ?_
          dsimp only [Option.toList, List.cons_append, List.nil_append]
          refine v_if_ne (tgt := 21) dX11_dead_15 (by decide) (fun h15 => ?_) (fun h15 => ?_)
          · refine v_aload_n (f := 0) 0 rfl dX11_dead_21 ?_
            refine v_getR (kf := 5) (kz := 5) rfl kd_0 rfl ⟨by decide, by decide⟩ rfl wf_11_51 dX11_dead_22 ?_
            refine v_callV (nA := 0) (Y := xX4_forget) (y := yX4_forget) (As := []) (ix := 113) (b_met (by decide) ⟨rfl, rfl⟩ (Nat.le_of_ble_eq_true rfl) (fun _ _ => ?_)) rfl kd_6 rfl rfl wc_X4_forget wm_11_113 wi_X4_forget ws_X4_forget wn_4 ⟨by decide, by decide, by decide⟩ rfl ⟨by decide, by decide⟩ ⟨by decide, by decide⟩ (Nat.le_of_ble_eq_true rfl) dX11_dead_25 (fun r M' h => h)
            refine v_aload_n (f := 0) 0 rfl dX4_forget_0 ?_
            refine v_iconst ⟨by decide, by decide⟩ dX4_forget_1 ?_
            refine v_putZ (kf := 5) (kz := 5) rfl kd_6 rfl ⟨by decide, by decide⟩ rfl (by first | exact Or.inl rfl | exact Or.inr rfl | omega) wf_4_47 rfl rfl dX4_forget_2 ?_
            refine v_return rfl dX4_forget_5 ⟨by decide, by decide⟩ ?_
            dsimp only [Option.toList, List.cons_append, List.nil_append]
            refine v_aload_n (f := 0) 0 rfl dX11_dead_28 ?_
            refine v_getR (kf := 1) (kz := 1) rfl kd_0 rfl ⟨by decide, by decide⟩ rfl wf_11_19 dX11_dead_29 ?_
            refine v_iconst ⟨by decide, by decide⟩ dX11_dead_32 ?_
            refine v_iload_n (f := 1) 1 rfl dX11_dead_33 ?_
            refine v_iload_n (f := 2) 2 rfl dX11_dead_34 ?_
            refine v_aload_n (f := 0) 0 rfl dX11_dead_35 ?_
            refine v_getI (kf := 10) (kz := 10) rfl kd_0 rfl ⟨by decide, by decide⟩ rfl wf_11_91 dX11_dead_36 ?_
            try simp (disch := decide) only [b_upc, b_upi, b_ups]
            refine v_callV (nA := 4) (Y := xX8_tell) (y := yX8_tell) (As := [bI _, bI _, bI _, bI _]) (ix := 116) (b_met (by decide) ⟨rfl, rfl⟩ (Nat.le_of_ble_eq_true rfl) (fun _ _ => ?_)) rfl kd_2 rfl rfl wc_X8_tell wm_11_116 wi_X8_tell ws_X8_tell wn_8 ⟨by decide, by decide, by decide⟩ rfl ⟨by decide, by decide⟩ ⟨by decide, by decide⟩ (Nat.le_of_ble_eq_true rfl) dX11_dead_39 (fun r M' h => h)
            refine v_aload_n (f := 0) 0 rfl dX8_tell_0 ?_
            refine v_getI (kf := 1) (kz := 1) rfl kd_2 rfl ⟨by decide, by decide⟩ rfl wf_8_47 dX8_tell_1 ?_
            try simp (disch := decide) only [b_upc, b_upi, b_ups]
            refine v_sipush ⟨by decide, by decide⟩ (by decide) dX8_tell_4 ?_
            refine v_icmp_lt (tgt := 13) dX8_tell_7 (by decide) (fun h7_11 => ?_) (fun h7_11 => ?_)
            · refine v_aload_n (f := 0) 0 rfl dX8_tell_13 ?_
              refine v_getR (kf := 3) (kz := 3) rfl kd_2 rfl ⟨by decide, by decide⟩ rfl wf_8_15 dX8_tell_14 ?_
              refine v_aload_n (f := 0) 0 rfl dX8_tell_17 ?_
              refine v_getI (kf := 1) (kz := 1) rfl kd_2 rfl ⟨by decide, by decide⟩ rfl wf_8_47 dX8_tell_18 ?_
              try simp (disch := decide) only [b_upc, b_upi, b_ups]
              refine v_iload_n (f := 1) 1 rfl dX8_tell_21 ?_
              refine v_iastore kd_77 (by first | omega | (simp (disch := decide) only [b_upc, b_upi, b_ups]; omega)) (by decide) dX8_tell_22 ?_
              refine v_aload_n (f := 0) 0 rfl dX8_tell_23 ?_
              refine v_getR (kf := 4) (kz := 4) rfl kd_2 rfl ⟨by decide, by decide⟩ rfl wf_8_18 dX8_tell_24 ?_
              refine v_aload_n (f := 0) 0 rfl dX8_tell_27 ?_
              refine v_getI (kf := 1) (kz := 1) rfl kd_2 rfl ⟨by decide, by decide⟩ rfl wf_8_47 dX8_tell_28 ?_
              try simp (disch := decide) only [b_upc, b_upi, b_ups]
              refine v_iload_n (f := 2) 2 rfl dX8_tell_31 ?_
              refine v_iastore kd_78 (by first | omega | (simp (disch := decide) only [b_upc, b_upi, b_ups]; omega)) (by decide) dX8_tell_32 ?_
              refine v_aload_n (f := 0) 0 rfl dX8_tell_33 ?_
              refine v_getR (kf := 5) (kz := 5) rfl kd_2 rfl ⟨by decide, by decide⟩ rfl wf_8_21 dX8_tell_34 ?_
              refine v_aload_n (f := 0) 0 rfl dX8_tell_37 ?_
              refine v_getI (kf := 1) (kz := 1) rfl kd_2 rfl ⟨by decide, by decide⟩ rfl wf_8_47 dX8_tell_38 ?_
              try simp (disch := decide) only [b_upc, b_upi, b_ups]
              refine v_iload_n (f := 3) 3 rfl dX8_tell_41 ?_
              refine v_iastore kd_79 (by first | omega | (simp (disch := decide) only [b_upc, b_upi, b_ups]; omega)) (by decide) dX8_tell_42 ?_
              refine v_aload_n (f := 0) 0 rfl dX8_tell_43 ?_
              refine v_getR (kf := 6) (kz := 6) rfl kd_2 rfl ⟨by decide, by decide⟩ rfl wf_8_24 dX8_tell_44 ?_
              refine v_aload_n (f := 0) 0 rfl dX8_tell_47 ?_
              refine v_getI (kf := 1) (kz := 1) rfl kd_2 rfl ⟨by decide, by decide⟩ rfl wf_8_47 dX8_tell_48 ?_
              try simp (disch := decide) only [b_upc, b_upi, b_ups]
              refine v_iload (i := 4) 4 rfl dX8_tell_51 ?_
              refine v_iastore kd_80 (by first | omega | (simp (disch := decide) only [b_upc, b_upi, b_ups]; omega)) (by decide) dX8_tell_53 ?_
              refine v_aload_n (f := 0) 0 rfl dX8_tell_54 ?_
              refine v_dup rfl dX8_tell_55 ?_
              refine v_getI (kf := 1) (kz := 1) rfl kd_2 rfl ⟨by decide, by decide⟩ rfl wf_8_47 dX8_tell_56 ?_
              try simp (disch := decide) only [b_upc, b_upi, b_ups]
              refine v_iconst ⟨by decide, by decide⟩ dX8_tell_59 ?_
              refine v_iaddN (by unfold b_r32; first | omega | (simp (disch := decide) only [b_upc, b_upi, b_ups]; omega)) dX8_tell_60 ?_
              refine v_putI (kf := 1) (kz := 1) rfl kd_2 rfl ⟨by decide, by decide⟩ rfl wf_8_47 rfl rfl dX8_tell_61 ?_
              refine v_aload_n (f := 0) 0 rfl dX8_tell_64 ?_
              refine v_getI (kf := 1) (kz := 1) rfl kd_2 rfl ⟨by decide, by decide⟩ rfl wf_8_47 dX8_tell_65 ?_
              try simp (disch := decide) only [b_upc, b_upi, b_ups]
              refine v_ireturn rfl dX8_tell_68 ⟨by decide, by decide⟩ ?_
              dsimp only [Option.toList, List.cons_append, List.nil_append]
              refine v_ireturn rfl dX11_dead_42 ⟨by decide, by decide⟩ ?_
              first | exact Or.inl ⟨by omega, rfl, rfl⟩ | exact Or.inr (Or.inl ⟨by omega, rfl, rfl⟩) | exact Or.inr (Or.inr (⟨by omega, rfl, rfl⟩))
            · refine v_bipush ⟨by decide, by decide⟩ (by decide) dX8_tell_10 ?_
              refine v_ireturn rfl dX8_tell_12 ⟨by decide, by decide⟩ ?_
              dsimp only [Option.toList, List.cons_append, List.nil_append]
              refine v_ireturn rfl dX11_dead_42 ⟨by decide, by decide⟩ ?_
              first | exact Or.inl ⟨by omega, rfl, rfl⟩ | exact Or.inr (Or.inl ⟨by omega, rfl, rfl⟩) | exact Or.inr (Or.inr (⟨by omega, rfl, rfl⟩))
          · refine v_bipush ⟨by decide, by decide⟩ (by decide) dX11_dead_18 ?_
            refine v_ireturn rfl dX11_dead_20 ⟨by decide, by decide⟩ ?_
            first | exact Or.inl ⟨by omega, rfl, rfl⟩ | exact Or.inr (Or.inl ⟨by omega, rfl, rfl⟩) | exact Or.inr (Or.inr (⟨by omega, rfl, rfl⟩))
        · refine v_iload_n (f := 0) 0 rfl dX11_isDay_4 ?_
          refine v_sipush ⟨by decide, by decide⟩ (by decide) dX11_isDay_5 ?_
          refine v_icmp_gt (tgt := 15) dX11_isDay_8 (by decide) (fun h8_9 => ?_) (fun h8_9 => ?_)
          · refine v_iconst ⟨by decide, by decide⟩ dX11_isDay_15 ?_
            refine v_zreturn rfl (by first | exact Or.inl rfl | exact Or.inr rfl | omega | (split <;> simp)) dX11_isDay_16 ⟨by decide, by decide⟩ ?_
            dsimp only [Option.toList, List.cons_append, List.nil_append]
            refine v_if_ne (tgt := 21) dX11_dead_15 (by decide) (fun h15 => ?_) (fun h15 => ?_)
            · refine v_aload_n (f := 0) 0 rfl dX11_dead_21 ?_
              refine v_getR (kf := 5) (kz := 5) rfl kd_0 rfl ⟨by decide, by decide⟩ rfl wf_11_51 dX11_dead_22 ?_
              refine v_callV (nA := 0) (Y := xX4_forget) (y := yX4_forget) (As := []) (ix := 113) (b_met (by decide) ⟨rfl, rfl⟩ (Nat.le_of_ble_eq_true rfl) (fun _ _ => ?_)) rfl kd_6 rfl rfl wc_X4_forget wm_11_113 wi_X4_forget ws_X4_forget wn_4 ⟨by decide, by decide, by decide⟩ rfl ⟨by decide, by decide⟩ ⟨by decide, by decide⟩ (Nat.le_of_ble_eq_true rfl) dX11_dead_25 (fun r M' h => h)
              refine v_aload_n (f := 0) 0 rfl dX4_forget_0 ?_
              refine v_iconst ⟨by decide, by decide⟩ dX4_forget_1 ?_
              refine v_putZ (kf := 5) (kz := 5) rfl kd_6 rfl ⟨by decide, by decide⟩ rfl (by first | exact Or.inl rfl | exact Or.inr rfl | omega) wf_4_47 rfl rfl dX4_forget_2 ?_
              refine v_return rfl dX4_forget_5 ⟨by decide, by decide⟩ ?_
              dsimp only [Option.toList, List.cons_append, List.nil_append]
              refine v_aload_n (f := 0) 0 rfl dX11_dead_28 ?_
              refine v_getR (kf := 1) (kz := 1) rfl kd_0 rfl ⟨by decide, by decide⟩ rfl wf_11_19 dX11_dead_29 ?_
              refine v_iconst ⟨by decide, by decide⟩ dX11_dead_32 ?_
              refine v_iload_n (f := 1) 1 rfl dX11_dead_33 ?_
              refine v_iload_n (f := 2) 2 rfl dX11_dead_34 ?_
              refine v_aload_n (f := 0) 0 rfl dX11_dead_35 ?_
              refine v_getI (kf := 10) (kz := 10) rfl kd_0 rfl ⟨by decide, by decide⟩ rfl wf_11_91 dX11_dead_36 ?_
              try simp (disch := decide) only [b_upc, b_upi, b_ups]
              refine v_callV (nA := 4) (Y := xX8_tell) (y := yX8_tell) (As := [bI _, bI _, bI _, bI _]) (ix := 116) (b_met (by decide) ⟨rfl, rfl⟩ (Nat.le_of_ble_eq_true rfl) (fun _ _ => ?_)) rfl kd_2 rfl rfl wc_X8_tell wm_11_116 wi_X8_tell ws_X8_tell wn_8 ⟨by decide, by decide, by decide⟩ rfl ⟨by decide, by decide⟩ ⟨by decide, by decide⟩ (Nat.le_of_ble_eq_true rfl) dX11_dead_39 (fun r M' h => h)
              refine v_aload_n (f := 0) 0 rfl dX8_tell_0 ?_
              refine v_getI (kf := 1) (kz := 1) rfl kd_2 rfl ⟨by decide, by decide⟩ rfl wf_8_47 dX8_tell_1 ?_
              try simp (disch := decide) only [b_upc, b_upi, b_ups]
              refine v_sipush ⟨by decide, by decide⟩ (by decide) dX8_tell_4 ?_
              refine v_icmp_lt (tgt := 13) dX8_tell_7 (by decide) (fun h7_13 => ?_) (fun h7_13 => ?_)
              · refine v_aload_n (f := 0) 0 rfl dX8_tell_13 ?_
                refine v_getR (kf := 3) (kz := 3) rfl kd_2 rfl ⟨by decide, by decide⟩ rfl wf_8_15 dX8_tell_14 ?_
                refine v_aload_n (f := 0) 0 rfl dX8_tell_17 ?_
                refine v_getI (kf := 1) (kz := 1) rfl kd_2 rfl ⟨by decide, by decide⟩ rfl wf_8_47 dX8_tell_18 ?_
                try simp (disch := decide) only [b_upc, b_upi, b_ups]
                refine v_iload_n (f := 1) 1 rfl dX8_tell_21 ?_
                refine v_iastore kd_77 (by first | omega | (simp (disch := decide) only [b_upc, b_upi, b_ups]; omega)) (by decide) dX8_tell_22 ?_
                refine v_aload_n (f := 0) 0 rfl dX8_tell_23 ?_
                refine v_getR (kf := 4) (kz := 4) rfl kd_2 rfl ⟨by decide, by decide⟩ rfl wf_8_18 dX8_tell_24 ?_
                refine v_aload_n (f := 0) 0 rfl dX8_tell_27 ?_
                refine v_getI (kf := 1) (kz := 1) rfl kd_2 rfl ⟨by decide, by decide⟩ rfl wf_8_47 dX8_tell_28 ?_
                try simp (disch := decide) only [b_upc, b_upi, b_ups]
                refine v_iload_n (f := 2) 2 rfl dX8_tell_31 ?_
                refine v_iastore kd_78 (by first | omega | (simp (disch := decide) only [b_upc, b_upi, b_ups]; omega)) (by decide) dX8_tell_32 ?_
                refine v_aload_n (f := 0) 0 rfl dX8_tell_33 ?_
                refine v_getR (kf := 5) (kz := 5) rfl kd_2 rfl ⟨by decide, by decide⟩ rfl wf_8_21 dX8_tell_34 ?_
                refine v_aload_n (f := 0) 0 rfl dX8_tell_37 ?_
                refine v_getI (kf := 1) (kz := 1) rfl kd_2 rfl ⟨by decide, by decide⟩ rfl wf_8_47 dX8_tell_38 ?_
                try simp (disch := decide) only [b_upc, b_upi, b_ups]
                refine v_iload_n (f := 3) 3 rfl dX8_tell_41 ?_
                refine v_iastore kd_79 (by first | omega | (simp (disch := decide) only [b_upc, b_upi, b_ups]; omega)) (by decide) dX8_tell_42 ?_
                refine v_aload_n (f := 0) 0 rfl dX8_tell_43 ?_
                refine v_getR (kf := 6) (kz := 6) rfl kd_2 rfl ⟨by decide, by decide⟩ rfl wf_8_24 dX8_tell_44 ?_
                refine v_aload_n (f := 0) 0 rfl dX8_tell_47 ?_
                refine v_getI (kf := 1) (kz := 1) rfl kd_2 rfl ⟨by decide, by decide⟩ rfl wf_8_47 dX8_tell_48 ?_
                try simp (disch := decide) only [b_upc, b_upi, b_ups]
                refine v_iload (i := 4) 4 rfl dX8_tell_51 ?_
                refine v_iastore kd_80 (by first | omega | (simp (disch := decide) only [b_upc, b_upi, b_ups]; omega)) (by decide) dX8_tell_53 ?_
                refine v_aload_n (f := 0) 0 rfl dX8_tell_54 ?_
                refine v_dup rfl dX8_tell_55 ?_
                refine v_getI (kf := 1) (kz := 1) rfl kd_2 rfl ⟨by decide, by decide⟩ rfl wf_8_47 dX8_tell_56 ?_
                try simp (disch := decide) only [b_upc, b_upi, b_ups]
                refine v_iconst ⟨by decide, by decide⟩ dX8_tell_59 ?_
                refine v_iaddN (by unfold b_r32; first | omega | (simp (disch := decide) only [b_upc, b_upi, b_ups]; omega)) dX8_tell_60 ?_
                refine v_putI (kf := 1) (kz := 1) rfl kd_2 rfl ⟨by decide, by decide⟩ rfl wf_8_47 rfl rfl dX8_tell_61 ?_
                refine v_aload_n (f := 0) 0 rfl dX8_tell_64 ?_
                refine v_getI (kf := 1) (kz := 1) rfl kd_2 rfl ⟨by decide, by decide⟩ rfl wf_8_47 dX8_tell_65 ?_
                try simp (disch := decide) only [b_upc, b_upi, b_ups]
                refine v_ireturn rfl dX8_tell_68 ⟨by decide, by decide⟩ ?_
                dsimp only [Option.toList, List.cons_append, List.nil_append]
                refine v_ireturn rfl dX11_dead_42 ⟨by decide, by decide⟩ ?_
                first | exact Or.inl ⟨by omega, rfl, rfl⟩ | exact Or.inr (Or.inl ⟨by omega, rfl, rfl⟩) | exact Or.inr (Or.inr (⟨by omega, rfl, rfl⟩))
              · refine v_bipush ⟨by decide, by decide⟩ (by decide) dX8_tell_10 ?_
                refine v_ireturn rfl dX8_tell_12 ⟨by decide, by decide⟩ ?_
                dsimp only [Option.toList, List.cons_append, List.nil_append]
                refine v_ireturn rfl dX11_dead_42 ⟨by decide, by decide⟩ ?_
                first | exact Or.inl ⟨by omega, rfl, rfl⟩ | exact Or.inr (Or.inl ⟨by omega, rfl, rfl⟩) | exact Or.inr (Or.inr (⟨by omega, rfl, rfl⟩))
            · refine v_bipush ⟨by decide, by decide⟩ (by decide) dX11_dead_18 ?_
              refine v_ireturn rfl dX11_dead_20 ⟨by decide, by decide⟩ ?_
              first | exact Or.inl ⟨by omega, rfl, rfl⟩ | exact Or.inr (Or.inl ⟨by omega, rfl, rfl⟩) | exact Or.inr (Or.inr (⟨by omega, rfl, rfl⟩))
          · refine v_iconst ⟨by decide, by decide⟩ dX11_isDay_11 ?_
            refine v_goto (tgt := 16) dX11_isDay_12 (by decide) ?_
            refine v_zreturn rfl (by first | exact Or.inl rfl | exact Or.inr rfl | omega | (split <;> simp)) dX11_isDay_16 ⟨by decide, by decide⟩ ?_
            dsimp only [Option.toList, List.cons_append, List.nil_append]
            refine v_if_ne (tgt := 21) dX11_dead_15 (by decide) (fun h15 => ?_) (fun h15 => ?_)
            · refine v_aload_n (f := 0) 0 rfl dX11_dead_21 ?_
              refine v_getR (kf := 5) (kz := 5) rfl kd_0 rfl ⟨by decide, by decide⟩ rfl wf_11_51 dX11_dead_22 ?_
              refine v_callV (nA := 0) (Y := xX4_forget) (y := yX4_forget) (As := []) (ix := 113) (b_met (by decide) ⟨rfl, rfl⟩ (Nat.le_of_ble_eq_true rfl) (fun _ _ => ?_)) rfl kd_6 rfl rfl wc_X4_forget wm_11_113 wi_X4_forget ws_X4_forget wn_4 ⟨by decide, by decide, by decide⟩ rfl ⟨by decide, by decide⟩ ⟨by decide, by decide⟩ (Nat.le_of_ble_eq_true rfl) dX11_dead_25 (fun r M' h => h)
              refine v_aload_n (f := 0) 0 rfl dX4_forget_0 ?_
              refine v_iconst ⟨by decide, by decide⟩ dX4_forget_1 ?_
              refine v_putZ (kf := 5) (kz := 5) rfl kd_6 rfl ⟨by decide, by decide⟩ rfl (by first | exact Or.inl rfl | exact Or.inr rfl | omega) wf_4_47 rfl rfl dX4_forget_2 ?_
              refine v_return rfl dX4_forget_5 ⟨by decide, by decide⟩ ?_
              dsimp only [Option.toList, List.cons_append, List.nil_append]
              refine v_aload_n (f := 0) 0 rfl dX11_dead_28 ?_
              refine v_getR (kf := 1) (kz := 1) rfl kd_0 rfl ⟨by decide, by decide⟩ rfl wf_11_19 dX11_dead_29 ?_
              refine v_iconst ⟨by decide, by decide⟩ dX11_dead_32 ?_
              refine v_iload_n (f := 1) 1 rfl dX11_dead_33 ?_
              refine v_iload_n (f := 2) 2 rfl dX11_dead_34 ?_
              refine v_aload_n (f := 0) 0 rfl dX11_dead_35 ?_
              refine v_getI (kf := 10) (kz := 10) rfl kd_0 rfl ⟨by decide, by decide⟩ rfl wf_11_91 dX11_dead_36 ?_
              try simp (disch := decide) only [b_upc, b_upi, b_ups]
              refine v_callV (nA := 4) (Y := xX8_tell) (y := yX8_tell) (As := [bI _, bI _, bI _, bI _]) (ix := 116) (b_met (by decide) ⟨rfl, rfl⟩ (Nat.le_of_ble_eq_true rfl) (fun _ _ => ?_)) rfl kd_2 rfl rfl wc_X8_tell wm_11_116 wi_X8_tell ws_X8_tell wn_8 ⟨by decide, by decide, by decide⟩ rfl ⟨by decide, by decide⟩ ⟨by decide, by decide⟩ (Nat.le_of_ble_eq_true rfl) dX11_dead_39 (fun r M' h => h)
              refine v_aload_n (f := 0) 0 rfl dX8_tell_0 ?_
              refine v_getI (kf := 1) (kz := 1) rfl kd_2 rfl ⟨by decide, by decide⟩ rfl wf_8_47 dX8_tell_1 ?_
              try simp (disch := decide) only [b_upc, b_upi, b_ups]
              refine v_sipush ⟨by decide, by decide⟩ (by decide) dX8_tell_4 ?_
              refine v_icmp_lt (tgt := 13) dX8_tell_7 (by decide) (fun h7_15 => ?_) (fun h7_15 => ?_)
              · refine v_aload_n (f := 0) 0 rfl dX8_tell_13 ?_
                refine v_getR (kf := 3) (kz := 3) rfl kd_2 rfl ⟨by decide, by decide⟩ rfl wf_8_15 dX8_tell_14 ?_
                refine v_aload_n (f := 0) 0 rfl dX8_tell_17 ?_
                refine v_getI (kf := 1) (kz := 1) rfl kd_2 rfl ⟨by decide, by decide⟩ rfl wf_8_47 dX8_tell_18 ?_
                try simp (disch := decide) only [b_upc, b_upi, b_ups]
                refine v_iload_n (f := 1) 1 rfl dX8_tell_21 ?_
                refine v_iastore kd_77 (by first | omega | (simp (disch := decide) only [b_upc, b_upi, b_ups]; omega)) (by decide) dX8_tell_22 ?_
                refine v_aload_n (f := 0) 0 rfl dX8_tell_23 ?_
                refine v_getR (kf := 4) (kz := 4) rfl kd_2 rfl ⟨by decide, by decide⟩ rfl wf_8_18 dX8_tell_24 ?_
                refine v_aload_n (f := 0) 0 rfl dX8_tell_27 ?_
                refine v_getI (kf := 1) (kz := 1) rfl kd_2 rfl ⟨by decide, by decide⟩ rfl wf_8_47 dX8_tell_28 ?_
                try simp (disch := decide) only [b_upc, b_upi, b_ups]
                refine v_iload_n (f := 2) 2 rfl dX8_tell_31 ?_
                refine v_iastore kd_78 (by first | omega | (simp (disch := decide) only [b_upc, b_upi, b_ups]; omega)) (by decide) dX8_tell_32 ?_
                refine v_aload_n (f := 0) 0 rfl dX8_tell_33 ?_
                refine v_getR (kf := 5) (kz := 5) rfl kd_2 rfl ⟨by decide, by decide⟩ rfl wf_8_21 dX8_tell_34 ?_
                refine v_aload_n (f := 0) 0 rfl dX8_tell_37 ?_
                refine v_getI (kf := 1) (kz := 1) rfl kd_2 rfl ⟨by decide, by decide⟩ rfl wf_8_47 dX8_tell_38 ?_
                try simp (disch := decide) only [b_upc, b_upi, b_ups]
                refine v_iload_n (f := 3) 3 rfl dX8_tell_41 ?_
                refine v_iastore kd_79 (by first | omega | (simp (disch := decide) only [b_upc, b_upi, b_ups]; omega)) (by decide) dX8_tell_42 ?_
                refine v_aload_n (f := 0) 0 rfl dX8_tell_43 ?_
                refine v_getR (kf := 6) (kz := 6) rfl kd_2 rfl ⟨by decide, by decide⟩ rfl wf_8_24 dX8_tell_44 ?_
                refine v_aload_n (f := 0) 0 rfl dX8_tell_47 ?_
                refine v_getI (kf := 1) (kz := 1) rfl kd_2 rfl ⟨by decide, by decide⟩ rfl wf_8_47 dX8_tell_48 ?_
                try simp (disch := decide) only [b_upc, b_upi, b_ups]
                refine v_iload (i := 4) 4 rfl dX8_tell_51 ?_
                refine v_iastore kd_80 (by first | omega | (simp (disch := decide) only [b_upc, b_upi, b_ups]; omega)) (by decide) dX8_tell_53 ?_
                refine v_aload_n (f := 0) 0 rfl dX8_tell_54 ?_
                refine v_dup rfl dX8_tell_55 ?_
                refine v_getI (kf := 1) (kz := 1) rfl kd_2 rfl ⟨by decide, by decide⟩ rfl wf_8_47 dX8_tell_56 ?_
                try simp (disch := decide) only [b_upc, b_upi, b_ups]
                refine v_iconst ⟨by decide, by decide⟩ dX8_tell_59 ?_
                refine v_iaddN (by unfold b_r32; first | omega | (simp (disch := decide) only [b_upc, b_upi, b_ups]; omega)) dX8_tell_60 ?_
                refine v_putI (kf := 1) (kz := 1) rfl kd_2 rfl ⟨by decide, by decide⟩ rfl wf_8_47 rfl rfl dX8_tell_61 ?_
                refine v_aload_n (f := 0) 0 rfl dX8_tell_64 ?_
                refine v_getI (kf := 1) (kz := 1) rfl kd_2 rfl ⟨by decide, by decide⟩ rfl wf_8_47 dX8_tell_65 ?_
                try simp (disch := decide) only [b_upc, b_upi, b_ups]
                refine v_ireturn rfl dX8_tell_68 ⟨by decide, by decide⟩ ?_
                dsimp only [Option.toList, List.cons_append, List.nil_append]
                refine v_ireturn rfl dX11_dead_42 ⟨by decide, by decide⟩ ?_
                first | exact Or.inl ⟨by omega, rfl, rfl⟩ | exact Or.inr (Or.inl ⟨by omega, rfl, rfl⟩) | exact Or.inr (Or.inr (⟨by omega, rfl, rfl⟩))
              · refine v_bipush ⟨by decide, by decide⟩ (by decide) dX8_tell_10 ?_
                refine v_ireturn rfl dX8_tell_12 ⟨by decide, by decide⟩ ?_
                dsimp only [Option.toList, List.cons_append, List.nil_append]
                refine v_ireturn rfl dX11_dead_42 ⟨by decide, by decide⟩ ?_
                first | exact Or.inl ⟨by omega, rfl, rfl⟩ | exact Or.inr (Or.inl ⟨by omega, rfl, rfl⟩) | exact Or.inr (Or.inr (⟨by omega, rfl, rfl⟩))
            · refine v_bipush ⟨by decide, by decide⟩ (by decide) dX11_dead_18 ?_
              refine v_ireturn rfl dX11_dead_20 ⟨by decide, by decide⟩ ?_
              first | exact Or.inl ⟨by omega, rfl, rfl⟩ | exact Or.inr (Or.inl ⟨by omega, rfl, rfl⟩) | exact Or.inr (Or.inr (⟨by omega, rfl, rfl⟩))
    · refine v_iconst ⟨by decide, by decide⟩ dX8_has_12 ?_
      refine v_goto (tgt := 17) dX8_has_13 (by decide) ?_
      refine v_zreturn rfl (by first | exact Or.inl rfl | exact Or.inr rfl | omega | (split <;> simp)) dX8_has_17 ⟨by decide, by decide⟩ ?_
      dsimp only [Option.toList, List.cons_append, List.nil_append]
      refine v_if_eq (tgt := 18) dX11_dead_8 (by decide) (fun h8 => ?_) (fun h8 => ?_)
      · refine v_bipush ⟨by decide, by decide⟩ (by decide) dX11_dead_18 ?_
        refine v_ireturn rfl dX11_dead_20 ⟨by decide, by decide⟩ ?_
        first | exact Or.inl ⟨by omega, rfl, rfl⟩ | exact Or.inr (Or.inl ⟨by omega, rfl, rfl⟩) | exact Or.inr (Or.inr (⟨by omega, rfl, rfl⟩))
      · refine v_iload_n (f := 2) 2 rfl dX11_dead_11 ?_
        refine v_callS (nA := 1) (Y := xX11_isDay) (y := yX11_isDay) (As := [bI _]) (ix := 102) (b_met (by decide) ⟨rfl, rfl⟩ (Nat.le_of_ble_eq_true rfl) (fun _ _ => ?_)) rfl wc_X11_isDay wm_11_102 wi_X11_isDay wn_11 ⟨by decide, by decide, by decide⟩ rfl ⟨by decide, by decide⟩ ⟨by decide, by decide⟩ (Nat.le_of_ble_eq_true rfl) dX11_dead_12 (fun r M' h => h)
        refine v_iload_n (f := 0) 0 rfl dX11_isDay_0 ?_
        refine v_if_lt (tgt := 15) dX11_isDay_1 (by decide) (fun h1_16 => ?_) (fun h1_16 => ?_)
        · refine v_iconst ⟨by decide, by decide⟩ dX11_isDay_15 ?_
          refine v_zreturn rfl (by first | exact Or.inl rfl | exact Or.inr rfl | omega | (split <;> simp)) dX11_isDay_16 ⟨by decide, by decide⟩ ?_
          dsimp only [Option.toList, List.cons_append, List.nil_append]
          refine v_if_ne (tgt := 21) dX11_dead_15 (by decide) (fun h15 => ?_) (fun h15 => ?_)
          · refine v_aload_n (f := 0) 0 rfl dX11_dead_21 ?_
            refine v_getR (kf := 5) (kz := 5) rfl kd_0 rfl ⟨by decide, by decide⟩ rfl wf_11_51 dX11_dead_22 ?_
            refine v_callV (nA := 0) (Y := xX4_forget) (y := yX4_forget) (As := []) (ix := 113) (b_met (by decide) ⟨rfl, rfl⟩ (Nat.le_of_ble_eq_true rfl) (fun _ _ => ?_)) rfl kd_6 rfl rfl wc_X4_forget wm_11_113 wi_X4_forget ws_X4_forget wn_4 ⟨by decide, by decide, by decide⟩ rfl ⟨by decide, by decide⟩ ⟨by decide, by decide⟩ (Nat.le_of_ble_eq_true rfl) dX11_dead_25 (fun r M' h => h)
            refine v_aload_n (f := 0) 0 rfl dX4_forget_0 ?_
            refine v_iconst ⟨by decide, by decide⟩ dX4_forget_1 ?_
            refine v_putZ (kf := 5) (kz := 5) rfl kd_6 rfl ⟨by decide, by decide⟩ rfl (by first | exact Or.inl rfl | exact Or.inr rfl | omega) wf_4_47 rfl rfl dX4_forget_2 ?_
            refine v_return rfl dX4_forget_5 ⟨by decide, by decide⟩ ?_
            dsimp only [Option.toList, List.cons_append, List.nil_append]
            refine v_aload_n (f := 0) 0 rfl dX11_dead_28 ?_
            refine v_getR (kf := 1) (kz := 1) rfl kd_0 rfl ⟨by decide, by decide⟩ rfl wf_11_19 dX11_dead_29 ?_
            refine v_iconst ⟨by decide, by decide⟩ dX11_dead_32 ?_
            refine v_iload_n (f := 1) 1 rfl dX11_dead_33 ?_
            refine v_iload_n (f := 2) 2 rfl dX11_dead_34 ?_
            refine v_aload_n (f := 0) 0 rfl dX11_dead_35 ?_
            refine v_getI (kf := 10) (kz := 10) rfl kd_0 rfl ⟨by decide, by decide⟩ rfl wf_11_91 dX11_dead_36 ?_
            try simp (disch := decide) only [b_upc, b_upi, b_ups]
            refine v_callV (nA := 4) (Y := xX8_tell) (y := yX8_tell) (As := [bI _, bI _, bI _, bI _]) (ix := 116) (b_met (by decide) ⟨rfl, rfl⟩ (Nat.le_of_ble_eq_true rfl) (fun _ _ => ?_)) rfl kd_2 rfl rfl wc_X8_tell wm_11_116 wi_X8_tell ws_X8_tell wn_8 ⟨by decide, by decide, by decide⟩ rfl ⟨by decide, by decide⟩ ⟨by decide, by decide⟩ (Nat.le_of_ble_eq_true rfl) dX11_dead_39 (fun r M' h => h)
            refine v_aload_n (f := 0) 0 rfl dX8_tell_0 ?_
            refine v_getI (kf := 1) (kz := 1) rfl kd_2 rfl ⟨by decide, by decide⟩ rfl wf_8_47 dX8_tell_1 ?_
            try simp (disch := decide) only [b_upc, b_upi, b_ups]
            refine v_sipush ⟨by decide, by decide⟩ (by decide) dX8_tell_4 ?_
            refine v_icmp_lt (tgt := 13) dX8_tell_7 (by decide) (fun h7_18 => ?_) (fun h7_18 => ?_)
            · refine v_aload_n (f := 0) 0 rfl dX8_tell_13 ?_
              refine v_getR (kf := 3) (kz := 3) rfl kd_2 rfl ⟨by decide, by decide⟩ rfl wf_8_15 dX8_tell_14 ?_
              refine v_aload_n (f := 0) 0 rfl dX8_tell_17 ?_
              refine v_getI (kf := 1) (kz := 1) rfl kd_2 rfl ⟨by decide, by decide⟩ rfl wf_8_47 dX8_tell_18 ?_
              try simp (disch := decide) only [b_upc, b_upi, b_ups]
              refine v_iload_n (f := 1) 1 rfl dX8_tell_21 ?_
              refine v_iastore kd_77 (by first | omega | (simp (disch := decide) only [b_upc, b_upi, b_ups]; omega)) (by decide) dX8_tell_22 ?_
              refine v_aload_n (f := 0) 0 rfl dX8_tell_23 ?_
              refine v_getR (kf := 4) (kz := 4) rfl kd_2 rfl ⟨by decide, by decide⟩ rfl wf_8_18 dX8_tell_24 ?_
              refine v_aload_n (f := 0) 0 rfl dX8_tell_27 ?_
              refine v_getI (kf := 1) (kz := 1) rfl kd_2 rfl ⟨by decide, by decide⟩ rfl wf_8_47 dX8_tell_28 ?_
              try simp (disch := decide) only [b_upc, b_upi, b_ups]
              refine v_iload_n (f := 2) 2 rfl dX8_tell_31 ?_
              refine v_iastore kd_78 (by first | omega | (simp (disch := decide) only [b_upc, b_upi, b_ups]; omega)) (by decide) dX8_tell_32 ?_
              refine v_aload_n (f := 0) 0 rfl dX8_tell_33 ?_
              refine v_getR (kf := 5) (kz := 5) rfl kd_2 rfl ⟨by decide, by decide⟩ rfl wf_8_21 dX8_tell_34 ?_
              refine v_aload_n (f := 0) 0 rfl dX8_tell_37 ?_
              refine v_getI (kf := 1) (kz := 1) rfl kd_2 rfl ⟨by decide, by decide⟩ rfl wf_8_47 dX8_tell_38 ?_
              try simp (disch := decide) only [b_upc, b_upi, b_ups]
              refine v_iload_n (f := 3) 3 rfl dX8_tell_41 ?_
              refine v_iastore kd_79 (by first | omega | (simp (disch := decide) only [b_upc, b_upi, b_ups]; omega)) (by decide) dX8_tell_42 ?_
              refine v_aload_n (f := 0) 0 rfl dX8_tell_43 ?_
              refine v_getR (kf := 6) (kz := 6) rfl kd_2 rfl ⟨by decide, by decide⟩ rfl wf_8_24 dX8_tell_44 ?_
              refine v_aload_n (f := 0) 0 rfl dX8_tell_47 ?_
              refine v_getI (kf := 1) (kz := 1) rfl kd_2 rfl ⟨by decide, by decide⟩ rfl wf_8_47 dX8_tell_48 ?_
              try simp (disch := decide) only [b_upc, b_upi, b_ups]
              refine v_iload (i := 4) 4 rfl dX8_tell_51 ?_
              refine v_iastore kd_80 (by first | omega | (simp (disch := decide) only [b_upc, b_upi, b_ups]; omega)) (by decide) dX8_tell_53 ?_
              refine v_aload_n (f := 0) 0 rfl dX8_tell_54 ?_
              refine v_dup rfl dX8_tell_55 ?_
              refine v_getI (kf := 1) (kz := 1) rfl kd_2 rfl ⟨by decide, by decide⟩ rfl wf_8_47 dX8_tell_56 ?_
              try simp (disch := decide) only [b_upc, b_upi, b_ups]
              refine v_iconst ⟨by decide, by decide⟩ dX8_tell_59 ?_
              refine v_iaddN (by unfold b_r32; first | omega | (simp (disch := decide) only [b_upc, b_upi, b_ups]; omega)) dX8_tell_60 ?_
              refine v_putI (kf := 1) (kz := 1) rfl kd_2 rfl ⟨by decide, by decide⟩ rfl wf_8_47 rfl rfl dX8_tell_61 ?_
              refine v_aload_n (f := 0) 0 rfl dX8_tell_64 ?_
              refine v_getI (kf := 1) (kz := 1) rfl kd_2 rfl ⟨by decide, by decide⟩ rfl wf_8_47 dX8_tell_65 ?_
              try simp (disch := decide) only [b_upc, b_upi, b_ups]
              refine v_ireturn rfl dX8_tell_68 ⟨by decide, by decide⟩ ?_
              dsimp only [Option.toList, List.cons_append, List.nil_append]
              refine v_ireturn rfl dX11_dead_42 ⟨by decide, by decide⟩ ?_
              first | exact Or.inl ⟨by omega, rfl, rfl⟩ | exact Or.inr (Or.inl ⟨by omega, rfl, rfl⟩) | exact Or.inr (Or.inr (⟨by omega, rfl, rfl⟩))
            · refine v_bipush ⟨by decide, by decide⟩ (by decide) dX8_tell_10 ?_
              refine v_ireturn rfl dX8_tell_12 ⟨by decide, by decide⟩ ?_
              dsimp only [Option.toList, List.cons_append, List.nil_append]
              refine v_ireturn rfl dX11_dead_42 ⟨by decide, by decide⟩ ?_
              first | exact Or.inl ⟨by omega, rfl, rfl⟩ | exact Or.inr (Or.inl ⟨by omega, rfl, rfl⟩) | exact Or.inr (Or.inr (⟨by omega, rfl, rfl⟩))
          · refine v_bipush ⟨by decide, by decide⟩ (by decide) dX11_dead_18 ?_
            refine v_ireturn rfl dX11_dead_20 ⟨by decide, by decide⟩ ?_
            first | exact Or.inl ⟨by omega, rfl, rfl⟩ | exact Or.inr (Or.inl ⟨by omega, rfl, rfl⟩) | exact Or.inr (Or.inr (⟨by omega, rfl, rfl⟩))
        · refine v_iload_n (f := 0) 0 rfl dX11_isDay_4 ?_
          refine v_sipush ⟨by decide, by decide⟩ (by decide) dX11_isDay_5 ?_
          refine v_icmp_gt (tgt := 15) dX11_isDay_8 (by decide) (fun h8_16 => ?_) (fun h8_16 => ?_)
          · refine v_iconst ⟨by decide, by decide⟩ dX11_isDay_15 ?_
            refine v_zreturn rfl (by first | exact Or.inl rfl | exact Or.inr rfl | omega | (split <;> simp)) dX11_isDay_16 ⟨by decide, by decide⟩ ?_
            dsimp only [Option.toList, List.cons_append, List.nil_append]
            refine v_if_ne (tgt := 21) dX11_dead_15 (by decide) (fun h15 => ?_) (fun h15 => ?_)
            · refine v_aload_n (f := 0) 0 rfl dX11_dead_21 ?_
              refine v_getR (kf := 5) (kz := 5) rfl kd_0 rfl ⟨by decide, by decide⟩ rfl wf_11_51 dX11_dead_22 ?_
              refine v_callV (nA := 0) (Y := xX4_forget) (y := yX4_forget) (As := []) (ix := 113) (b_met (by decide) ⟨rfl, rfl⟩ (Nat.le_of_ble_eq_true rfl) (fun _ _ => ?_)) rfl kd_6 rfl rfl wc_X4_forget wm_11_113 wi_X4_forget ws_X4_forget wn_4 ⟨by decide, by decide, by decide⟩ rfl ⟨by decide, by decide⟩ ⟨by decide, by decide⟩ (Nat.le_of_ble_eq_true rfl) dX11_dead_25 (fun r M' h => h)
              refine v_aload_n (f := 0) 0 rfl dX4_forget_0 ?_
              refine v_iconst ⟨by decide, by decide⟩ dX4_forget_1 ?_
              refine v_putZ (kf := 5) (kz := 5) rfl kd_6 rfl ⟨by decide, by decide⟩ rfl (by first | exact Or.inl rfl | exact Or.inr rfl | omega) wf_4_47 rfl rfl dX4_forget_2 ?_
              refine v_return rfl dX4_forget_5 ⟨by decide, by decide⟩ ?_
              dsimp only [Option.toList, List.cons_append, List.nil_append]
              refine v_aload_n (f := 0) 0 rfl dX11_dead_28 ?_
              refine v_getR (kf := 1) (kz := 1) rfl kd_0 rfl ⟨by decide, by decide⟩ rfl wf_11_19 dX11_dead_29 ?_
              refine v_iconst ⟨by decide, by decide⟩ dX11_dead_32 ?_
              refine v_iload_n (f := 1) 1 rfl dX11_dead_33 ?_
              refine v_iload_n (f := 2) 2 rfl dX11_dead_34 ?_
              refine v_aload_n (f := 0) 0 rfl dX11_dead_35 ?_
              refine v_getI (kf := 10) (kz := 10) rfl kd_0 rfl ⟨by decide, by decide⟩ rfl wf_11_91 dX11_dead_36 ?_
              try simp (disch := decide) only [b_upc, b_upi, b_ups]
              refine v_callV (nA := 4) (Y := xX8_tell) (y := yX8_tell) (As := [bI _, bI _, bI _, bI _]) (ix := 116) (b_met (by decide) ⟨rfl, rfl⟩ (Nat.le_of_ble_eq_true rfl) (fun _ _ => ?_)) rfl kd_2 rfl rfl wc_X8_tell wm_11_116 wi_X8_tell ws_X8_tell wn_8 ⟨by decide, by decide, by decide⟩ rfl ⟨by decide, by decide⟩ ⟨by decide, by decide⟩ (Nat.le_of_ble_eq_true rfl) dX11_dead_39 (fun r M' h => h)
              refine v_aload_n (f := 0) 0 rfl dX8_tell_0 ?_
              refine v_getI (kf := 1) (kz := 1) rfl kd_2 rfl ⟨by decide, by decide⟩ rfl wf_8_47 dX8_tell_1 ?_
              try simp (disch := decide) only [b_upc, b_upi, b_ups]
              refine v_sipush ⟨by decide, by decide⟩ (by decide) dX8_tell_4 ?_
              refine v_icmp_lt (tgt := 13) dX8_tell_7 (by decide) (fun h7_20 => ?_) (fun h7_20 => ?_)
              · refine v_aload_n (f := 0) 0 rfl dX8_tell_13 ?_
                refine v_getR (kf := 3) (kz := 3) rfl kd_2 rfl ⟨by decide, by decide⟩ rfl wf_8_15 dX8_tell_14 ?_
                refine v_aload_n (f := 0) 0 rfl dX8_tell_17 ?_
                refine v_getI (kf := 1) (kz := 1) rfl kd_2 rfl ⟨by decide, by decide⟩ rfl wf_8_47 dX8_tell_18 ?_
                try simp (disch := decide) only [b_upc, b_upi, b_ups]
                refine v_iload_n (f := 1) 1 rfl dX8_tell_21 ?_
                refine v_iastore kd_77 (by first | omega | (simp (disch := decide) only [b_upc, b_upi, b_ups]; omega)) (by decide) dX8_tell_22 ?_
                refine v_aload_n (f := 0) 0 rfl dX8_tell_23 ?_
                refine v_getR (kf := 4) (kz := 4) rfl kd_2 rfl ⟨by decide, by decide⟩ rfl wf_8_18 dX8_tell_24 ?_
                refine v_aload_n (f := 0) 0 rfl dX8_tell_27 ?_
                refine v_getI (kf := 1) (kz := 1) rfl kd_2 rfl ⟨by decide, by decide⟩ rfl wf_8_47 dX8_tell_28 ?_
                try simp (disch := decide) only [b_upc, b_upi, b_ups]
                refine v_iload_n (f := 2) 2 rfl dX8_tell_31 ?_
                refine v_iastore kd_78 (by first | omega | (simp (disch := decide) only [b_upc, b_upi, b_ups]; omega)) (by decide) dX8_tell_32 ?_
                refine v_aload_n (f := 0) 0 rfl dX8_tell_33 ?_
                refine v_getR (kf := 5) (kz := 5) rfl kd_2 rfl ⟨by decide, by decide⟩ rfl wf_8_21 dX8_tell_34 ?_
                refine v_aload_n (f := 0) 0 rfl dX8_tell_37 ?_
                refine v_getI (kf := 1) (kz := 1) rfl kd_2 rfl ⟨by decide, by decide⟩ rfl wf_8_47 dX8_tell_38 ?_
                try simp (disch := decide) only [b_upc, b_upi, b_ups]
                refine v_iload_n (f := 3) 3 rfl dX8_tell_41 ?_
                refine v_iastore kd_79 (by first | omega | (simp (disch := decide) only [b_upc, b_upi, b_ups]; omega)) (by decide) dX8_tell_42 ?_
                refine v_aload_n (f := 0) 0 rfl dX8_tell_43 ?_
                refine v_getR (kf := 6) (kz := 6) rfl kd_2 rfl ⟨by decide, by decide⟩ rfl wf_8_24 dX8_tell_44 ?_
                refine v_aload_n (f := 0) 0 rfl dX8_tell_47 ?_
                refine v_getI (kf := 1) (kz := 1) rfl kd_2 rfl ⟨by decide, by decide⟩ rfl wf_8_47 dX8_tell_48 ?_
                try simp (disch := decide) only [b_upc, b_upi, b_ups]
                refine v_iload (i := 4) 4 rfl dX8_tell_51 ?_
                refine v_iastore kd_80 (by first | omega | (simp (disch := decide) only [b_upc, b_upi, b_ups]; omega)) (by decide) dX8_tell_53 ?_
                refine v_aload_n (f := 0) 0 rfl dX8_tell_54 ?_
                refine v_dup rfl dX8_tell_55 ?_
                refine v_getI (kf := 1) (kz := 1) rfl kd_2 rfl ⟨by decide, by decide⟩ rfl wf_8_47 dX8_tell_56 ?_
                try simp (disch := decide) only [b_upc, b_upi, b_ups]
                refine v_iconst ⟨by decide, by decide⟩ dX8_tell_59 ?_
                refine v_iaddN (by unfold b_r32; first | omega | (simp (disch := decide) only [b_upc, b_upi, b_ups]; omega)) dX8_tell_60 ?_
                refine v_putI (kf := 1) (kz := 1) rfl kd_2 rfl ⟨by decide, by decide⟩ rfl wf_8_47 rfl rfl dX8_tell_61 ?_
                refine v_aload_n (f := 0) 0 rfl dX8_tell_64 ?_
                refine v_getI (kf := 1) (kz := 1) rfl kd_2 rfl ⟨by decide, by decide⟩ rfl wf_8_47 dX8_tell_65 ?_
                try simp (disch := decide) only [b_upc, b_upi, b_ups]
                refine v_ireturn rfl dX8_tell_68 ⟨by decide, by decide⟩ ?_
                dsimp only [Option.toList, List.cons_append, List.nil_append]
                refine v_ireturn rfl dX11_dead_42 ⟨by decide, by decide⟩ ?_
                first | exact Or.inl ⟨by omega, rfl, rfl⟩ | exact Or.inr (Or.inl ⟨by omega, rfl, rfl⟩) | exact Or.inr (Or.inr (⟨by omega, rfl, rfl⟩))
              · refine v_bipush ⟨by decide, by decide⟩ (by decide) dX8_tell_10 ?_
                refine v_ireturn rfl dX8_tell_12 ⟨by decide, by decide⟩ ?_
                dsimp only [Option.toList, List.cons_append, List.nil_append]
                refine v_ireturn rfl dX11_dead_42 ⟨by decide, by decide⟩ ?_
                first | exact Or.inl ⟨by omega, rfl, rfl⟩ | exact Or.inr (Or.inl ⟨by omega, rfl, rfl⟩) | exact Or.inr (Or.inr (⟨by omega, rfl, rfl⟩))
            · refine v_bipush ⟨by decide, by decide⟩ (by decide) dX11_dead_18 ?_
              refine v_ireturn rfl dX11_dead_20 ⟨by decide, by decide⟩ ?_
              first | exact Or.inl ⟨by omega, rfl, rfl⟩ | exact Or.inr (Or.inl ⟨by omega, rfl, rfl⟩) | exact Or.inr (Or.inr (⟨by omega, rfl, rfl⟩))
          · refine v_iconst ⟨by decide, by decide⟩ dX11_isDay_11 ?_
            refine v_goto (tgt := 16) dX11_isDay_12 (by decide) ?_
            refine v_zreturn rfl (by first | exact Or.inl rfl | exact Or.inr rfl | omega | (split <;> simp)) dX11_isDay_16 ⟨by decide, by decide⟩ ?_
            dsimp only [Option.toList, List.cons_append, List.nil_append]
            refine v_if_ne (tgt := 21) dX11_dead_15 (by decide) (fun h15 => ?_) (fun h15 => ?_)
            · refine v_aload_n (f := 0) 0 rfl dX11_dead_21 ?_
              refine v_getR (kf := 5) (kz := 5) rfl kd_0 rfl ⟨by decide, by decide⟩ rfl wf_11_51 dX11_dead_22 ?_
              refine v_callV (nA := 0) (Y := xX4_forget) (y := yX4_forget) (As := []) (ix := 113) (b_met (by decide) ⟨rfl, rfl⟩ (Nat.le_of_ble_eq_true rfl) (fun _ _ => ?_)) rfl kd_6 rfl rfl wc_X4_forget wm_11_113 wi_X4_forget ws_X4_forget wn_4 ⟨by decide, by decide, by decide⟩ rfl ⟨by decide, by decide⟩ ⟨by decide, by decide⟩ (Nat.le_of_ble_eq_true rfl) dX11_dead_25 (fun r M' h => h)
              refine v_aload_n (f := 0) 0 rfl dX4_forget_0 ?_
              refine v_iconst ⟨by decide, by decide⟩ dX4_forget_1 ?_
              refine v_putZ (kf := 5) (kz := 5) rfl kd_6 rfl ⟨by decide, by decide⟩ rfl (by first | exact Or.inl rfl | exact Or.inr rfl | omega) wf_4_47 rfl rfl dX4_forget_2 ?_
              refine v_return rfl dX4_forget_5 ⟨by decide, by decide⟩ ?_
              dsimp only [Option.toList, List.cons_append, List.nil_append]
              refine v_aload_n (f := 0) 0 rfl dX11_dead_28 ?_
              refine v_getR (kf := 1) (kz := 1) rfl kd_0 rfl ⟨by decide, by decide⟩ rfl wf_11_19 dX11_dead_29 ?_
              refine v_iconst ⟨by decide, by decide⟩ dX11_dead_32 ?_
              refine v_iload_n (f := 1) 1 rfl dX11_dead_33 ?_
              refine v_iload_n (f := 2) 2 rfl dX11_dead_34 ?_
              refine v_aload_n (f := 0) 0 rfl dX11_dead_35 ?_
              refine v_getI (kf := 10) (kz := 10) rfl kd_0 rfl ⟨by decide, by decide⟩ rfl wf_11_91 dX11_dead_36 ?_
              try simp (disch := decide) only [b_upc, b_upi, b_ups]
              refine v_callV (nA := 4) (Y := xX8_tell) (y := yX8_tell) (As := [bI _, bI _, bI _, bI _]) (ix := 116) (b_met (by decide) ⟨rfl, rfl⟩ (Nat.le_of_ble_eq_true rfl) (fun _ _ => ?_)) rfl kd_2 rfl rfl wc_X8_tell wm_11_116 wi_X8_tell ws_X8_tell wn_8 ⟨by decide, by decide, by decide⟩ rfl ⟨by decide, by decide⟩ ⟨by decide, by decide⟩ (Nat.le_of_ble_eq_true rfl) dX11_dead_39 (fun r M' h => h)
              refine v_aload_n (f := 0) 0 rfl dX8_tell_0 ?_
              refine v_getI (kf := 1) (kz := 1) rfl kd_2 rfl ⟨by decide, by decide⟩ rfl wf_8_47 dX8_tell_1 ?_
              try simp (disch := decide) only [b_upc, b_upi, b_ups]
              refine v_sipush ⟨by decide, by decide⟩ (by decide) dX8_tell_4 ?_
              refine v_icmp_lt (tgt := 13) dX8_tell_7 (by decide) (fun h7_22 => ?_) (fun h7_22 => ?_)
              · refine v_aload_n (f := 0) 0 rfl dX8_tell_13 ?_
                refine v_getR (kf := 3) (kz := 3) rfl kd_2 rfl ⟨by decide, by decide⟩ rfl wf_8_15 dX8_tell_14 ?_
                refine v_aload_n (f := 0) 0 rfl dX8_tell_17 ?_
                refine v_getI (kf := 1) (kz := 1) rfl kd_2 rfl ⟨by decide, by decide⟩ rfl wf_8_47 dX8_tell_18 ?_
                try simp (disch := decide) only [b_upc, b_upi, b_ups]
                refine v_iload_n (f := 1) 1 rfl dX8_tell_21 ?_
                refine v_iastore kd_77 (by first | omega | (simp (disch := decide) only [b_upc, b_upi, b_ups]; omega)) (by decide) dX8_tell_22 ?_
                refine v_aload_n (f := 0) 0 rfl dX8_tell_23 ?_
                refine v_getR (kf := 4) (kz := 4) rfl kd_2 rfl ⟨by decide, by decide⟩ rfl wf_8_18 dX8_tell_24 ?_
                refine v_aload_n (f := 0) 0 rfl dX8_tell_27 ?_
                refine v_getI (kf := 1) (kz := 1) rfl kd_2 rfl ⟨by decide, by decide⟩ rfl wf_8_47 dX8_tell_28 ?_
                try simp (disch := decide) only [b_upc, b_upi, b_ups]
                refine v_iload_n (f := 2) 2 rfl dX8_tell_31 ?_
                refine v_iastore kd_78 (by first | omega | (simp (disch := decide) only [b_upc, b_upi, b_ups]; omega)) (by decide) dX8_tell_32 ?_
                refine v_aload_n (f := 0) 0 rfl dX8_tell_33 ?_
                refine v_getR (kf := 5) (kz := 5) rfl kd_2 rfl ⟨by decide, by decide⟩ rfl wf_8_21 dX8_tell_34 ?_
                refine v_aload_n (f := 0) 0 rfl dX8_tell_37 ?_
                refine v_getI (kf := 1) (kz := 1) rfl kd_2 rfl ⟨by decide, by decide⟩ rfl wf_8_47 dX8_tell_38 ?_
                try simp (disch := decide) only [b_upc, b_upi, b_ups]
                refine v_iload_n (f := 3) 3 rfl dX8_tell_41 ?_
                refine v_iastore kd_79 (by first | omega | (simp (disch := decide) only [b_upc, b_upi, b_ups]; omega)) (by decide) dX8_tell_42 ?_
                refine v_aload_n (f := 0) 0 rfl dX8_tell_43 ?_
                refine v_getR (kf := 6) (kz := 6) rfl kd_2 rfl ⟨by decide, by decide⟩ rfl wf_8_24 dX8_tell_44 ?_
                refine v_aload_n (f := 0) 0 rfl dX8_tell_47 ?_
                refine v_getI (kf := 1) (kz := 1) rfl kd_2 rfl ⟨by decide, by decide⟩ rfl wf_8_47 dX8_tell_48 ?_
                try simp (disch := decide) only [b_upc, b_upi, b_ups]
                refine v_iload (i := 4) 4 rfl dX8_tell_51 ?_
                refine v_iastore kd_80 (by first | omega | (simp (disch := decide) only [b_upc, b_upi, b_ups]; omega)) (by decide) dX8_tell_53 ?_
                refine v_aload_n (f := 0) 0 rfl dX8_tell_54 ?_
                refine v_dup rfl dX8_tell_55 ?_
                refine v_getI (kf := 1) (kz := 1) rfl kd_2 rfl ⟨by decide, by decide⟩ rfl wf_8_47 dX8_tell_56 ?_
                try simp (disch := decide) only [b_upc, b_upi, b_ups]
                refine v_iconst ⟨by decide, by decide⟩ dX8_tell_59 ?_
                refine v_iaddN (by unfold b_r32; first | omega | (simp (disch := decide) only [b_upc, b_upi, b_ups]; omega)) dX8_tell_60 ?_
                refine v_putI (kf := 1) (kz := 1) rfl kd_2 rfl ⟨by decide, by decide⟩ rfl wf_8_47 rfl rfl dX8_tell_61 ?_
                refine v_aload_n (f := 0) 0 rfl dX8_tell_64 ?_
                refine v_getI (kf := 1) (kz := 1) rfl kd_2 rfl ⟨by decide, by decide⟩ rfl wf_8_47 dX8_tell_65 ?_
                try simp (disch := decide) only [b_upc, b_upi, b_ups]
                refine v_ireturn rfl dX8_tell_68 ⟨by decide, by decide⟩ ?_
                dsimp only [Option.toList, List.cons_append, List.nil_append]
                refine v_ireturn rfl dX11_dead_42 ⟨by decide, by decide⟩ ?_
                first | exact Or.inl ⟨by omega, rfl, rfl⟩ | exact Or.inr (Or.inl ⟨by omega, rfl, rfl⟩) | exact Or.inr (Or.inr (⟨by omega, rfl, rfl⟩))
              · refine v_bipush ⟨by decide, by decide⟩ (by decide) dX8_tell_10 ?_
                refine v_ireturn rfl dX8_tell_12 ⟨by decide, by decide⟩ ?_
                dsimp only [Option.toList, List.cons_append, List.nil_append]
                refine v_ireturn rfl dX11_dead_42 ⟨by decide, by decide⟩ ?_
                first | exact Or.inl ⟨by omega, rfl, rfl⟩ | exact Or.inr (Or.inl ⟨by omega, rfl, rfl⟩) | exact Or.inr (Or.inr (⟨by omega, rfl, rfl⟩))
            · refine v_bipush ⟨by decide, by decide⟩ (by decide) dX11_dead_18 ?_
              refine v_ireturn rfl dX11_dead_20 ⟨by decide, by decide⟩ ?_
              first | exact Or.inl ⟨by omega, rfl, rfl⟩ | exact Or.inr (Or.inl ⟨by omega, rfl, rfl⟩) | exact Or.inr (Or.inr (⟨by omega, rfl, rfl⟩))
