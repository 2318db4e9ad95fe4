abbrev xX12_end : bX := ("BurntHallModel", prog_14_method_5_code, 2, (Option.some Jvm.ClassFile.FieldType.int), b_rm 1 0 0, 0, "end")
abbrev yX12_end : MethodName := ⟨"BurntHallModel", "end", "(I)I"⟩
theorem dX12_end_0 : decode prog_14_method_5_code 0 = .ok (.iload_n 1, 1) := by decide +kernel
theorem dX12_end_1 : decode prog_14_method_5_code 1 = .ok (.ifCond .lt 11, 3) := by decide +kernel
theorem dX12_end_4 : decode prog_14_method_5_code 4 = .ok (.iload_n 1, 1) := by decide +kernel
theorem dX12_end_5 : decode prog_14_method_5_code 5 = .ok (.aload_n 0, 1) := by decide +kernel
theorem dX12_end_6 : decode prog_14_method_5_code 6 = .ok (.getfield 283, 3) := by decide +kernel
theorem dX12_end_9 : decode prog_14_method_5_code 9 = .ok (.if_icmp .le 5, 3) := by decide +kernel
theorem dX12_end_12 : decode prog_14_method_5_code 12 = .ok (.iconst (-1), 1) := by decide +kernel
theorem dX12_end_13 : decode prog_14_method_5_code 13 = .ok (.ireturn, 1) := by decide +kernel
theorem dX12_end_14 : decode prog_14_method_5_code 14 = .ok (.aload_n 0, 1) := by decide +kernel
theorem dX12_end_15 : decode prog_14_method_5_code 15 = .ok (.iload_n 1, 1) := by decide +kernel
theorem dX12_end_16 : decode prog_14_method_5_code 16 = .ok (.putfield 283, 3) := by decide +kernel
theorem dX12_end_19 : decode prog_14_method_5_code 19 = .ok (.iload_n 1, 1) := by decide +kernel
theorem dX12_end_20 : decode prog_14_method_5_code 20 = .ok (.ireturn, 1) := by decide +kernel
noncomputable def F_X12_end (v1 : Int) (M : bM) : Option (Int × bM) :=
  if v1 < 0 then (some ((-1), M)) else (if v1 ≤ (M 11 1) then (b_let (b_up M 11 1 v1) (fun M3 => some (v1, M3))) else (some ((-1), M)))
theorem t_X12_end {l : Launch} {E : bE} {Q : (Int × bM) → Prop} {v1 : Int} {M : bM} (h : b_wp (F_X12_end v1 M) (Q)) : V l E xX12_end (0, 0) 0 [(0, bR 11), (1, bI v1)] [] M (b_pI Q) := by
  unfold F_X12_end at h
  refine v_iload_n (f := 1) 1 rfl dX12_end_0 ?_
  refine v_if_lt (tgt := 12) dX12_end_1 (by decide) (fun c1 => ?_) (fun c1 => ?_)
  · replace h := b_wp_t c1 h
    refine v_iconst ⟨by decide, by decide⟩ dX12_end_12 ?_
    refine v_ireturn rfl dX12_end_13 ⟨by decide, by decide⟩ ?_
    exact ⟨_, rfl, h⟩
  · replace h := b_wp_f c1 h
    refine v_iload_n (f := 1) 1 rfl dX12_end_4 ?_
    refine v_aload_n (f := 0) 0 rfl dX12_end_5 ?_
    refine v_getI (kf := 1) (kz := 1) rfl kd_11 rfl ⟨by decide, by decide⟩ rfl wf_12_283 dX12_end_6 ?_
    refine v_icmp_le (tgt := 14) dX12_end_9 (by decide) (fun c2 => ?_) (fun c2 => ?_)
    · replace h := b_wp_t c2 h
      refine v_aload_n (f := 0) 0 rfl dX12_end_14 ?_
      refine v_iload_n (f := 1) 1 rfl dX12_end_15 ?_
      refine v_putI (kf := 1) (kz := 1) rfl kd_11 rfl ⟨by decide, by decide⟩ rfl wf_12_283 rfl rfl dX12_end_16 ?_
      replace h := b_wp_l h
      refine v_iload_n (f := 1) 1 rfl dX12_end_19 ?_
      refine v_ireturn rfl dX12_end_20 ⟨by decide, by decide⟩ ?_
      exact ⟨_, rfl, h⟩
    · replace h := b_wp_f c2 h
      refine v_iconst ⟨by decide, by decide⟩ dX12_end_12 ?_
      refine v_ireturn rfl dX12_end_13 ⟨by decide, by decide⟩ ?_
      exact ⟨_, rfl, h⟩
theorem cf_X12_end {l : Launch} {E : bE} {M : bM} {v1 : Int} {Q : (Int × bM) → Prop} (h : b_wp (F_X12_end v1 M) Q) : b_C l E xX12_end yX12_end [bR 11, bI v1] M (b_pI Q) := b_met (by decide) ⟨rfl, rfl⟩ (Nat.le_of_ble_eq_true rfl) (fun _ _ => t_X12_end h)
abbrev xX12_see : bX := ("BurntHallModel", prog_14_method_7_code, 2, (Option.some Jvm.ClassFile.FieldType.int), b_rm 1 0 0, 0, "see")
abbrev yX12_see : MethodName := ⟨"BurntHallModel", "see", "(I)I"⟩
theorem dX12_see_0 : decode prog_14_method_7_code 0 = .ok (.iload_n 1, 1) := by decide +kernel
theorem dX12_see_1 : decode prog_14_method_7_code 1 = .ok (.aload_n 0, 1) := by decide +kernel
theorem dX12_see_2 : decode prog_14_method_7_code 2 = .ok (.getfield 286, 3) := by decide +kernel
theorem dX12_see_5 : decode prog_14_method_7_code 5 = .ok (.if_icmp .ge 16, 3) := by decide +kernel
theorem dX12_see_8 : decode prog_14_method_7_code 8 = .ok (.aload_n 0, 1) := by decide +kernel
theorem dX12_see_9 : decode prog_14_method_7_code 9 = .ok (.getfield 9, 3) := by decide +kernel
theorem dX12_see_12 : decode prog_14_method_7_code 12 = .ok (.iload_n 1, 1) := by decide +kernel
theorem dX12_see_13 : decode prog_14_method_7_code 13 = .ok (.baload, 1) := by decide +kernel
theorem dX12_see_14 : decode prog_14_method_7_code 14 = .ok (.sipush 255, 3) := by decide +kernel
theorem dX12_see_17 : decode prog_14_method_7_code 17 = .ok (.iand, 1) := by decide +kernel
theorem dX12_see_18 : decode prog_14_method_7_code 18 = .ok (.goto 4, 3) := by decide +kernel
theorem dX12_see_21 : decode prog_14_method_7_code 21 = .ok (.iconst (-1), 1) := by decide +kernel
theorem dX12_see_22 : decode prog_14_method_7_code 22 = .ok (.ireturn, 1) := by decide +kernel
noncomputable def F_X12_see (v1 : Int) (M : bM) : Option (Int) :=
  if (M 11 2) ≤ v1 then (some (-1)) else (b_g (0 ≤ v1 ∧ v1 < 1000) (some (i_and (M 162 v1) 255)))
theorem t_X12_see {l : Launch} {E : bE} {Q : Int → Prop} {v1 : Int} {M : bM} (h : b_wp (F_X12_see v1 M) (Q)) : V l E xX12_see (0, 0) 0 [(0, bR 11), (1, bI v1)] [] M (b_pIp M Q) := by
  unfold F_X12_see at h
  refine v_iload_n (f := 1) 1 rfl dX12_see_0 ?_
  refine v_aload_n (f := 0) 0 rfl dX12_see_1 ?_
  refine v_getI (kf := 2) (kz := 2) rfl kd_11 rfl ⟨by decide, by decide⟩ rfl wf_12_286 dX12_see_2 ?_
  refine v_icmp_ge (tgt := 21) dX12_see_5 (by decide) (fun c1 => ?_) (fun c1 => ?_)
  · replace h := b_wp_t c1 h
    refine v_iconst ⟨by decide, by decide⟩ dX12_see_21 ?_
    refine v_ireturn rfl dX12_see_22 ⟨by decide, by decide⟩ ?_
    exact ⟨_, rfl, rfl, h⟩
  · replace h := b_wp_f c1 h
    obtain ⟨g2, h⟩ := b_wp_g h
    refine v_aload_n (f := 0) 0 rfl dX12_see_8 ?_
    refine v_getR (kf := 0) (kz := 0) rfl kd_11 rfl ⟨by decide, by decide⟩ rfl wf_12_9 dX12_see_9 ?_
    refine v_iload_n (f := 1) 1 rfl dX12_see_12 ?_
    refine v_baload kd_162 g2 (by decide) dX12_see_13 ?_
    refine v_sipush ⟨by decide, by decide⟩ (by decide) dX12_see_14 ?_
    refine v_iand (v := i_and _ _) rfl dX12_see_17 ?_
    refine v_goto (tgt := 22) dX12_see_18 (by decide) ?_
    refine v_ireturn rfl dX12_see_22 ⟨by decide, by decide⟩ ?_
    exact ⟨_, rfl, rfl, h⟩
theorem cf_X12_see {l : Launch} {E : bE} {M : bM} {v1 : Int} {Q : Int → Prop} (h : b_wp (F_X12_see v1 M) Q) : b_C l E xX12_see yX12_see [bR 11, bI v1] M (b_pIp M Q) := b_met (by decide) ⟨rfl, rfl⟩ (Nat.le_of_ble_eq_true rfl) (fun _ _ => t_X12_see h)
abbrev xX12_isSmall : bX := ("BurntHallModel", prog_14_method_8_code, 1, (Option.some Jvm.ClassFile.FieldType.boolean), b_rm 1 0 0, 0, "isSmall")
abbrev yX12_isSmall : MethodName := ⟨"BurntHallModel", "isSmall", "(I)Z"⟩
theorem dX12_isSmall_0 : decode prog_14_method_8_code 0 = .ok (.iload_n 0, 1) := by decide +kernel
theorem dX12_isSmall_1 : decode prog_14_method_8_code 1 = .ok (.bipush 97, 2) := by decide +kernel
theorem dX12_isSmall_3 : decode prog_14_method_8_code 3 = .ok (.if_icmp .lt 13, 3) := by decide +kernel
theorem dX12_isSmall_6 : decode prog_14_method_8_code 6 = .ok (.iload_n 0, 1) := by decide +kernel
theorem dX12_isSmall_7 : decode prog_14_method_8_code 7 = .ok (.bipush 122, 2) := by decide +kernel
theorem dX12_isSmall_9 : decode prog_14_method_8_code 9 = .ok (.if_icmp .gt 7, 3) := by decide +kernel
theorem dX12_isSmall_12 : decode prog_14_method_8_code 12 = .ok (.iconst 1, 1) := by decide +kernel
theorem dX12_isSmall_13 : decode prog_14_method_8_code 13 = .ok (.goto 4, 3) := by decide +kernel
theorem dX12_isSmall_16 : decode prog_14_method_8_code 16 = .ok (.iconst 0, 1) := by decide +kernel
theorem dX12_isSmall_17 : decode prog_14_method_8_code 17 = .ok (.ireturn, 1) := by decide +kernel
noncomputable def F_X12_isSmall (v0 : Int) (M : bM) : Option (Int) :=
  if v0 < 97 then (some 0) else (if 122 < v0 then (some 0) else (some 1))
theorem t_X12_isSmall {l : Launch} {E : bE} {Q : Int → Prop} {v0 : Int} {M : bM} (h : b_wp (F_X12_isSmall v0 M) (Q)) : V l E xX12_isSmall (0, 0) 0 [(0, bI v0)] [] M (b_pIp M Q) := by
  unfold F_X12_isSmall at h
  refine v_iload_n (f := 0) 0 rfl dX12_isSmall_0 ?_
  refine v_bipush ⟨by decide, by decide⟩ (by decide) dX12_isSmall_1 ?_
  refine v_icmp_lt (tgt := 16) dX12_isSmall_3 (by decide) (fun c1 => ?_) (fun c1 => ?_)
  · replace h := b_wp_t c1 h
    refine v_iconst ⟨by decide, by decide⟩ dX12_isSmall_16 ?_
    refine v_zreturn rfl (Or.inl rfl) dX12_isSmall_17 ⟨by decide, by decide⟩ ?_
    exact ⟨_, rfl, rfl, h⟩
  · replace h := b_wp_f c1 h
    refine v_iload_n (f := 0) 0 rfl dX12_isSmall_6 ?_
    refine v_bipush ⟨by decide, by decide⟩ (by decide) dX12_isSmall_7 ?_
    refine v_icmp_gt (tgt := 16) dX12_isSmall_9 (by decide) (fun c2 => ?_) (fun c2 => ?_)
    · replace h := b_wp_t c2 h
      refine v_iconst ⟨by decide, by decide⟩ dX12_isSmall_16 ?_
      refine v_zreturn rfl (Or.inl rfl) dX12_isSmall_17 ⟨by decide, by decide⟩ ?_
      exact ⟨_, rfl, rfl, h⟩
    · replace h := b_wp_f c2 h
      refine v_iconst ⟨by decide, by decide⟩ dX12_isSmall_12 ?_
      refine v_goto (tgt := 17) dX12_isSmall_13 (by decide) ?_
      refine v_zreturn rfl (Or.inr rfl) dX12_isSmall_17 ⟨by decide, by decide⟩ ?_
      exact ⟨_, rfl, rfl, h⟩
theorem cf_X12_isSmall {l : Launch} {E : bE} {M : bM} {v0 : Int} {Q : Int → Prop} (h : b_wp (F_X12_isSmall v0 M) Q) : b_C l E xX12_isSmall yX12_isSmall [bI v0] M (b_pIp M Q) := b_met (by decide) ⟨rfl, rfl⟩ (Nat.le_of_ble_eq_true rfl) (fun _ _ => t_X12_isSmall h)
abbrev xX12_isDigit : bX := ("BurntHallModel", prog_14_method_9_code, 1, (Option.some Jvm.ClassFile.FieldType.boolean), b_rm 1 0 0, 0, "isDigit")
abbrev yX12_isDigit : MethodName := ⟨"BurntHallModel", "isDigit", "(I)Z"⟩
theorem dX12_isDigit_0 : decode prog_14_method_9_code 0 = .ok (.iload_n 0, 1) := by decide +kernel
theorem dX12_isDigit_1 : decode prog_14_method_9_code 1 = .ok (.bipush 48, 2) := by decide +kernel
theorem dX12_isDigit_3 : decode prog_14_method_9_code 3 = .ok (.if_icmp .lt 13, 3) := by decide +kernel
theorem dX12_isDigit_6 : decode prog_14_method_9_code 6 = .ok (.iload_n 0, 1) := by decide +kernel
theorem dX12_isDigit_7 : decode prog_14_method_9_code 7 = .ok (.bipush 57, 2) := by decide +kernel
theorem dX12_isDigit_9 : decode prog_14_method_9_code 9 = .ok (.if_icmp .gt 7, 3) := by decide +kernel
theorem dX12_isDigit_12 : decode prog_14_method_9_code 12 = .ok (.iconst 1, 1) := by decide +kernel
theorem dX12_isDigit_13 : decode prog_14_method_9_code 13 = .ok (.goto 4, 3) := by decide +kernel
theorem dX12_isDigit_16 : decode prog_14_method_9_code 16 = .ok (.iconst 0, 1) := by decide +kernel
theorem dX12_isDigit_17 : decode prog_14_method_9_code 17 = .ok (.ireturn, 1) := by decide +kernel
noncomputable def F_X12_isDigit (v0 : Int) (M : bM) : Option (Int) :=
  if v0 < 48 then (some 0) else (if 57 < v0 then (some 0) else (some 1))
theorem t_X12_isDigit {l : Launch} {E : bE} {Q : Int → Prop} {v0 : Int} {M : bM} (h : b_wp (F_X12_isDigit v0 M) (Q)) : V l E xX12_isDigit (0, 0) 0 [(0, bI v0)] [] M (b_pIp M Q) := by
  unfold F_X12_isDigit at h
  refine v_iload_n (f := 0) 0 rfl dX12_isDigit_0 ?_
  refine v_bipush ⟨by decide, by decide⟩ (by decide) dX12_isDigit_1 ?_
  refine v_icmp_lt (tgt := 16) dX12_isDigit_3 (by decide) (fun c1 => ?_) (fun c1 => ?_)
  · replace h := b_wp_t c1 h
    refine v_iconst ⟨by decide, by decide⟩ dX12_isDigit_16 ?_
    refine v_zreturn rfl (Or.inl rfl) dX12_isDigit_17 ⟨by decide, by decide⟩ ?_
    exact ⟨_, rfl, rfl, h⟩
  · replace h := b_wp_f c1 h
    refine v_iload_n (f := 0) 0 rfl dX12_isDigit_6 ?_
    refine v_bipush ⟨by decide, by decide⟩ (by decide) dX12_isDigit_7 ?_
    refine v_icmp_gt (tgt := 16) dX12_isDigit_9 (by decide) (fun c2 => ?_) (fun c2 => ?_)
    · replace h := b_wp_t c2 h
      refine v_iconst ⟨by decide, by decide⟩ dX12_isDigit_16 ?_
      refine v_zreturn rfl (Or.inl rfl) dX12_isDigit_17 ⟨by decide, by decide⟩ ?_
      exact ⟨_, rfl, rfl, h⟩
    · replace h := b_wp_f c2 h
      refine v_iconst ⟨by decide, by decide⟩ dX12_isDigit_12 ?_
      refine v_goto (tgt := 17) dX12_isDigit_13 (by decide) ?_
      refine v_zreturn rfl (Or.inr rfl) dX12_isDigit_17 ⟨by decide, by decide⟩ ?_
      exact ⟨_, rfl, rfl, h⟩
theorem cf_X12_isDigit {l : Launch} {E : bE} {M : bM} {v0 : Int} {Q : Int → Prop} (h : b_wp (F_X12_isDigit v0 M) Q) : b_C l E xX12_isDigit yX12_isDigit [bI v0] M (b_pIp M Q) := b_met (by decide) ⟨rfl, rfl⟩ (Nat.le_of_ble_eq_true rfl) (fun _ _ => t_X12_isDigit h)
abbrev xX12_keyAt : bX := ("BurntHallModel", prog_14_method_10_code, 8, (Option.some Jvm.ClassFile.FieldType.int), b_rm 6 0 0, 0, "keyAt")
abbrev yX12_keyAt : MethodName := ⟨"BurntHallModel", "keyAt", "(II)I"⟩
theorem dX12_keyAt_0 : decode prog_14_method_10_code 0 = .ok (.iconst 0, 1) := by decide +kernel
theorem dX12_keyAt_1 : decode prog_14_method_10_code 1 = .ok (.istore_n 3, 1) := by decide +kernel
theorem dX12_keyAt_2 : decode prog_14_method_10_code 2 = .ok (.iconst 0, 1) := by decide +kernel
theorem dX12_keyAt_3 : decode prog_14_method_10_code 3 = .ok (.istore 4, 2) := by decide +kernel
theorem dX12_keyAt_5 : decode prog_14_method_10_code 5 = .ok (.iconst 0, 1) := by decide +kernel
theorem dX12_keyAt_6 : decode prog_14_method_10_code 6 = .ok (.istore 5, 2) := by decide +kernel
theorem dX12_keyAt_8 : decode prog_14_method_10_code 8 = .ok (.iload 5, 2) := by decide +kernel
theorem dX12_keyAt_10 : decode prog_14_method_10_code 10 = .ok (.ldc_w 295, 3) := by decide +kernel
theorem dX12_keyAt_13 : decode prog_14_method_10_code 13 = .ok (.invokevirtual 297, 3) := by decide +kernel
theorem dX12_keyAt_16 : decode prog_14_method_10_code 16 = .ok (.if_icmp .ge 106, 3) := by decide +kernel
theorem dX12_keyAt_19 : decode prog_14_method_10_code 19 = .ok (.ldc_w 295, 3) := by decide +kernel
theorem dX12_keyAt_22 : decode prog_14_method_10_code 22 = .ok (.iload 5, 2) := by decide +kernel
theorem dX12_keyAt_24 : decode prog_14_method_10_code 24 = .ok (.invokevirtual 303, 3) := by decide +kernel
theorem dX12_keyAt_27 : decode prog_14_method_10_code 27 = .ok (.bipush 32, 2) := by decide +kernel
theorem dX12_keyAt_29 : decode prog_14_method_10_code 29 = .ok (.if_icmp .eq 6, 3) := by decide +kernel
theorem dX12_keyAt_32 : decode prog_14_method_10_code 32 = .ok (.goto 84, 3) := by decide +kernel
theorem dX12_keyAt_35 : decode prog_14_method_10_code 35 = .ok (.iload 5, 2) := by decide +kernel
theorem dX12_keyAt_37 : decode prog_14_method_10_code 37 = .ok (.iload 4, 2) := by decide +kernel
theorem dX12_keyAt_39 : decode prog_14_method_10_code 39 = .ok (.isub, 1) := by decide +kernel
theorem dX12_keyAt_40 : decode prog_14_method_10_code 40 = .ok (.iload_n 2, 1) := by decide +kernel
theorem dX12_keyAt_41 : decode prog_14_method_10_code 41 = .ok (.if_icmp .ne 7, 3) := by decide +kernel
theorem dX12_keyAt_44 : decode prog_14_method_10_code 44 = .ok (.iconst 1, 1) := by decide +kernel
theorem dX12_keyAt_45 : decode prog_14_method_10_code 45 = .ok (.goto 4, 3) := by decide +kernel
theorem dX12_keyAt_48 : decode prog_14_method_10_code 48 = .ok (.iconst 0, 1) := by decide +kernel
theorem dX12_keyAt_49 : decode prog_14_method_10_code 49 = .ok (.istore 6, 2) := by decide +kernel
theorem dX12_keyAt_51 : decode prog_14_method_10_code 51 = .ok (.iconst 0, 1) := by decide +kernel
theorem dX12_keyAt_52 : decode prog_14_method_10_code 52 = .ok (.istore 7, 2) := by decide +kernel
theorem dX12_keyAt_54 : decode prog_14_method_10_code 54 = .ok (.iload 7, 2) := by decide +kernel
theorem dX12_keyAt_56 : decode prog_14_method_10_code 56 = .ok (.iload_n 2, 1) := by decide +kernel
theorem dX12_keyAt_57 : decode prog_14_method_10_code 57 = .ok (.if_icmp .ge 43, 3) := by decide +kernel
theorem dX12_keyAt_60 : decode prog_14_method_10_code 60 = .ok (.iload 6, 2) := by decide +kernel
theorem dX12_keyAt_62 : decode prog_14_method_10_code 62 = .ok (.ifCond .eq 38, 3) := by decide +kernel
theorem dX12_keyAt_65 : decode prog_14_method_10_code 65 = .ok (.ldc_w 295, 3) := by decide +kernel
theorem dX12_keyAt_68 : decode prog_14_method_10_code 68 = .ok (.iload 4, 2) := by decide +kernel
theorem dX12_keyAt_70 : decode prog_14_method_10_code 70 = .ok (.iload 7, 2) := by decide +kernel
theorem dX12_keyAt_72 : decode prog_14_method_10_code 72 = .ok (.iadd, 1) := by decide +kernel
theorem dX12_keyAt_73 : decode prog_14_method_10_code 73 = .ok (.invokevirtual 303, 3) := by decide +kernel
theorem dX12_keyAt_76 : decode prog_14_method_10_code 76 = .ok (.aload_n 0, 1) := by decide +kernel
theorem dX12_keyAt_77 : decode prog_14_method_10_code 77 = .ok (.iload_n 1, 1) := by decide +kernel
theorem dX12_keyAt_78 : decode prog_14_method_10_code 78 = .ok (.iload 7, 2) := by decide +kernel
theorem dX12_keyAt_80 : decode prog_14_method_10_code 80 = .ok (.iadd, 1) := by decide +kernel
theorem dX12_keyAt_81 : decode prog_14_method_10_code 81 = .ok (.invokevirtual 307, 3) := by decide +kernel
theorem dX12_keyAt_84 : decode prog_14_method_10_code 84 = .ok (.if_icmp .ne 7, 3) := by decide +kernel
theorem dX12_keyAt_87 : decode prog_14_method_10_code 87 = .ok (.iconst 1, 1) := by decide +kernel
theorem dX12_keyAt_88 : decode prog_14_method_10_code 88 = .ok (.goto 4, 3) := by decide +kernel
theorem dX12_keyAt_91 : decode prog_14_method_10_code 91 = .ok (.iconst 0, 1) := by decide +kernel
theorem dX12_keyAt_92 : decode prog_14_method_10_code 92 = .ok (.istore 6, 2) := by decide +kernel
theorem dX12_keyAt_94 : decode prog_14_method_10_code 94 = .ok (.iinc 7 1, 3) := by decide +kernel
theorem dX12_keyAt_97 : decode prog_14_method_10_code 97 = .ok (.goto (-43), 3) := by decide +kernel
theorem dX12_keyAt_100 : decode prog_14_method_10_code 100 = .ok (.iload 6, 2) := by decide +kernel
theorem dX12_keyAt_102 : decode prog_14_method_10_code 102 = .ok (.ifCond .eq 5, 3) := by decide +kernel
theorem dX12_keyAt_105 : decode prog_14_method_10_code 105 = .ok (.iload_n 3, 1) := by decide +kernel
theorem dX12_keyAt_106 : decode prog_14_method_10_code 106 = .ok (.ireturn, 1) := by decide +kernel
theorem dX12_keyAt_107 : decode prog_14_method_10_code 107 = .ok (.iinc 3 1, 3) := by decide +kernel
theorem dX12_keyAt_110 : decode prog_14_method_10_code 110 = .ok (.iload 5, 2) := by decide +kernel
theorem dX12_keyAt_112 : decode prog_14_method_10_code 112 = .ok (.iconst 1, 1) := by decide +kernel
theorem dX12_keyAt_113 : decode prog_14_method_10_code 113 = .ok (.iadd, 1) := by decide +kernel
theorem dX12_keyAt_114 : decode prog_14_method_10_code 114 = .ok (.istore 4, 2) := by decide +kernel
theorem dX12_keyAt_116 : decode prog_14_method_10_code 116 = .ok (.iinc 5 1, 3) := by decide +kernel
theorem dX12_keyAt_119 : decode prog_14_method_10_code 119 = .ok (.goto (-111), 3) := by decide +kernel
theorem dX12_keyAt_122 : decode prog_14_method_10_code 122 = .ok (.iconst (-1), 1) := by decide +kernel
theorem dX12_keyAt_123 : decode prog_14_method_10_code 123 = .ok (.ireturn, 1) := by decide +kernel
abbrev A_X12_keyAt_8 (l : Launch) (E : bE) (Q : (Int × bM) → Prop) (v1 : Int) (v2 : Int) : (Int × Int × Int × bM) → Prop := (fun t : Int × Int × Int × bM => V l E xX12_keyAt (0, 0) 8 [(0, bR 11), (1, bI v1), (2, bI v2), (3, bI (t.1)), (4, bI (t.2.1)), (5, bI (t.2.2.1))] [] t.2.2.2 (b_pI Q))
abbrev X_X12_keyAt_8 (l : Launch) (E : bE) (Q : (Int × bM) → Prop) (v1 : Int) (v2 : Int) : ((bM) ⊕ (Int × bM)) → Prop := (Sum.elim (fun t : bM => V l E xX12_keyAt (0, 0) 122 [] [] t (b_pI Q)) Q)
abbrev A_X12_keyAt_54 (l : Launch) (E : bE) (Q : (Int × bM) → Prop) (v1 : Int) (v2 : Int) (v3 : Int) (v4 : Int) (v5 : Int) : (Int × Int × bM) → Prop := (fun t : Int × Int × bM => V l E xX12_keyAt (0, 0) 54 [(0, bR 11), (1, bI v1), (2, bI v2), (3, bI v3), (4, bI v4), (5, bI v5), (6, bI (t.1)), (7, bI (t.2.1))] [] t.2.2 (b_pI Q))
abbrev X_X12_keyAt_54 (l : Launch) (E : bE) (Q : (Int × bM) → Prop) (v1 : Int) (v2 : Int) (v3 : Int) (v4 : Int) (v5 : Int) : (Int × bM) → Prop := (fun t : Int × bM => V l E xX12_keyAt (0, 0) 100 [(0, bR 11), (1, bI v1), (2, bI v2), (3, bI v3), (5, bI v5), (6, bI (t.1))] [] t.2 (b_pI Q))
noncomputable def F_X12_keyAt_s54 (v1 : Int) (v2 : Int) (v3 : Int) (v4 : Int) (v5 : Int) (v6 : Int) (v7 : Int) (M : bM) : Option ((Int × Int × bM) ⊕ (Int × bM)) :=
  if v2 ≤ v7 then (some (.inr (v6, M))) else (if v6 = 0 then (some (.inr (v6, M))) else (b_g ((b_i32 (v4 + v7)) ∧ (0 ≤ (v4 + v7) ∧ (v4 + v7) < 141) ∧ (b_i32 (v1 + v7))) (b_bind (F_X12_see (v1 + v7) M) (fun x11 => if (s_t4 (v4 + v7)) = x11 then (b_g (b_i32 (v7 + 1)) (some (.inl (1, (v7 + 1), M)))) else (b_g (b_i32 (v7 + 1)) (some (.inl (0, (v7 + 1), M))))))))
theorem t_X12_keyAt_s54 {l : Launch} {E : bE} {Q : (Int × bM) → Prop} {v1 : Int} {v2 : Int} {v3 : Int} {v4 : Int} {v5 : Int} {v6 : Int} {v7 : Int} {M : bM} (hfg : b_fg E) (h : b_wp (F_X12_keyAt_s54 v1 v2 v3 v4 v5 v6 v7 M) (Sum.elim (A_X12_keyAt_54 l E Q v1 v2 v3 v4 v5) (X_X12_keyAt_54 l E Q v1 v2 v3 v4 v5))) : V l E xX12_keyAt (0, 0) 54 [(0, bR 11), (1, bI v1), (2, bI v2), (3, bI v3), (4, bI v4), (5, bI v5), (6, bI v6), (7, bI v7)] [] M (b_pI Q) := by
  unfold F_X12_keyAt_s54 at h
  refine v_iload (i := 7) 7 rfl dX12_keyAt_54 ?_
  refine v_iload_n (f := 2) 2 rfl dX12_keyAt_56 ?_
  refine v_icmp_ge (tgt := 100) dX12_keyAt_57 (by decide) (fun c6 => ?_) (fun c6 => ?_)
  · replace h := b_wp_t c6 h
    refine v_sub (ls2 := [(0, bR _), (1, bI _), (2, bI _), (3, bI _), (5, bI _), (6, bI _)]) [0, 1, 2, 3, 5, 6] rfl ?_
    exact h
  · replace h := b_wp_f c6 h
    refine v_iload (i := 6) 6 rfl dX12_keyAt_60 ?_
    refine v_if_eq (tgt := 100) dX12_keyAt_62 (by decide) (fun c7 => ?_) (fun c7 => ?_)
    · replace h := b_wp_t c7 h
      refine v_sub (ls2 := [(0, bR _), (1, bI _), (2, bI _), (3, bI _), (5, bI _), (6, bI _)]) [0, 1, 2, 3, 5, 6] rfl ?_
      exact h
    · replace h := b_wp_f c7 h
      obtain ⟨⟨g8, g9, g10⟩, h⟩ := b_wp_g h
      refine f_ldcSw (c1 := 2004) (by decide) (hfg.2.2.2.2.2.2.2.2.2.2.1) dX12_keyAt_65 ?_
      refine v_iload (i := 4) 4 rfl dX12_keyAt_68 ?_
      refine v_iload (i := 7) 7 rfl dX12_keyAt_70 ?_
      refine v_iaddN g8 dX12_keyAt_72 ?_
      refine f_callV (nA := 1) (As := [bI _]) (ix := 303) (C := "java/lang/String") (c_charAt (hfg.1) (hfg.2.2.2.2.2.1) g9) rfl (by decide) (hfg.2.2.2.2.2.1).2.1 rfl wc_J0_charAt_5068e wm_12_303 wi_J0_charAt_5068e ws_J0_charAt_5068e wn_java_lang_String ⟨by decide, by decide, by decide⟩ rfl ⟨by decide, by decide⟩ ⟨by decide, by decide⟩ (Nat.le_of_ble_eq_true rfl) dX12_keyAt_73 (fun r M2 hp => ?_)
      obtain ⟨rfl, rfl⟩ := hp
      dsimp only [Option.toList, List.cons_append, List.nil_append]
      refine v_aload_n (f := 0) 0 rfl dX12_keyAt_76 ?_
      refine v_iload_n (f := 1) 1 rfl dX12_keyAt_77 ?_
      refine v_iload (i := 7) 7 rfl dX12_keyAt_78 ?_
      refine v_iaddN g10 dX12_keyAt_80 ?_
      refine v_cVIp (nA := 1) (As := [bI _]) (ix := 307) (cf_X12_see (b_wp_b h)) rfl kd_11 rfl rfl wc_X12_see wm_12_307 wi_X12_see ws_X12_see wn_12 ⟨by decide, by decide, by decide⟩ rfl ⟨by decide, by decide⟩ ⟨by decide, by decide⟩ (Nat.le_of_ble_eq_true rfl) dX12_keyAt_81 (fun x11 h => ?_)
      refine v_icmp_ne (tgt := 91) dX12_keyAt_84 (by decide) (fun c12 => ?_) (fun c12 => ?_)
      · replace h := b_wp_f c12 h
        obtain ⟨g13, h⟩ := b_wp_g h
        refine v_iconst ⟨by decide, by decide⟩ dX12_keyAt_91 ?_
        refine v_istore (i := 6) (ls' := [(6, bI _), (0, bR _), (1, bI _), (2, bI _), (3, bI _), (4, bI _), (5, bI _), (7, bI _)]) (by decide) dX12_keyAt_92 rfl ?_
        refine v_iincN (ls' := [(7, bI _), (6, bI _), (0, bR _), (1, bI _), (2, bI _), (3, bI _), (4, bI _), (5, bI _)]) 7 rfl (by decide) g13 dX12_keyAt_94 rfl ?_
        refine v_goto (tgt := 54) dX12_keyAt_97 (by decide) ?_
        refine v_sub (ls2 := [(0, bR _), (1, bI _), (2, bI _), (3, bI _), (4, bI _), (5, bI _), (6, bI _), (7, bI _)]) [2, 3, 4, 5, 6, 7, 1, 0] rfl ?_
        exact h
      · replace h := b_wp_t c12 h
        obtain ⟨g14, h⟩ := b_wp_g h
        refine v_iconst ⟨by decide, by decide⟩ dX12_keyAt_87 ?_
        refine v_goto (tgt := 92) dX12_keyAt_88 (by decide) ?_
        refine v_istore (i := 6) (ls' := [(6, bI _), (0, bR _), (1, bI _), (2, bI _), (3, bI _), (4, bI _), (5, bI _), (7, bI _)]) (by decide) dX12_keyAt_92 rfl ?_
        refine v_iincN (ls' := [(7, bI _), (6, bI _), (0, bR _), (1, bI _), (2, bI _), (3, bI _), (4, bI _), (5, bI _)]) 7 rfl (by decide) g14 dX12_keyAt_94 rfl ?_
        refine v_goto (tgt := 54) dX12_keyAt_97 (by decide) ?_
        refine v_sub (ls2 := [(0, bR _), (1, bI _), (2, bI _), (3, bI _), (4, bI _), (5, bI _), (6, bI _), (7, bI _)]) [2, 3, 4, 5, 6, 7, 1, 0] rfl ?_
        exact h
theorem l_X12_keyAt_54 {l : Launch} {E : bE} {Q : (Int × bM) → Prop} {v1 : Int} {v2 : Int} {v3 : Int} {v4 : Int} {v5 : Int} (hfg : b_fg E) {s : Int × Int × bM} (h : b_wp (b_loop (fun t => F_X12_keyAt_s54 v1 v2 v3 v4 v5 t.1 t.2.1 t.2.2) s) (X_X12_keyAt_54 l E Q v1 v2 v3 v4 v5)) : A_X12_keyAt_54 l E Q v1 v2 v3 v4 v5 s := b_loop_wp (fun t h => t_X12_keyAt_s54 hfg h) s h
noncomputable def F_X12_keyAt_b100 (v1 : Int) (v2 : Int) (v3 : Int) (v5 : Int) (v6 : Int) (M : bM) : Option ((Int × Int × Int × bM) ⊕ ((bM) ⊕ (Int × bM))) :=
  if v6 = 0 then (b_g ((b_i32 (v3 + 1)) ∧ (b_i32 (v5 + 1))) (some (.inl ((v3 + 1), (v5 + 1), (v5 + 1), M)))) else (some (.inr (.inr (v3, M))))
theorem t_X12_keyAt_b100 {l : Launch} {E : bE} {Q : (Int × bM) → Prop} {v1 : Int} {v2 : Int} {v3 : Int} {v5 : Int} {v6 : Int} {M : bM} (hfg : b_fg E) (h : b_wp (F_X12_keyAt_b100 v1 v2 v3 v5 v6 M) (Sum.elim (A_X12_keyAt_8 l E Q v1 v2) (X_X12_keyAt_8 l E Q v1 v2))) : V l E xX12_keyAt (0, 0) 100 [(0, bR 11), (1, bI v1), (2, bI v2), (3, bI v3), (5, bI v5), (6, bI v6)] [] M (b_pI Q) := by
  unfold F_X12_keyAt_b100 at h
  refine v_iload (i := 6) 5 rfl dX12_keyAt_100 ?_
  refine v_if_eq (tgt := 107) dX12_keyAt_102 (by decide) (fun c15 => ?_) (fun c15 => ?_)
  · replace h := b_wp_t c15 h
    obtain ⟨⟨g16, g17⟩, h⟩ := b_wp_g h
    refine v_iincN (ls' := [(3, bI _), (0, bR _), (1, bI _), (2, bI _), (5, bI _), (6, bI _)]) 3 rfl (by decide) g16 dX12_keyAt_107 rfl ?_
    refine v_iload (i := 5) 4 rfl dX12_keyAt_110 ?_
    refine v_iconst ⟨by decide, by decide⟩ dX12_keyAt_112 ?_
    refine v_iaddN g17 dX12_keyAt_113 ?_
    refine v_istore (i := 4) (ls' := [(4, bI _), (3, bI _), (0, bR _), (1, bI _), (2, bI _), (5, bI _), (6, bI _)]) (by decide) dX12_keyAt_114 rfl ?_
    refine v_iincN (ls' := [(5, bI _), (4, bI _), (3, bI _), (0, bR _), (1, bI _), (2, bI _), (6, bI _)]) 5 rfl (by decide) g17 dX12_keyAt_116 rfl ?_
    refine v_goto (tgt := 8) dX12_keyAt_119 (by decide) ?_
    refine v_sub (ls2 := [(0, bR _), (1, bI _), (2, bI _), (3, bI _), (4, bI _), (5, bI _)]) [3, 4, 5, 2, 1, 0] rfl ?_
    exact h
  · replace h := b_wp_f c15 h
    refine v_iload_n (f := 3) 3 rfl dX12_keyAt_105 ?_
    refine v_ireturn rfl dX12_keyAt_106 ⟨by decide, by decide⟩ ?_
    exact ⟨_, rfl, h⟩
noncomputable def F_X12_keyAt_b49 (v1 : Int) (v2 : Int) (v3 : Int) (v4 : Int) (v5 : Int) (u0 : Int) (M : bM) : Option ((Int × Int × Int × bM) ⊕ ((bM) ⊕ (Int × bM))) :=
  b_bind (b_loop (fun t => F_X12_keyAt_s54 v1 v2 v3 v4 v5 t.1 t.2.1 t.2.2) (u0, 0, M)) (fun t => F_X12_keyAt_b100 v1 v2 v3 v5 (t.1) (t.2))
theorem t_X12_keyAt_b49 {l : Launch} {E : bE} {Q : (Int × bM) → Prop} {v1 : Int} {v2 : Int} {v3 : Int} {v4 : Int} {v5 : Int} {u0 : Int} {M : bM} (hfg : b_fg E) (h : b_wp (F_X12_keyAt_b49 v1 v2 v3 v4 v5 u0 M) (Sum.elim (A_X12_keyAt_8 l E Q v1 v2) (X_X12_keyAt_8 l E Q v1 v2))) : V l E xX12_keyAt (0, 0) 49 [(0, bR 11), (1, bI v1), (2, bI v2), (3, bI v3), (4, bI v4), (5, bI v5)] [bI u0] M (b_pI Q) := by
  unfold F_X12_keyAt_b49 at h
  refine v_istore (i := 6) (ls' := [(6, bI _), (0, bR _), (1, bI _), (2, bI _), (3, bI _), (4, bI _), (5, bI _)]) (by decide) dX12_keyAt_49 rfl ?_
  refine v_iconst ⟨by decide, by decide⟩ dX12_keyAt_51 ?_
  refine v_istore (i := 7) (ls' := [(7, bI _), (6, bI _), (0, bR _), (1, bI _), (2, bI _), (3, bI _), (4, bI _), (5, bI _)]) (by decide) dX12_keyAt_52 rfl ?_
  refine v_sub (ls2 := [(0, bR _), (1, bI _), (2, bI _), (3, bI _), (4, bI _), (5, bI _), (6, bI _), (7, bI _)]) [2, 3, 4, 5, 6, 7, 1, 0] rfl ?_
  refine l_X12_keyAt_54 hfg (b_wp_m (fun t h => ?_) (b_wp_b h))
  show V l E xX12_keyAt (0, 0) 100 [(0, bR 11), (1, bI _), (2, bI _), (3, bI _), (5, bI _), (6, bI _)] [] _ (b_pI Q)
  exact t_X12_keyAt_b100 hfg h
noncomputable def F_X12_keyAt_s8 (v1 : Int) (v2 : Int) (v3 : Int) (v4 : Int) (v5 : Int) (M : bM) : Option ((Int × Int × Int × bM) ⊕ ((bM) ⊕ (Int × bM))) :=
  if 141 ≤ v5 then (some (.inr (.inl (M)))) else (b_g (0 ≤ v5 ∧ v5 < 141) (if (s_t4 v5) = 32 then (b_g (b_i32 (v5 - v4)) (if (v5 - v4) = v2 then (F_X12_keyAt_b49 v1 v2 v3 v4 v5 1 M) else (F_X12_keyAt_b49 v1 v2 v3 v4 v5 0 M))) else (b_g (b_i32 (v5 + 1)) (some (.inl (v3, v4, (v5 + 1), M))))))
theorem t_X12_keyAt_s8 {l : Launch} {E : bE} {Q : (Int × bM) → Prop} {v1 : Int} {v2 : Int} {v3 : Int} {v4 : Int} {v5 : Int} {M : bM} (hfg : b_fg E) (h : b_wp (F_X12_keyAt_s8 v1 v2 v3 v4 v5 M) (Sum.elim (A_X12_keyAt_8 l E Q v1 v2) (X_X12_keyAt_8 l E Q v1 v2))) : V l E xX12_keyAt (0, 0) 8 [(0, bR 11), (1, bI v1), (2, bI v2), (3, bI v3), (4, bI v4), (5, bI v5)] [] M (b_pI Q) := by
  unfold F_X12_keyAt_s8 at h
  refine v_iload (i := 5) 5 rfl dX12_keyAt_8 ?_
  refine f_ldcSw (c1 := 2004) (by decide) (hfg.2.2.2.2.2.2.2.2.2.2.1) dX12_keyAt_10 ?_
  refine f_callV (nA := 0) (As := []) (ix := 297) (C := "java/lang/String") (c_strlen (hfg.1) (hfg.2.2.2.2.2.1)) rfl (by decide) (hfg.2.2.2.2.2.1).2.1 rfl wc_J0_length_8abf5 wm_12_297 wi_J0_length_8abf5 ws_J0_length_8abf5 wn_java_lang_String ⟨by decide, by decide, by decide⟩ rfl ⟨by decide, by decide⟩ ⟨by decide, by decide⟩ (Nat.le_of_ble_eq_true rfl) dX12_keyAt_13 (fun r M2 hp => ?_)
  obtain ⟨rfl, rfl⟩ := hp
  dsimp only [Option.toList, List.cons_append, List.nil_append]
  refine v_icmp_ge (tgt := 122) dX12_keyAt_16 (by decide) (fun c1 => ?_) (fun c1 => ?_)
  · replace h := b_wp_t c1 h
    refine v_sub (ls2 := []) [] rfl ?_
    exact h
  · replace h := b_wp_f c1 h
    obtain ⟨g2, h⟩ := b_wp_g h
    refine f_ldcSw (c1 := 2004) (by decide) (hfg.2.2.2.2.2.2.2.2.2.2.1) dX12_keyAt_19 ?_
    refine v_iload (i := 5) 5 rfl dX12_keyAt_22 ?_
    refine f_callV (nA := 1) (As := [bI _]) (ix := 303) (C := "java/lang/String") (c_charAt (hfg.1) (hfg.2.2.2.2.2.1) g2) rfl (by decide) (hfg.2.2.2.2.2.1).2.1 rfl wc_J0_charAt_5068e wm_12_303 wi_J0_charAt_5068e ws_J0_charAt_5068e wn_java_lang_String ⟨by decide, by decide, by decide⟩ rfl ⟨by decide, by decide⟩ ⟨by decide, by decide⟩ (Nat.le_of_ble_eq_true rfl) dX12_keyAt_24 (fun r M2 hp => ?_)
    obtain ⟨rfl, rfl⟩ := hp
    dsimp only [Option.toList, List.cons_append, List.nil_append]
    refine v_bipush ⟨by decide, by decide⟩ (by decide) dX12_keyAt_27 ?_
    refine v_icmp_eq (tgt := 35) dX12_keyAt_29 (by decide) (fun c3 => ?_) (fun c3 => ?_)
    · replace h := b_wp_t c3 h
      obtain ⟨g4, h⟩ := b_wp_g h
      refine v_iload (i := 5) 5 rfl dX12_keyAt_35 ?_
      refine v_iload (i := 4) 4 rfl dX12_keyAt_37 ?_
      refine v_isubN g4 dX12_keyAt_39 ?_
      refine v_iload_n (f := 2) 2 rfl dX12_keyAt_40 ?_
      refine v_icmp_ne (tgt := 48) dX12_keyAt_41 (by decide) (fun c5 => ?_) (fun c5 => ?_)
      · replace h := b_wp_f c5 h
        refine v_iconst ⟨by decide, by decide⟩ dX12_keyAt_48 ?_
        exact t_X12_keyAt_b49 hfg h
      · replace h := b_wp_t c5 h
        refine v_iconst ⟨by decide, by decide⟩ dX12_keyAt_44 ?_
        refine v_goto (tgt := 49) dX12_keyAt_45 (by decide) ?_
        exact t_X12_keyAt_b49 hfg h
    · replace h := b_wp_f c3 h
      obtain ⟨g18, h⟩ := b_wp_g h
      refine v_goto (tgt := 116) dX12_keyAt_32 (by decide) ?_
      refine v_iincN (ls' := [(5, bI _), (0, bR _), (1, bI _), (2, bI _), (3, bI _), (4, bI _)]) 5 rfl (by decide) g18 dX12_keyAt_116 rfl ?_
      refine v_goto (tgt := 8) dX12_keyAt_119 (by decide) ?_
      refine v_sub (ls2 := [(0, bR _), (1, bI _), (2, bI _), (3, bI _), (4, bI _), (5, bI _)]) [1, 2, 3, 4, 5, 0] rfl ?_
      exact h
theorem l_X12_keyAt_8 {l : Launch} {E : bE} {Q : (Int × bM) → Prop} {v1 : Int} {v2 : Int} (hfg : b_fg E) {s : Int × Int × Int × bM} (h : b_wp (b_loop (fun t => F_X12_keyAt_s8 v1 v2 t.1 t.2.1 t.2.2.1 t.2.2.2) s) (X_X12_keyAt_8 l E Q v1 v2)) : A_X12_keyAt_8 l E Q v1 v2 s := b_loop_wp (fun t h => t_X12_keyAt_s8 hfg h) s h
noncomputable def F_X12_keyAt_b122 (M : bM) : Option (Int × bM) :=
  some ((-1), M)
theorem t_X12_keyAt_b122 {l : Launch} {E : bE} {Q : (Int × bM) → Prop} {M : bM} (hfg : b_fg E) (h : b_wp (F_X12_keyAt_b122 M) (Q)) : V l E xX12_keyAt (0, 0) 122 [] [] M (b_pI Q) := by
  unfold F_X12_keyAt_b122 at h
  refine v_iconst ⟨by decide, by decide⟩ dX12_keyAt_122 ?_
  refine v_ireturn rfl dX12_keyAt_123 ⟨by decide, by decide⟩ ?_
  exact ⟨_, rfl, h⟩
noncomputable def F_X12_keyAt (v1 : Int) (v2 : Int) (M : bM) : Option (Int × bM) :=
  b_bind (b_loop (fun t => F_X12_keyAt_s8 v1 v2 t.1 t.2.1 t.2.2.1 t.2.2.2) (0, 0, 0, M)) (Sum.elim (fun t => F_X12_keyAt_b122 t) some)
theorem t_X12_keyAt {l : Launch} {E : bE} {Q : (Int × bM) → Prop} {v1 : Int} {v2 : Int} {M : bM} (hfg : b_fg E) (h : b_wp (F_X12_keyAt v1 v2 M) (Q)) : V l E xX12_keyAt (0, 0) 0 [(0, bR 11), (1, bI v1), (2, bI v2)] [] M (b_pI Q) := by
  unfold F_X12_keyAt at h
  refine v_iconst ⟨by decide, by decide⟩ dX12_keyAt_0 ?_
  refine v_istore_n (g := 3) (i := 3) (ls' := [(3, bI _), (0, bR _), (1, bI _), (2, bI _)]) rfl (by decide) dX12_keyAt_1 rfl ?_
  refine v_iconst ⟨by decide, by decide⟩ dX12_keyAt_2 ?_
  refine v_istore (i := 4) (ls' := [(4, bI _), (3, bI _), (0, bR _), (1, bI _), (2, bI _)]) (by decide) dX12_keyAt_3 rfl ?_
  refine v_iconst ⟨by decide, by decide⟩ dX12_keyAt_5 ?_
  refine v_istore (i := 5) (ls' := [(5, bI _), (4, bI _), (3, bI _), (0, bR _), (1, bI _), (2, bI _)]) (by decide) dX12_keyAt_6 rfl ?_
  refine v_sub (ls2 := [(0, bR _), (1, bI _), (2, bI _), (3, bI _), (4, bI _), (5, bI _)]) [3, 4, 5, 2, 1, 0] rfl ?_
  refine l_X12_keyAt_8 hfg (b_wp_m (fun t h => ?_) (b_wp_b h))
  cases t with
  | inr o => exact h
  | inl t =>
    show V l E xX12_keyAt (0, 0) 122 [] [] _ (b_pI Q)
    replace h := b_wp_inl h
    exact t_X12_keyAt_b122 hfg h
theorem cf_X12_keyAt {l : Launch} {E : bE} {M : bM} {v1 : Int} {v2 : Int} (hfg : b_fg E) {Q : (Int × bM) → Prop} (h : b_wp (F_X12_keyAt v1 v2 M) Q) : b_C l E xX12_keyAt yX12_keyAt [bR 11, bI v1, bI v2] M (b_pI Q) := b_met (by decide) ⟨rfl, rfl⟩ (Nat.le_of_ble_eq_true rfl) (fun _ _ => t_X12_keyAt hfg h)
abbrev xX12_scan : bX := ("BurntHallModel", prog_14_method_11_code, 4, (Option.none : Option Jvm.ClassFile.FieldType), b_rm 7 0 0, 0, "scan")
abbrev yX12_scan : MethodName := ⟨"BurntHallModel", "scan", "()V"⟩
theorem dX12_scan_0 : decode prog_14_method_11_code 0 = .ok (.aload_n 0, 1) := by decide +kernel
theorem dX12_scan_1 : decode prog_14_method_11_code 1 = .ok (.getfield 289, 3) := by decide +kernel
theorem dX12_scan_4 : decode prog_14_method_11_code 4 = .ok (.istore_n 1, 1) := by decide +kernel
theorem dX12_scan_5 : decode prog_14_method_11_code 5 = .ok (.aload_n 0, 1) := by decide +kernel
theorem dX12_scan_6 : decode prog_14_method_11_code 6 = .ok (.iload_n 1, 1) := by decide +kernel
theorem dX12_scan_7 : decode prog_14_method_11_code 7 = .ok (.invokevirtual 307, 3) := by decide +kernel
theorem dX12_scan_10 : decode prog_14_method_11_code 10 = .ok (.bipush 32, 2) := by decide +kernel
theorem dX12_scan_12 : decode prog_14_method_11_code 12 = .ok (.if_icmp .eq 13, 3) := by decide +kernel
theorem dX12_scan_15 : decode prog_14_method_11_code 15 = .ok (.aload_n 0, 1) := by decide +kernel
theorem dX12_scan_16 : decode prog_14_method_11_code 16 = .ok (.iload_n 1, 1) := by decide +kernel
theorem dX12_scan_17 : decode prog_14_method_11_code 17 = .ok (.invokevirtual 307, 3) := by decide +kernel
theorem dX12_scan_20 : decode prog_14_method_11_code 20 = .ok (.bipush 10, 2) := by decide +kernel
theorem dX12_scan_22 : decode prog_14_method_11_code 22 = .ok (.if_icmp .ne 9, 3) := by decide +kernel
theorem dX12_scan_25 : decode prog_14_method_11_code 25 = .ok (.iinc 1 1, 3) := by decide +kernel
theorem dX12_scan_28 : decode prog_14_method_11_code 28 = .ok (.goto (-23), 3) := by decide +kernel
theorem dX12_scan_31 : decode prog_14_method_11_code 31 = .ok (.aload_n 0, 1) := by decide +kernel
theorem dX12_scan_32 : decode prog_14_method_11_code 32 = .ok (.iload_n 1, 1) := by decide +kernel
theorem dX12_scan_33 : decode prog_14_method_11_code 33 = .ok (.putfield 310, 3) := by decide +kernel
theorem dX12_scan_36 : decode prog_14_method_11_code 36 = .ok (.aload_n 0, 1) := by decide +kernel
theorem dX12_scan_37 : decode prog_14_method_11_code 37 = .ok (.iload_n 1, 1) := by decide +kernel
theorem dX12_scan_38 : decode prog_14_method_11_code 38 = .ok (.invokevirtual 307, 3) := by decide +kernel
theorem dX12_scan_41 : decode prog_14_method_11_code 41 = .ok (.istore_n 2, 1) := by decide +kernel
theorem dX12_scan_42 : decode prog_14_method_11_code 42 = .ok (.iload_n 1, 1) := by decide +kernel
theorem dX12_scan_43 : decode prog_14_method_11_code 43 = .ok (.iconst 1, 1) := by decide +kernel
theorem dX12_scan_44 : decode prog_14_method_11_code 44 = .ok (.iadd, 1) := by decide +kernel
theorem dX12_scan_45 : decode prog_14_method_11_code 45 = .ok (.istore_n 3, 1) := by decide +kernel
theorem dX12_scan_46 : decode prog_14_method_11_code 46 = .ok (.aload_n 0, 1) := by decide +kernel
theorem dX12_scan_47 : decode prog_14_method_11_code 47 = .ok (.iconst (-1), 1) := by decide +kernel
theorem dX12_scan_48 : decode prog_14_method_11_code 48 = .ok (.putfield 313, 3) := by decide +kernel
theorem dX12_scan_51 : decode prog_14_method_11_code 51 = .ok (.iload_n 2, 1) := by decide +kernel
theorem dX12_scan_52 : decode prog_14_method_11_code 52 = .ok (.iconst (-1), 1) := by decide +kernel
theorem dX12_scan_53 : decode prog_14_method_11_code 53 = .ok (.if_icmp .ne 14, 3) := by decide +kernel
theorem dX12_scan_56 : decode prog_14_method_11_code 56 = .ok (.aload_n 0, 1) := by decide +kernel
theorem dX12_scan_57 : decode prog_14_method_11_code 57 = .ok (.bipush 8, 2) := by decide +kernel
theorem dX12_scan_59 : decode prog_14_method_11_code 59 = .ok (.putfield 316, 3) := by decide +kernel
theorem dX12_scan_62 : decode prog_14_method_11_code 62 = .ok (.iload_n 1, 1) := by decide +kernel
theorem dX12_scan_63 : decode prog_14_method_11_code 63 = .ok (.istore_n 3, 1) := by decide +kernel
theorem dX12_scan_64 : decode prog_14_method_11_code 64 = .ok (.goto 249, 3) := by decide +kernel
theorem dX12_scan_67 : decode prog_14_method_11_code 67 = .ok (.iload_n 2, 1) := by decide +kernel
theorem dX12_scan_68 : decode prog_14_method_11_code 68 = .ok (.invokestatic 319, 3) := by decide +kernel
theorem dX12_scan_71 : decode prog_14_method_11_code 71 = .ok (.ifCond .eq 100, 3) := by decide +kernel
theorem dX12_scan_74 : decode prog_14_method_11_code 74 = .ok (.aload_n 0, 1) := by decide +kernel
theorem dX12_scan_75 : decode prog_14_method_11_code 75 = .ok (.lconst 0, 1) := by decide +kernel
theorem dX12_scan_76 : decode prog_14_method_11_code 76 = .ok (.putfield 323, 3) := by decide +kernel
theorem dX12_scan_79 : decode prog_14_method_11_code 79 = .ok (.iload_n 1, 1) := by decide +kernel
theorem dX12_scan_80 : decode prog_14_method_11_code 80 = .ok (.istore_n 3, 1) := by decide +kernel
theorem dX12_scan_81 : decode prog_14_method_11_code 81 = .ok (.aload_n 0, 1) := by decide +kernel
theorem dX12_scan_82 : decode prog_14_method_11_code 82 = .ok (.iload_n 3, 1) := by decide +kernel
theorem dX12_scan_83 : decode prog_14_method_11_code 83 = .ok (.invokevirtual 307, 3) := by decide +kernel
theorem dX12_scan_86 : decode prog_14_method_11_code 86 = .ok (.invokestatic 319, 3) := by decide +kernel
theorem dX12_scan_89 : decode prog_14_method_11_code 89 = .ok (.ifCond .eq 42, 3) := by decide +kernel
theorem dX12_scan_92 : decode prog_14_method_11_code 92 = .ok (.iload_n 3, 1) := by decide +kernel
theorem dX12_scan_93 : decode prog_14_method_11_code 93 = .ok (.iload_n 1, 1) := by decide +kernel
theorem dX12_scan_94 : decode prog_14_method_11_code 94 = .ok (.isub, 1) := by decide +kernel
theorem dX12_scan_95 : decode prog_14_method_11_code 95 = .ok (.bipush 12, 2) := by decide +kernel
theorem dX12_scan_97 : decode prog_14_method_11_code 97 = .ok (.if_icmp .ge 28, 3) := by decide +kernel
theorem dX12_scan_100 : decode prog_14_method_11_code 100 = .ok (.aload_n 0, 1) := by decide +kernel
theorem dX12_scan_101 : decode prog_14_method_11_code 101 = .ok (.ldc2_w 327, 3) := by decide +kernel
theorem dX12_scan_104 : decode prog_14_method_11_code 104 = .ok (.aload_n 0, 1) := by decide +kernel
theorem dX12_scan_105 : decode prog_14_method_11_code 105 = .ok (.getfield 323, 3) := by decide +kernel
theorem dX12_scan_108 : decode prog_14_method_11_code 108 = .ok (.lmul, 1) := by decide +kernel
theorem dX12_scan_109 : decode prog_14_method_11_code 109 = .ok (.aload_n 0, 1) := by decide +kernel
theorem dX12_scan_110 : decode prog_14_method_11_code 110 = .ok (.iload_n 3, 1) := by decide +kernel
theorem dX12_scan_111 : decode prog_14_method_11_code 111 = .ok (.invokevirtual 307, 3) := by decide +kernel
theorem dX12_scan_114 : decode prog_14_method_11_code 114 = .ok (.i2l, 1) := by decide +kernel
theorem dX12_scan_115 : decode prog_14_method_11_code 115 = .ok (.ladd, 1) := by decide +kernel
theorem dX12_scan_116 : decode prog_14_method_11_code 116 = .ok (.ldc2_w 329, 3) := by decide +kernel
theorem dX12_scan_119 : decode prog_14_method_11_code 119 = .ok (.lsub, 1) := by decide +kernel
theorem dX12_scan_120 : decode prog_14_method_11_code 120 = .ok (.lconst 1, 1) := by decide +kernel
theorem dX12_scan_121 : decode prog_14_method_11_code 121 = .ok (.ladd, 1) := by decide +kernel
theorem dX12_scan_122 : decode prog_14_method_11_code 122 = .ok (.putfield 323, 3) := by decide +kernel
theorem dX12_scan_125 : decode prog_14_method_11_code 125 = .ok (.iinc 3 1, 3) := by decide +kernel
theorem dX12_scan_128 : decode prog_14_method_11_code 128 = .ok (.goto (-47), 3) := by decide +kernel
theorem dX12_scan_131 : decode prog_14_method_11_code 131 = .ok (.aload_n 0, 1) := by decide +kernel
theorem dX12_scan_132 : decode prog_14_method_11_code 132 = .ok (.iload_n 3, 1) := by decide +kernel
theorem dX12_scan_133 : decode prog_14_method_11_code 133 = .ok (.iload_n 1, 1) := by decide +kernel
theorem dX12_scan_134 : decode prog_14_method_11_code 134 = .ok (.isub, 1) := by decide +kernel
theorem dX12_scan_135 : decode prog_14_method_11_code 135 = .ok (.bipush 12, 2) := by decide +kernel
theorem dX12_scan_137 : decode prog_14_method_11_code 137 = .ok (.if_icmp .le 7, 3) := by decide +kernel
theorem dX12_scan_140 : decode prog_14_method_11_code 140 = .ok (.iconst 0, 1) := by decide +kernel
theorem dX12_scan_141 : decode prog_14_method_11_code 141 = .ok (.goto 4, 3) := by decide +kernel
theorem dX12_scan_144 : decode prog_14_method_11_code 144 = .ok (.iconst 1, 1) := by decide +kernel
theorem dX12_scan_145 : decode prog_14_method_11_code 145 = .ok (.putfield 316, 3) := by decide +kernel
theorem dX12_scan_148 : decode prog_14_method_11_code 148 = .ok (.aload_n 0, 1) := by decide +kernel
theorem dX12_scan_149 : decode prog_14_method_11_code 149 = .ok (.getfield 316, 3) := by decide +kernel
theorem dX12_scan_152 : decode prog_14_method_11_code 152 = .ok (.iconst 1, 1) := by decide +kernel
theorem dX12_scan_153 : decode prog_14_method_11_code 153 = .ok (.if_icmp .ne 160, 3) := by decide +kernel
theorem dX12_scan_156 : decode prog_14_method_11_code 156 = .ok (.aload_n 0, 1) := by decide +kernel
theorem dX12_scan_157 : decode prog_14_method_11_code 157 = .ok (.aload_n 0, 1) := by decide +kernel
theorem dX12_scan_158 : decode prog_14_method_11_code 158 = .ok (.iload_n 1, 1) := by decide +kernel
theorem dX12_scan_159 : decode prog_14_method_11_code 159 = .ok (.iload_n 3, 1) := by decide +kernel
theorem dX12_scan_160 : decode prog_14_method_11_code 160 = .ok (.iload_n 1, 1) := by decide +kernel
theorem dX12_scan_161 : decode prog_14_method_11_code 161 = .ok (.isub, 1) := by decide +kernel
theorem dX12_scan_162 : decode prog_14_method_11_code 162 = .ok (.invokevirtual 331, 3) := by decide +kernel
theorem dX12_scan_165 : decode prog_14_method_11_code 165 = .ok (.putfield 313, 3) := by decide +kernel
theorem dX12_scan_168 : decode prog_14_method_11_code 168 = .ok (.goto 145, 3) := by decide +kernel
theorem dX12_scan_171 : decode prog_14_method_11_code 171 = .ok (.iload_n 2, 1) := by decide +kernel
theorem dX12_scan_172 : decode prog_14_method_11_code 172 = .ok (.invokestatic 335, 3) := by decide +kernel
theorem dX12_scan_175 : decode prog_14_method_11_code 175 = .ok (.ifCond .eq 81, 3) := by decide +kernel
theorem dX12_scan_178 : decode prog_14_method_11_code 178 = .ok (.aload_n 0, 1) := by decide +kernel
theorem dX12_scan_179 : decode prog_14_method_11_code 179 = .ok (.iload_n 2, 1) := by decide +kernel
theorem dX12_scan_180 : decode prog_14_method_11_code 180 = .ok (.bipush 48, 2) := by decide +kernel
theorem dX12_scan_182 : decode prog_14_method_11_code 182 = .ok (.isub, 1) := by decide +kernel
theorem dX12_scan_183 : decode prog_14_method_11_code 183 = .ok (.putfield 338, 3) := by decide +kernel
theorem dX12_scan_186 : decode prog_14_method_11_code 186 = .ok (.aload_n 0, 1) := by decide +kernel
theorem dX12_scan_187 : decode prog_14_method_11_code 187 = .ok (.iload_n 3, 1) := by decide +kernel
theorem dX12_scan_188 : decode prog_14_method_11_code 188 = .ok (.invokevirtual 307, 3) := by decide +kernel
theorem dX12_scan_191 : decode prog_14_method_11_code 191 = .ok (.invokestatic 335, 3) := by decide +kernel
theorem dX12_scan_194 : decode prog_14_method_11_code 194 = .ok (.ifCond .eq 43, 3) := by decide +kernel
theorem dX12_scan_197 : decode prog_14_method_11_code 197 = .ok (.aload_n 0, 1) := by decide +kernel
theorem dX12_scan_198 : decode prog_14_method_11_code 198 = .ok (.iload_n 3, 1) := by decide +kernel
theorem dX12_scan_199 : decode prog_14_method_11_code 199 = .ok (.iload_n 1, 1) := by decide +kernel
theorem dX12_scan_200 : decode prog_14_method_11_code 200 = .ok (.isub, 1) := by decide +kernel
theorem dX12_scan_201 : decode prog_14_method_11_code 201 = .ok (.iconst 4, 1) := by decide +kernel
theorem dX12_scan_202 : decode prog_14_method_11_code 202 = .ok (.if_icmp .ge 22, 3) := by decide +kernel
theorem dX12_scan_205 : decode prog_14_method_11_code 205 = .ok (.bipush 10, 2) := by decide +kernel
theorem dX12_scan_207 : decode prog_14_method_11_code 207 = .ok (.aload_n 0, 1) := by decide +kernel
theorem dX12_scan_208 : decode prog_14_method_11_code 208 = .ok (.getfield 338, 3) := by decide +kernel
theorem dX12_scan_211 : decode prog_14_method_11_code 211 = .ok (.imul, 1) := by decide +kernel
theorem dX12_scan_212 : decode prog_14_method_11_code 212 = .ok (.aload_n 0, 1) := by decide +kernel
theorem dX12_scan_213 : decode prog_14_method_11_code 213 = .ok (.iload_n 3, 1) := by decide +kernel
theorem dX12_scan_214 : decode prog_14_method_11_code 214 = .ok (.invokevirtual 307, 3) := by decide +kernel
theorem dX12_scan_217 : decode prog_14_method_11_code 217 = .ok (.iadd, 1) := by decide +kernel
theorem dX12_scan_218 : decode prog_14_method_11_code 218 = .ok (.bipush 48, 2) := by decide +kernel
theorem dX12_scan_220 : decode prog_14_method_11_code 220 = .ok (.isub, 1) := by decide +kernel
theorem dX12_scan_221 : decode prog_14_method_11_code 221 = .ok (.goto 7, 3) := by decide +kernel
theorem dX12_scan_224 : decode prog_14_method_11_code 224 = .ok (.aload_n 0, 1) := by decide +kernel
theorem dX12_scan_225 : decode prog_14_method_11_code 225 = .ok (.getfield 338, 3) := by decide +kernel
theorem dX12_scan_228 : decode prog_14_method_11_code 228 = .ok (.putfield 338, 3) := by decide +kernel
theorem dX12_scan_231 : decode prog_14_method_11_code 231 = .ok (.iinc 3 1, 3) := by decide +kernel
theorem dX12_scan_234 : decode prog_14_method_11_code 234 = .ok (.goto (-48), 3) := by decide +kernel
theorem dX12_scan_237 : decode prog_14_method_11_code 237 = .ok (.aload_n 0, 1) := by decide +kernel
theorem dX12_scan_238 : decode prog_14_method_11_code 238 = .ok (.iload_n 3, 1) := by decide +kernel
theorem dX12_scan_239 : decode prog_14_method_11_code 239 = .ok (.iload_n 1, 1) := by decide +kernel
theorem dX12_scan_240 : decode prog_14_method_11_code 240 = .ok (.isub, 1) := by decide +kernel
theorem dX12_scan_241 : decode prog_14_method_11_code 241 = .ok (.iconst 4, 1) := by decide +kernel
theorem dX12_scan_242 : decode prog_14_method_11_code 242 = .ok (.if_icmp .le 7, 3) := by decide +kernel
theorem dX12_scan_245 : decode prog_14_method_11_code 245 = .ok (.iconst 0, 1) := by decide +kernel
theorem dX12_scan_246 : decode prog_14_method_11_code 246 = .ok (.goto 4, 3) := by decide +kernel
theorem dX12_scan_249 : decode prog_14_method_11_code 249 = .ok (.iconst 2, 1) := by decide +kernel
theorem dX12_scan_250 : decode prog_14_method_11_code 250 = .ok (.putfield 316, 3) := by decide +kernel
theorem dX12_scan_253 : decode prog_14_method_11_code 253 = .ok (.goto 60, 3) := by decide +kernel
theorem dX12_scan_256 : decode prog_14_method_11_code 256 = .ok (.aload_n 0, 1) := by decide +kernel
theorem dX12_scan_257 : decode prog_14_method_11_code 257 = .ok (.iload_n 2, 1) := by decide +kernel
theorem dX12_scan_258 : decode prog_14_method_11_code 258 = .ok (.bipush 59, 2) := by decide +kernel
theorem dX12_scan_260 : decode prog_14_method_11_code 260 = .ok (.if_icmp .ne 7, 3) := by decide +kernel
theorem dX12_scan_263 : decode prog_14_method_11_code 263 = .ok (.iconst 3, 1) := by decide +kernel
theorem dX12_scan_264 : decode prog_14_method_11_code 264 = .ok (.goto 46, 3) := by decide +kernel
theorem dX12_scan_267 : decode prog_14_method_11_code 267 = .ok (.iload_n 2, 1) := by decide +kernel
theorem dX12_scan_268 : decode prog_14_method_11_code 268 = .ok (.bipush 61, 2) := by decide +kernel
theorem dX12_scan_270 : decode prog_14_method_11_code 270 = .ok (.if_icmp .ne 7, 3) := by decide +kernel
theorem dX12_scan_273 : decode prog_14_method_11_code 273 = .ok (.iconst 4, 1) := by decide +kernel
theorem dX12_scan_274 : decode prog_14_method_11_code 274 = .ok (.goto 36, 3) := by decide +kernel
theorem dX12_scan_277 : decode prog_14_method_11_code 277 = .ok (.iload_n 2, 1) := by decide +kernel
theorem dX12_scan_278 : decode prog_14_method_11_code 278 = .ok (.bipush 40, 2) := by decide +kernel
theorem dX12_scan_280 : decode prog_14_method_11_code 280 = .ok (.if_icmp .ne 7, 3) := by decide +kernel
theorem dX12_scan_283 : decode prog_14_method_11_code 283 = .ok (.iconst 5, 1) := by decide +kernel
theorem dX12_scan_284 : decode prog_14_method_11_code 284 = .ok (.goto 26, 3) := by decide +kernel
theorem dX12_scan_287 : decode prog_14_method_11_code 287 = .ok (.iload_n 2, 1) := by decide +kernel
theorem dX12_scan_288 : decode prog_14_method_11_code 288 = .ok (.bipush 41, 2) := by decide +kernel
theorem dX12_scan_290 : decode prog_14_method_11_code 290 = .ok (.if_icmp .ne 8, 3) := by decide +kernel
theorem dX12_scan_293 : decode prog_14_method_11_code 293 = .ok (.bipush 6, 2) := by decide +kernel
theorem dX12_scan_295 : decode prog_14_method_11_code 295 = .ok (.goto 15, 3) := by decide +kernel
theorem dX12_scan_298 : decode prog_14_method_11_code 298 = .ok (.iload_n 2, 1) := by decide +kernel
theorem dX12_scan_299 : decode prog_14_method_11_code 299 = .ok (.bipush 43, 2) := by decide +kernel
theorem dX12_scan_301 : decode prog_14_method_11_code 301 = .ok (.if_icmp .ne 8, 3) := by decide +kernel
theorem dX12_scan_304 : decode prog_14_method_11_code 304 = .ok (.bipush 7, 2) := by decide +kernel
theorem dX12_scan_306 : decode prog_14_method_11_code 306 = .ok (.goto 4, 3) := by decide +kernel
theorem dX12_scan_309 : decode prog_14_method_11_code 309 = .ok (.iconst 0, 1) := by decide +kernel
theorem dX12_scan_310 : decode prog_14_method_11_code 310 = .ok (.putfield 316, 3) := by decide +kernel
theorem dX12_scan_313 : decode prog_14_method_11_code 313 = .ok (.aload_n 0, 1) := by decide +kernel
theorem dX12_scan_314 : decode prog_14_method_11_code 314 = .ok (.iload_n 3, 1) := by decide +kernel
theorem dX12_scan_315 : decode prog_14_method_11_code 315 = .ok (.putfield 289, 3) := by decide +kernel
theorem dX12_scan_318 : decode prog_14_method_11_code 318 = .ok (.return_, 1) := by decide +kernel
abbrev A_X12_scan_5 (l : Launch) (E : bE) (Q : bM → Prop) (M : bM) : (Int) → Prop := (fun t : Int => V l E xX12_scan (0, 0) 5 [(0, bR 11), (1, bI t)] [] M (b_pV Q))
abbrev X_X12_scan_5 (l : Launch) (E : bE) (Q : bM → Prop) (M : bM) : (Int) → Prop := (fun t : Int => V l E xX12_scan (0, 0) 31 [(0, bR 11), (1, bI t)] [] M (b_pV Q))
noncomputable def F_X12_scan_s5 (v1 : Int) (M : bM) : Option ((Int) ⊕ (Int)) :=
  b_bind (F_X12_see v1 M) (fun x1 => if x1 = 32 then (b_g (b_i32 (v1 + 1)) (some (.inl ((v1 + 1))))) else (b_bind (F_X12_see v1 M) (fun x4 => if x4 = 10 then (b_g (b_i32 (v1 + 1)) (some (.inl ((v1 + 1))))) else (some (.inr (v1))))))
theorem t_X12_scan_s5 {l : Launch} {E : bE} {Q : bM → Prop} {v1 : Int} {M : bM} (hfg : b_fg E) (h : b_wp (F_X12_scan_s5 v1 M) (Sum.elim (A_X12_scan_5 l E Q M) (X_X12_scan_5 l E Q M))) : V l E xX12_scan (0, 0) 5 [(0, bR 11), (1, bI v1)] [] M (b_pV Q) := by
  unfold F_X12_scan_s5 at h
  refine v_aload_n (f := 0) 0 rfl dX12_scan_5 ?_
  refine v_iload_n (f := 1) 1 rfl dX12_scan_6 ?_
  refine v_cVIp (nA := 1) (As := [bI _]) (ix := 307) (cf_X12_see (b_wp_b h)) rfl kd_11 rfl rfl wc_X12_see wm_12_307 wi_X12_see ws_X12_see wn_12 ⟨by decide, by decide, by decide⟩ rfl ⟨by decide, by decide⟩ ⟨by decide, by decide⟩ (Nat.le_of_ble_eq_true rfl) dX12_scan_7 (fun x1 h => ?_)
  refine v_bipush ⟨by decide, by decide⟩ (by decide) dX12_scan_10 ?_
  refine v_icmp_eq (tgt := 25) dX12_scan_12 (by decide) (fun c2 => ?_) (fun c2 => ?_)
  · replace h := b_wp_t c2 h
    obtain ⟨g3, h⟩ := b_wp_g h
    refine v_iincN (ls' := [(1, bI _), (0, bR _)]) 1 rfl (by decide) g3 dX12_scan_25 rfl ?_
    refine v_goto (tgt := 5) dX12_scan_28 (by decide) ?_
    refine v_sub (ls2 := [(0, bR _), (1, bI _)]) [1, 0] rfl ?_
    exact h
  · replace h := b_wp_f c2 h
    refine v_aload_n (f := 0) 0 rfl dX12_scan_15 ?_
    refine v_iload_n (f := 1) 1 rfl dX12_scan_16 ?_
    refine v_cVIp (nA := 1) (As := [bI _]) (ix := 307) (cf_X12_see (b_wp_b h)) rfl kd_11 rfl rfl wc_X12_see wm_12_307 wi_X12_see ws_X12_see wn_12 ⟨by decide, by decide, by decide⟩ rfl ⟨by decide, by decide⟩ ⟨by decide, by decide⟩ (Nat.le_of_ble_eq_true rfl) dX12_scan_17 (fun x4 h => ?_)
    refine v_bipush ⟨by decide, by decide⟩ (by decide) dX12_scan_20 ?_
    refine v_icmp_ne (tgt := 31) dX12_scan_22 (by decide) (fun c5 => ?_) (fun c5 => ?_)
    · replace h := b_wp_f c5 h
      exact h
    · replace h := b_wp_t c5 h
      obtain ⟨g6, h⟩ := b_wp_g h
      refine v_iincN (ls' := [(1, bI _), (0, bR _)]) 1 rfl (by decide) g6 dX12_scan_25 rfl ?_
      refine v_goto (tgt := 5) dX12_scan_28 (by decide) ?_
      refine v_sub (ls2 := [(0, bR _), (1, bI _)]) [1, 0] rfl ?_
      exact h
theorem l_X12_scan_5 {l : Launch} {E : bE} {Q : bM → Prop} {M : bM} (hfg : b_fg E) {s : Int} (h : b_wp (b_loop (fun t => F_X12_scan_s5 t M) s) (X_X12_scan_5 l E Q M)) : A_X12_scan_5 l E Q M s := b_loop_wp (fun t h => t_X12_scan_s5 hfg h) s h
noncomputable def F_X12_scan_b313 (v3 : Int) (M : bM) : Option (bM) :=
  b_let (b_up M 11 6 v3) (fun M22 => some M22)
theorem t_X12_scan_b313 {l : Launch} {E : bE} {Q : bM → Prop} {v3 : Int} {M : bM} (hfg : b_fg E) (h : b_wp (F_X12_scan_b313 v3 M) (Q)) : V l E xX12_scan (0, 0) 313 [(0, bR 11), (3, bI v3)] [] M (b_pV Q) := by
  unfold F_X12_scan_b313 at h
  refine v_aload_n (f := 0) 0 rfl dX12_scan_313 ?_
  refine v_iload_n (f := 3) 1 rfl dX12_scan_314 ?_
  refine v_putI (kf := 6) (kz := 6) rfl kd_11 rfl ⟨by decide, by decide⟩ rfl wf_12_289 rfl rfl dX12_scan_315 ?_
  replace h := b_wp_l h
  refine v_return rfl dX12_scan_318 ⟨by decide, by decide⟩ ?_
  exact ⟨rfl, h⟩
noncomputable def F_X12_scan_b310 (v3 : Int) (u1 : Int) (M : bM) : Option (bM) :=
  b_let (b_up M 11 3 u1) (fun M21 => F_X12_scan_b313 v3 M21)
theorem t_X12_scan_b310 {l : Launch} {E : bE} {Q : bM → Prop} {v3 : Int} {u1 : Int} {M : bM} (hfg : b_fg E) (h : b_wp (F_X12_scan_b310 v3 u1 M) (Q)) : V l E xX12_scan (0, 0) 310 [(0, bR 11), (3, bI v3)] [bI u1, bR 11] M (b_pV Q) := by
  unfold F_X12_scan_b310 at h
  refine v_putI (kf := 3) (kz := 3) rfl kd_11 rfl ⟨by decide, by decide⟩ rfl wf_12_316 rfl rfl dX12_scan_310 ?_
  replace h := b_wp_l h
  exact t_X12_scan_b313 hfg h
abbrev A_X12_scan_186 (l : Launch) (E : bE) (Q : bM → Prop) (v1 : Int) : (Int × bM) → Prop := (fun t : Int × bM => V l E xX12_scan (0, 0) 186 [(0, bR 11), (1, bI v1), (3, bI (t.1))] [] t.2 (b_pV Q))
abbrev X_X12_scan_186 (l : Launch) (E : bE) (Q : bM → Prop) (v1 : Int) : (Int × bM) → Prop := (fun t : Int × bM => V l E xX12_scan (0, 0) 237 [(0, bR 11), (1, bI v1), (3, bI (t.1))] [] t.2 (b_pV Q))
noncomputable def F_X12_scan_b228 (v1 : Int) (v3 : Int) (u1 : Int) (M : bM) : Option ((Int × bM) ⊕ (Int × bM)) :=
  b_let (b_up M 11 7 u1) (fun M30 => b_g (b_i32 (v3 + 1)) (some (.inl ((v3 + 1), M30))))
theorem t_X12_scan_b228 {l : Launch} {E : bE} {Q : bM → Prop} {v1 : Int} {v3 : Int} {u1 : Int} {M : bM} (hfg : b_fg E) (h : b_wp (F_X12_scan_b228 v1 v3 u1 M) (Sum.elim (A_X12_scan_186 l E Q v1) (X_X12_scan_186 l E Q v1))) : V l E xX12_scan (0, 0) 228 [(0, bR 11), (1, bI v1), (3, bI v3)] [bI u1, bR 11] M (b_pV Q) := by
  unfold F_X12_scan_b228 at h
  refine v_putI (kf := 7) (kz := 7) rfl kd_11 rfl ⟨by decide, by decide⟩ rfl wf_12_338 rfl rfl dX12_scan_228 ?_
  replace h := b_wp_l h
  obtain ⟨g31, h⟩ := b_wp_g h
  refine v_iincN (ls' := [(3, bI _), (0, bR _), (1, bI _)]) 2 rfl (by decide) g31 dX12_scan_231 rfl ?_
  refine v_goto (tgt := 186) dX12_scan_234 (by decide) ?_
  refine v_sub (ls2 := [(0, bR _), (1, bI _), (3, bI _)]) [1, 2, 0] rfl ?_
  exact h
noncomputable def F_X12_scan_s186 (v1 : Int) (v3 : Int) (M : bM) : Option ((Int × bM) ⊕ (Int × bM)) :=
  b_bind (F_X12_see v3 M) (fun x25 => b_bind (F_X12_isDigit x25 M) (fun x26 => if x26 = 0 then (some (.inr (v3, M))) else (b_g (b_i32 (v3 - v1)) (if 4 ≤ (v3 - v1) then (F_X12_scan_b228 v1 v3 (M 11 7) M) else (b_g (b_i32 (10 * (M 11 7))) (b_bind (F_X12_see v3 M) (fun x33 => b_g ((b_i32 ((10 * (M 11 7)) + x33)) ∧ (b_i32 (((10 * (M 11 7)) + x33) - 48))) (F_X12_scan_b228 v1 v3 (((10 * (M 11 7)) + x33) - 48) M))))))))
theorem t_X12_scan_s186 {l : Launch} {E : bE} {Q : bM → Prop} {v1 : Int} {v3 : Int} {M : bM} (hfg : b_fg E) (h : b_wp (F_X12_scan_s186 v1 v3 M) (Sum.elim (A_X12_scan_186 l E Q v1) (X_X12_scan_186 l E Q v1))) : V l E xX12_scan (0, 0) 186 [(0, bR 11), (1, bI v1), (3, bI v3)] [] M (b_pV Q) := by
  unfold F_X12_scan_s186 at h
  refine v_aload_n (f := 0) 0 rfl dX12_scan_186 ?_
  refine v_iload_n (f := 3) 2 rfl dX12_scan_187 ?_
  refine v_cVIp (nA := 1) (As := [bI _]) (ix := 307) (cf_X12_see (b_wp_b h)) rfl kd_11 rfl rfl wc_X12_see wm_12_307 wi_X12_see ws_X12_see wn_12 ⟨by decide, by decide, by decide⟩ rfl ⟨by decide, by decide⟩ ⟨by decide, by decide⟩ (Nat.le_of_ble_eq_true rfl) dX12_scan_188 (fun x25 h => ?_)
  refine v_cSIp (nA := 1) (As := [bI _]) (ix := 335) (cf_X12_isDigit (b_wp_b h)) rfl wc_X12_isDigit wm_12_335 wi_X12_isDigit wn_12 ⟨by decide, by decide, by decide⟩ rfl ⟨by decide, by decide⟩ ⟨by decide, by decide⟩ (Nat.le_of_ble_eq_true rfl) dX12_scan_191 (fun x26 h => ?_)
  refine v_if_eq (tgt := 237) dX12_scan_194 (by decide) (fun c27 => ?_) (fun c27 => ?_)
  · replace h := b_wp_t c27 h
    exact h
  · replace h := b_wp_f c27 h
    obtain ⟨g28, h⟩ := b_wp_g h
    refine v_aload_n (f := 0) 0 rfl dX12_scan_197 ?_
    refine v_iload_n (f := 3) 2 rfl dX12_scan_198 ?_
    refine v_iload_n (f := 1) 1 rfl dX12_scan_199 ?_
    refine v_isubN g28 dX12_scan_200 ?_
    refine v_iconst ⟨by decide, by decide⟩ dX12_scan_201 ?_
    refine v_icmp_ge (tgt := 224) dX12_scan_202 (by decide) (fun c29 => ?_) (fun c29 => ?_)
    · replace h := b_wp_t c29 h
      refine v_aload_n (f := 0) 0 rfl dX12_scan_224 ?_
      refine v_getI (kf := 7) (kz := 7) rfl kd_11 rfl ⟨by decide, by decide⟩ rfl wf_12_338 dX12_scan_225 ?_
      exact t_X12_scan_b228 hfg h
    · replace h := b_wp_f c29 h
      obtain ⟨g32, h⟩ := b_wp_g h
      refine v_bipush ⟨by decide, by decide⟩ (by decide) dX12_scan_205 ?_
      refine v_aload_n (f := 0) 0 rfl dX12_scan_207 ?_
      refine v_getI (kf := 7) (kz := 7) rfl kd_11 rfl ⟨by decide, by decide⟩ rfl wf_12_338 dX12_scan_208 ?_
      refine v_imulN g32 dX12_scan_211 ?_
      refine v_aload_n (f := 0) 0 rfl dX12_scan_212 ?_
      refine v_iload_n (f := 3) 2 rfl dX12_scan_213 ?_
      refine v_cVIp (nA := 1) (As := [bI _]) (ix := 307) (cf_X12_see (b_wp_b h)) rfl kd_11 rfl rfl wc_X12_see wm_12_307 wi_X12_see ws_X12_see wn_12 ⟨by decide, by decide, by decide⟩ rfl ⟨by decide, by decide⟩ ⟨by decide, by decide⟩ (Nat.le_of_ble_eq_true rfl) dX12_scan_214 (fun x33 h => ?_)
      obtain ⟨⟨g34, g35⟩, h⟩ := b_wp_g h
      refine v_iaddN g34 dX12_scan_217 ?_
      refine v_bipush ⟨by decide, by decide⟩ (by decide) dX12_scan_218 ?_
      refine v_isubN g35 dX12_scan_220 ?_
      refine v_goto (tgt := 228) dX12_scan_221 (by decide) ?_
      exact t_X12_scan_b228 hfg h
theorem l_X12_scan_186 {l : Launch} {E : bE} {Q : bM → Prop} {v1 : Int} (hfg : b_fg E) {s : Int × bM} (h : b_wp (b_loop (fun t => F_X12_scan_s186 v1 t.1 t.2) s) (X_X12_scan_186 l E Q v1)) : A_X12_scan_186 l E Q v1 s := b_loop_wp (fun t h => t_X12_scan_s186 hfg h) s h
noncomputable def F_X12_scan_b250 (v3 : Int) (u1 : Int) (M : bM) : Option (bM) :=
  b_let (b_up M 11 3 u1) (fun M38 => F_X12_scan_b313 v3 M38)
theorem t_X12_scan_b250 {l : Launch} {E : bE} {Q : bM → Prop} {v3 : Int} {u1 : Int} {M : bM} (hfg : b_fg E) (h : b_wp (F_X12_scan_b250 v3 u1 M) (Q)) : V l E xX12_scan (0, 0) 250 [(0, bR 11), (3, bI v3)] [bI u1, bR 11] M (b_pV Q) := by
  unfold F_X12_scan_b250 at h
  refine v_putI (kf := 3) (kz := 3) rfl kd_11 rfl ⟨by decide, by decide⟩ rfl wf_12_316 rfl rfl dX12_scan_250 ?_
  replace h := b_wp_l h
  refine v_goto (tgt := 313) dX12_scan_253 (by decide) ?_
  exact t_X12_scan_b313 hfg h
noncomputable def F_X12_scan_b237 (v1 : Int) (v3 : Int) (M : bM) : Option (bM) :=
  b_g (b_i32 (v3 - v1)) (if (v3 - v1) ≤ 4 then (F_X12_scan_b250 v3 2 M) else (F_X12_scan_b250 v3 0 M))
theorem t_X12_scan_b237 {l : Launch} {E : bE} {Q : bM → Prop} {v1 : Int} {v3 : Int} {M : bM} (hfg : b_fg E) (h : b_wp (F_X12_scan_b237 v1 v3 M) (Q)) : V l E xX12_scan (0, 0) 237 [(0, bR 11), (1, bI v1), (3, bI v3)] [] M (b_pV Q) := by
  unfold F_X12_scan_b237 at h
  obtain ⟨g36, h⟩ := b_wp_g h
  refine v_aload_n (f := 0) 0 rfl dX12_scan_237 ?_
  refine v_iload_n (f := 3) 2 rfl dX12_scan_238 ?_
  refine v_iload_n (f := 1) 1 rfl dX12_scan_239 ?_
  refine v_isubN g36 dX12_scan_240 ?_
  refine v_iconst ⟨by decide, by decide⟩ dX12_scan_241 ?_
  refine v_icmp_le (tgt := 249) dX12_scan_242 (by decide) (fun c37 => ?_) (fun c37 => ?_)
  · replace h := b_wp_t c37 h
    refine v_iconst ⟨by decide, by decide⟩ dX12_scan_249 ?_
    refine v_sub (ls2 := [(0, bR _), (3, bI _)]) [0, 2] rfl ?_
    exact t_X12_scan_b250 hfg h
  · replace h := b_wp_f c37 h
    refine v_iconst ⟨by decide, by decide⟩ dX12_scan_245 ?_
    refine v_goto (tgt := 250) dX12_scan_246 (by decide) ?_
    refine v_sub (ls2 := [(0, bR _), (3, bI _)]) [0, 2] rfl ?_
    exact t_X12_scan_b250 hfg h
abbrev A_X12_scan_81 (l : Launch) (E : bE) (Q : bM → Prop) (v1 : Int) : (Int × bM) → Prop := (fun t : Int × bM => V l E xX12_scan (0, 0) 81 [(0, bR 11), (1, bI v1), (3, bI (t.1))] [] t.2 (b_pV Q))
abbrev X_X12_scan_81 (l : Launch) (E : bE) (Q : bM → Prop) (v1 : Int) : (Int × bM) → Prop := (fun t : Int × bM => V l E xX12_scan (0, 0) 131 [(0, bR 11), (1, bI v1), (3, bI (t.1))] [] t.2 (b_pV Q))
noncomputable def F_X12_scan_s81 (v1 : Int) (v3 : Int) (M : bM) : Option ((Int × bM) ⊕ (Int × bM)) :=
  b_bind (F_X12_see v3 M) (fun x40 => b_bind (F_X12_isSmall x40 M) (fun x41 => if x41 = 0 then (some (.inr (v3, M))) else (b_g (b_i32 (v3 - v1)) (if 12 ≤ (v3 - v1) then (b_g (b_i32 (v3 + 1)) (some (.inl ((v3 + 1), M)))) else (b_g (b_i64 (32 * (M 11 10))) (b_bind (F_X12_see v3 M) (fun x47 => b_g ((b_i64 ((32 * (M 11 10)) + x47)) ∧ (b_i64 (((32 * (M 11 10)) + x47) - 97)) ∧ (b_i64 ((((32 * (M 11 10)) + x47) - 97) + 1))) (b_let (b_up M 11 10 ((((32 * (M 11 10)) + x47) - 97) + 1)) (fun M51 => b_g (b_i32 (v3 + 1)) (some (.inl ((v3 + 1), M51))))))))))))
theorem t_X12_scan_s81 {l : Launch} {E : bE} {Q : bM → Prop} {v1 : Int} {v3 : Int} {M : bM} (hfg : b_fg E) (h : b_wp (F_X12_scan_s81 v1 v3 M) (Sum.elim (A_X12_scan_81 l E Q v1) (X_X12_scan_81 l E Q v1))) : V l E xX12_scan (0, 0) 81 [(0, bR 11), (1, bI v1), (3, bI v3)] [] M (b_pV Q) := by
  unfold F_X12_scan_s81 at h
  refine v_aload_n (f := 0) 0 rfl dX12_scan_81 ?_
  refine v_iload_n (f := 3) 2 rfl dX12_scan_82 ?_
  refine v_cVIp (nA := 1) (As := [bI _]) (ix := 307) (cf_X12_see (b_wp_b h)) rfl kd_11 rfl rfl wc_X12_see wm_12_307 wi_X12_see ws_X12_see wn_12 ⟨by decide, by decide, by decide⟩ rfl ⟨by decide, by decide⟩ ⟨by decide, by decide⟩ (Nat.le_of_ble_eq_true rfl) dX12_scan_83 (fun x40 h => ?_)
  refine v_cSIp (nA := 1) (As := [bI _]) (ix := 319) (cf_X12_isSmall (b_wp_b h)) rfl wc_X12_isSmall wm_12_319 wi_X12_isSmall wn_12 ⟨by decide, by decide, by decide⟩ rfl ⟨by decide, by decide⟩ ⟨by decide, by decide⟩ (Nat.le_of_ble_eq_true rfl) dX12_scan_86 (fun x41 h => ?_)
  refine v_if_eq (tgt := 131) dX12_scan_89 (by decide) (fun c42 => ?_) (fun c42 => ?_)
  · replace h := b_wp_t c42 h
    exact h
  · replace h := b_wp_f c42 h
    obtain ⟨g43, h⟩ := b_wp_g h
    refine v_iload_n (f := 3) 2 rfl dX12_scan_92 ?_
    refine v_iload_n (f := 1) 1 rfl dX12_scan_93 ?_
    refine v_isubN g43 dX12_scan_94 ?_
    refine v_bipush ⟨by decide, by decide⟩ (by decide) dX12_scan_95 ?_
    refine v_icmp_ge (tgt := 125) dX12_scan_97 (by decide) (fun c44 => ?_) (fun c44 => ?_)
    · replace h := b_wp_t c44 h
      obtain ⟨g45, h⟩ := b_wp_g h
      refine v_iincN (ls' := [(3, bI _), (0, bR _), (1, bI _)]) 2 rfl (by decide) g45 dX12_scan_125 rfl ?_
      refine v_goto (tgt := 81) dX12_scan_128 (by decide) ?_
      refine v_sub (ls2 := [(0, bR _), (1, bI _), (3, bI _)]) [1, 2, 0] rfl ?_
      exact h
    · replace h := b_wp_f c44 h
      obtain ⟨g46, h⟩ := b_wp_g h
      refine v_aload_n (f := 0) 0 rfl dX12_scan_100 ?_
      refine v_ldc2 (n := 32) ⟨by decide, by decide⟩ wl_12_327 dX12_scan_101 ?_
      refine v_aload_n (f := 0) 0 rfl dX12_scan_104 ?_
      refine v_getJ (kf := 10) (kz := 10) rfl kd_11 rfl ⟨by decide, by decide⟩ rfl wf_12_323 dX12_scan_105 ?_
      refine v_lmulN g46 dX12_scan_108 ?_
      refine v_aload_n (f := 0) 0 rfl dX12_scan_109 ?_
      refine v_iload_n (f := 3) 2 rfl dX12_scan_110 ?_
      refine v_cVIp (nA := 1) (As := [bI _]) (ix := 307) (cf_X12_see (b_wp_b h)) rfl kd_11 rfl rfl wc_X12_see wm_12_307 wi_X12_see ws_X12_see wn_12 ⟨by decide, by decide, by decide⟩ rfl ⟨by decide, by decide⟩ ⟨by decide, by decide⟩ (Nat.le_of_ble_eq_true rfl) dX12_scan_111 (fun x47 h => ?_)
      obtain ⟨⟨g48, g49, g50⟩, h⟩ := b_wp_g h
      refine v_i2lN dX12_scan_114 ?_
      refine v_laddN g48 dX12_scan_115 ?_
      refine v_ldc2 (n := 97) ⟨by decide, by decide⟩ wl_12_329 dX12_scan_116 ?_
      refine v_lsubN g49 dX12_scan_119 ?_
      refine v_lconst1 dX12_scan_120 ?_
      refine v_laddN g50 dX12_scan_121 ?_
      refine v_putJ (kf := 10) (kz := 10) rfl kd_11 rfl ⟨by decide, by decide⟩ rfl wf_12_323 rfl rfl dX12_scan_122 ?_
      replace h := b_wp_l h
      obtain ⟨g52, h⟩ := b_wp_g h
      refine v_iincN (ls' := [(3, bI _), (0, bR _), (1, bI _)]) 2 rfl (by decide) g52 dX12_scan_125 rfl ?_
      refine v_goto (tgt := 81) dX12_scan_128 (by decide) ?_
      refine v_sub (ls2 := [(0, bR _), (1, bI _), (3, bI _)]) [1, 2, 0] rfl ?_
      exact h
theorem l_X12_scan_81 {l : Launch} {E : bE} {Q : bM → Prop} {v1 : Int} (hfg : b_fg E) {s : Int × bM} (h : b_wp (b_loop (fun t => F_X12_scan_s81 v1 t.1 t.2) s) (X_X12_scan_81 l E Q v1)) : A_X12_scan_81 l E Q v1 s := b_loop_wp (fun t h => t_X12_scan_s81 hfg h) s h
noncomputable def F_X12_scan_b145 (v1 : Int) (v3 : Int) (u1 : Int) (M : bM) : Option (bM) :=
  b_let (b_up M 11 3 u1) (fun M55 => if (M55 11 3) = 1 then (b_g (b_i32 (v3 - v1)) (b_bind (F_X12_keyAt v1 (v3 - v1) M55) (fun t => b_two t (fun x58 M59 => b_let (b_up M59 11 4 x58) (fun M60 => F_X12_scan_b313 v3 M60))))) else (F_X12_scan_b313 v3 M55))
theorem t_X12_scan_b145 {l : Launch} {E : bE} {Q : bM → Prop} {v1 : Int} {v3 : Int} {u1 : Int} {M : bM} (hfg : b_fg E) (h : b_wp (F_X12_scan_b145 v1 v3 u1 M) (Q)) : V l E xX12_scan (0, 0) 145 [(0, bR 11), (1, bI v1), (3, bI v3)] [bI u1, bR 11] M (b_pV Q) := by
  unfold F_X12_scan_b145 at h
  refine v_putI (kf := 3) (kz := 3) rfl kd_11 rfl ⟨by decide, by decide⟩ rfl wf_12_316 rfl rfl dX12_scan_145 ?_
  replace h := b_wp_l h
  refine v_aload_n (f := 0) 0 rfl dX12_scan_148 ?_
  refine v_getI (kf := 3) (kz := 3) rfl kd_11 rfl ⟨by decide, by decide⟩ rfl wf_12_316 dX12_scan_149 ?_
  refine v_iconst ⟨by decide, by decide⟩ dX12_scan_152 ?_
  refine v_icmp_ne (tgt := 313) dX12_scan_153 (by decide) (fun c56 => ?_) (fun c56 => ?_)
  · replace h := b_wp_f c56 h
    refine v_sub (ls2 := [(0, bR _), (3, bI _)]) [0, 2] rfl ?_
    exact t_X12_scan_b313 hfg h
  · replace h := b_wp_t c56 h
    obtain ⟨g57, h⟩ := b_wp_g h
    refine v_aload_n (f := 0) 0 rfl dX12_scan_156 ?_
    refine v_aload_n (f := 0) 0 rfl dX12_scan_157 ?_
    refine v_iload_n (f := 1) 1 rfl dX12_scan_158 ?_
    refine v_iload_n (f := 3) 2 rfl dX12_scan_159 ?_
    refine v_iload_n (f := 1) 1 rfl dX12_scan_160 ?_
    refine v_isubN g57 dX12_scan_161 ?_
    refine v_cVI (nA := 2) (As := [bI _, bI _]) (ix := 331) (cf_X12_keyAt hfg (b_wp_b h)) rfl kd_11 rfl rfl wc_X12_keyAt wm_12_331 wi_X12_keyAt ws_X12_keyAt wn_12 ⟨by decide, by decide, by decide⟩ rfl ⟨by decide, by decide⟩ ⟨by decide, by decide⟩ (Nat.le_of_ble_eq_true rfl) dX12_scan_162 (fun x58 M59 h => ?_)
    replace h := b_wp_two h
    refine v_putI (kf := 4) (kz := 4) rfl kd_11 rfl ⟨by decide, by decide⟩ rfl wf_12_313 rfl rfl dX12_scan_165 ?_
    replace h := b_wp_l h
    refine v_goto (tgt := 313) dX12_scan_168 (by decide) ?_
    refine v_sub (ls2 := [(0, bR _), (3, bI _)]) [0, 2] rfl ?_
    exact t_X12_scan_b313 hfg h
noncomputable def F_X12_scan_b131 (v1 : Int) (v3 : Int) (M : bM) : Option (bM) :=
  b_g (b_i32 (v3 - v1)) (if (v3 - v1) ≤ 12 then (F_X12_scan_b145 v1 v3 1 M) else (F_X12_scan_b145 v1 v3 0 M))
theorem t_X12_scan_b131 {l : Launch} {E : bE} {Q : bM → Prop} {v1 : Int} {v3 : Int} {M : bM} (hfg : b_fg E) (h : b_wp (F_X12_scan_b131 v1 v3 M) (Q)) : V l E xX12_scan (0, 0) 131 [(0, bR 11), (1, bI v1), (3, bI v3)] [] M (b_pV Q) := by
  unfold F_X12_scan_b131 at h
  obtain ⟨g53, h⟩ := b_wp_g h
  refine v_aload_n (f := 0) 0 rfl dX12_scan_131 ?_
  refine v_iload_n (f := 3) 2 rfl dX12_scan_132 ?_
  refine v_iload_n (f := 1) 1 rfl dX12_scan_133 ?_
  refine v_isubN g53 dX12_scan_134 ?_
  refine v_bipush ⟨by decide, by decide⟩ (by decide) dX12_scan_135 ?_
  refine v_icmp_le (tgt := 144) dX12_scan_137 (by decide) (fun c54 => ?_) (fun c54 => ?_)
  · replace h := b_wp_t c54 h
    refine v_iconst ⟨by decide, by decide⟩ dX12_scan_144 ?_
    exact t_X12_scan_b145 hfg h
  · replace h := b_wp_f c54 h
    refine v_iconst ⟨by decide, by decide⟩ dX12_scan_140 ?_
    refine v_goto (tgt := 145) dX12_scan_141 (by decide) ?_
    exact t_X12_scan_b145 hfg h
noncomputable def F_X12_scan_b31 (v1 : Int) (M : bM) : Option (bM) :=
  b_let (b_up M 11 5 v1) (fun M7 => b_bind (F_X12_see v1 M7) (fun x8 => b_g (b_i32 (v1 + 1)) (b_let (b_up M7 11 4 (-1)) (fun M10 => if x8 = (-1) then (b_let (b_up M10 11 3 8) (fun M61 => F_X12_scan_b313 v1 M61)) else (b_bind (F_X12_isSmall x8 M10) (fun x12 => if x12 = 0 then (b_bind (F_X12_isDigit x8 M10) (fun x14 => if x14 = 0 then (if x8 = 59 then (F_X12_scan_b310 (v1 + 1) 3 M10) else (if x8 = 61 then (F_X12_scan_b310 (v1 + 1) 4 M10) else (if x8 = 40 then (F_X12_scan_b310 (v1 + 1) 5 M10) else (if x8 = 41 then (F_X12_scan_b310 (v1 + 1) 6 M10) else (if x8 = 43 then (F_X12_scan_b310 (v1 + 1) 7 M10) else (F_X12_scan_b310 (v1 + 1) 0 M10)))))) else (b_g (b_i32 (x8 - 48)) (b_let (b_up M10 11 7 (x8 - 48)) (fun M24 => b_bind (b_loop (fun t => F_X12_scan_s186 v1 t.1 t.2) ((v1 + 1), M24)) (fun t => F_X12_scan_b237 v1 (t.1) (t.2))))))) else (b_let (b_up M10 11 10 0) (fun M39 => b_bind (b_loop (fun t => F_X12_scan_s81 v1 t.1 t.2) (v1, M39)) (fun t => F_X12_scan_b131 v1 (t.1) (t.2))))))))))
theorem t_X12_scan_b31 {l : Launch} {E : bE} {Q : bM → Prop} {v1 : Int} {M : bM} (hfg : b_fg E) (h : b_wp (F_X12_scan_b31 v1 M) (Q)) : V l E xX12_scan (0, 0) 31 [(0, bR 11), (1, bI v1)] [] M (b_pV Q) := by
  unfold F_X12_scan_b31 at h
  refine v_aload_n (f := 0) 0 rfl dX12_scan_31 ?_
  refine v_iload_n (f := 1) 1 rfl dX12_scan_32 ?_
  refine v_putI (kf := 5) (kz := 5) rfl kd_11 rfl ⟨by decide, by decide⟩ rfl wf_12_310 rfl rfl dX12_scan_33 ?_
  replace h := b_wp_l h
  refine v_aload_n (f := 0) 0 rfl dX12_scan_36 ?_
  refine v_iload_n (f := 1) 1 rfl dX12_scan_37 ?_
  refine v_cVIp (nA := 1) (As := [bI _]) (ix := 307) (cf_X12_see (b_wp_b h)) rfl kd_11 rfl rfl wc_X12_see wm_12_307 wi_X12_see ws_X12_see wn_12 ⟨by decide, by decide, by decide⟩ rfl ⟨by decide, by decide⟩ ⟨by decide, by decide⟩ (Nat.le_of_ble_eq_true rfl) dX12_scan_38 (fun x8 h => ?_)
  obtain ⟨g9, h⟩ := b_wp_g h
  refine v_istore_n (g := 2) (i := 2) (ls' := [(2, bI _), (0, bR _), (1, bI _)]) rfl (by decide) dX12_scan_41 rfl ?_
  refine v_iload_n (f := 1) 2 rfl dX12_scan_42 ?_
  refine v_iconst ⟨by decide, by decide⟩ dX12_scan_43 ?_
  refine v_iaddN g9 dX12_scan_44 ?_
  refine v_istore_n (g := 3) (i := 3) (ls' := [(3, bI _), (2, bI _), (0, bR _), (1, bI _)]) rfl (by decide) dX12_scan_45 rfl ?_
  refine v_aload_n (f := 0) 2 rfl dX12_scan_46 ?_
  refine v_iconst ⟨by decide, by decide⟩ dX12_scan_47 ?_
  refine v_putI (kf := 4) (kz := 4) rfl kd_11 rfl ⟨by decide, by decide⟩ rfl wf_12_313 rfl rfl dX12_scan_48 ?_
  replace h := b_wp_l h
  refine v_iload_n (f := 2) 1 rfl dX12_scan_51 ?_
  refine v_iconst ⟨by decide, by decide⟩ dX12_scan_52 ?_
  refine v_icmp_ne (tgt := 67) dX12_scan_53 (by decide) (fun c11 => ?_) (fun c11 => ?_)
  · replace h := b_wp_f c11 h
    refine v_iload_n (f := 2) 1 rfl dX12_scan_67 ?_
    refine v_cSIp (nA := 1) (As := [bI _]) (ix := 319) (cf_X12_isSmall (b_wp_b h)) rfl wc_X12_isSmall wm_12_319 wi_X12_isSmall wn_12 ⟨by decide, by decide, by decide⟩ rfl ⟨by decide, by decide⟩ ⟨by decide, by decide⟩ (Nat.le_of_ble_eq_true rfl) dX12_scan_68 (fun x12 h => ?_)
    refine v_if_eq (tgt := 171) dX12_scan_71 (by decide) (fun c13 => ?_) (fun c13 => ?_)
    · replace h := b_wp_t c13 h
      refine v_iload_n (f := 2) 1 rfl dX12_scan_171 ?_
      refine v_cSIp (nA := 1) (As := [bI _]) (ix := 335) (cf_X12_isDigit (b_wp_b h)) rfl wc_X12_isDigit wm_12_335 wi_X12_isDigit wn_12 ⟨by decide, by decide, by decide⟩ rfl ⟨by decide, by decide⟩ ⟨by decide, by decide⟩ (Nat.le_of_ble_eq_true rfl) dX12_scan_172 (fun x14 h => ?_)
      refine v_if_eq (tgt := 256) dX12_scan_175 (by decide) (fun c15 => ?_) (fun c15 => ?_)
      · replace h := b_wp_t c15 h
        refine v_aload_n (f := 0) 2 rfl dX12_scan_256 ?_
        refine v_iload_n (f := 2) 1 rfl dX12_scan_257 ?_
        refine v_bipush ⟨by decide, by decide⟩ (by decide) dX12_scan_258 ?_
        refine v_icmp_ne (tgt := 267) dX12_scan_260 (by decide) (fun c16 => ?_) (fun c16 => ?_)
        · replace h := b_wp_f c16 h
          refine v_iload_n (f := 2) 1 rfl dX12_scan_267 ?_
          refine v_bipush ⟨by decide, by decide⟩ (by decide) dX12_scan_268 ?_
          refine v_icmp_ne (tgt := 277) dX12_scan_270 (by decide) (fun c17 => ?_) (fun c17 => ?_)
          · replace h := b_wp_f c17 h
            refine v_iload_n (f := 2) 1 rfl dX12_scan_277 ?_
            refine v_bipush ⟨by decide, by decide⟩ (by decide) dX12_scan_278 ?_
            refine v_icmp_ne (tgt := 287) dX12_scan_280 (by decide) (fun c18 => ?_) (fun c18 => ?_)
            · replace h := b_wp_f c18 h
              refine v_iload_n (f := 2) 1 rfl dX12_scan_287 ?_
              refine v_bipush ⟨by decide, by decide⟩ (by decide) dX12_scan_288 ?_
              refine v_icmp_ne (tgt := 298) dX12_scan_290 (by decide) (fun c19 => ?_) (fun c19 => ?_)
              · replace h := b_wp_f c19 h
                refine v_iload_n (f := 2) 1 rfl dX12_scan_298 ?_
                refine v_bipush ⟨by decide, by decide⟩ (by decide) dX12_scan_299 ?_
                refine v_icmp_ne (tgt := 309) dX12_scan_301 (by decide) (fun c20 => ?_) (fun c20 => ?_)
                · replace h := b_wp_f c20 h
                  refine v_iconst ⟨by decide, by decide⟩ dX12_scan_309 ?_
                  refine v_sub (ls2 := [(0, bR _), (3, bI _)]) [2, 0] rfl ?_
                  exact t_X12_scan_b310 hfg h
                · replace h := b_wp_t c20 h
                  refine v_bipush ⟨by decide, by decide⟩ (by decide) dX12_scan_304 ?_
                  refine v_goto (tgt := 310) dX12_scan_306 (by decide) ?_
                  refine v_sub (ls2 := [(0, bR _), (3, bI _)]) [2, 0] rfl ?_
                  exact t_X12_scan_b310 hfg h
              · replace h := b_wp_t c19 h
                refine v_bipush ⟨by decide, by decide⟩ (by decide) dX12_scan_293 ?_
                refine v_goto (tgt := 310) dX12_scan_295 (by decide) ?_
                refine v_sub (ls2 := [(0, bR _), (3, bI _)]) [2, 0] rfl ?_
                exact t_X12_scan_b310 hfg h
            · replace h := b_wp_t c18 h
              refine v_iconst ⟨by decide, by decide⟩ dX12_scan_283 ?_
              refine v_goto (tgt := 310) dX12_scan_284 (by decide) ?_
              refine v_sub (ls2 := [(0, bR _), (3, bI _)]) [2, 0] rfl ?_
              exact t_X12_scan_b310 hfg h
          · replace h := b_wp_t c17 h
            refine v_iconst ⟨by decide, by decide⟩ dX12_scan_273 ?_
            refine v_goto (tgt := 310) dX12_scan_274 (by decide) ?_
            refine v_sub (ls2 := [(0, bR _), (3, bI _)]) [2, 0] rfl ?_
            exact t_X12_scan_b310 hfg h
        · replace h := b_wp_t c16 h
          refine v_iconst ⟨by decide, by decide⟩ dX12_scan_263 ?_
          refine v_goto (tgt := 310) dX12_scan_264 (by decide) ?_
          refine v_sub (ls2 := [(0, bR _), (3, bI _)]) [2, 0] rfl ?_
          exact t_X12_scan_b310 hfg h
      · replace h := b_wp_f c15 h
        obtain ⟨g23, h⟩ := b_wp_g h
        refine v_aload_n (f := 0) 2 rfl dX12_scan_178 ?_
        refine v_iload_n (f := 2) 1 rfl dX12_scan_179 ?_
        refine v_bipush ⟨by decide, by decide⟩ (by decide) dX12_scan_180 ?_
        refine v_isubN g23 dX12_scan_182 ?_
        refine v_putI (kf := 7) (kz := 7) rfl kd_11 rfl ⟨by decide, by decide⟩ rfl wf_12_338 rfl rfl dX12_scan_183 ?_
        replace h := b_wp_l h
        refine v_sub (ls2 := [(0, bR _), (1, bI _), (3, bI _)]) [2, 3, 0] rfl ?_
        refine l_X12_scan_186 hfg (b_wp_m (fun t h => ?_) (b_wp_b h))
        show V l E xX12_scan (0, 0) 237 [(0, bR 11), (1, bI _), (3, bI _)] [] _ (b_pV Q)
        exact t_X12_scan_b237 hfg h
    · replace h := b_wp_f c13 h
      refine v_aload_n (f := 0) 2 rfl dX12_scan_74 ?_
      refine v_lconst0 dX12_scan_75 ?_
      refine v_putJ (kf := 10) (kz := 10) rfl kd_11 rfl ⟨by decide, by decide⟩ rfl wf_12_323 rfl rfl dX12_scan_76 ?_
      replace h := b_wp_l h
      refine v_iload_n (f := 1) 3 rfl dX12_scan_79 ?_
      refine v_istore_n (g := 3) (i := 3) (ls' := [(3, bI _), (2, bI _), (0, bR _), (1, bI _)]) rfl (by decide) dX12_scan_80 rfl ?_
      refine v_sub (ls2 := [(0, bR _), (1, bI _), (3, bI _)]) [2, 3, 0] rfl ?_
      refine l_X12_scan_81 hfg (b_wp_m (fun t h => ?_) (b_wp_b h))
      show V l E xX12_scan (0, 0) 131 [(0, bR 11), (1, bI _), (3, bI _)] [] _ (b_pV Q)
      exact t_X12_scan_b131 hfg h
  · replace h := b_wp_t c11 h
    refine v_aload_n (f := 0) 2 rfl dX12_scan_56 ?_
    refine v_bipush ⟨by decide, by decide⟩ (by decide) dX12_scan_57 ?_
    refine v_putI (kf := 3) (kz := 3) rfl kd_11 rfl ⟨by decide, by decide⟩ rfl wf_12_316 rfl rfl dX12_scan_59 ?_
    replace h := b_wp_l h
    refine v_iload_n (f := 1) 3 rfl dX12_scan_62 ?_
    refine v_istore_n (g := 3) (i := 3) (ls' := [(3, bI _), (2, bI _), (0, bR _), (1, bI _)]) rfl (by decide) dX12_scan_63 rfl ?_
    refine v_goto (tgt := 313) dX12_scan_64 (by decide) ?_
    refine v_sub (ls2 := [(0, bR _), (3, bI _)]) [2, 0] rfl ?_
    exact t_X12_scan_b313 hfg h
noncomputable def F_X12_scan (M : bM) : Option (bM) :=
  b_bind (b_loop (fun t => F_X12_scan_s5 t M) ((M 11 6))) (fun t => F_X12_scan_b31 t M)
theorem t_X12_scan {l : Launch} {E : bE} {Q : bM → Prop} {M : bM} (hfg : b_fg E) (h : b_wp (F_X12_scan M) (Q)) : V l E xX12_scan (0, 0) 0 [(0, bR 11)] [] M (b_pV Q) := by
  unfold F_X12_scan at h
  refine v_aload_n (f := 0) 0 rfl dX12_scan_0 ?_
  refine v_getI (kf := 6) (kz := 6) rfl kd_11 rfl ⟨by decide, by decide⟩ rfl wf_12_289 dX12_scan_1 ?_
  refine v_istore_n (g := 1) (i := 1) (ls' := [(1, bI _), (0, bR _)]) rfl (by decide) dX12_scan_4 rfl ?_
  refine v_sub (ls2 := [(0, bR _), (1, bI _)]) [1, 0] rfl ?_
  refine l_X12_scan_5 hfg (b_wp_m (fun t h => ?_) (b_wp_b h))
  show V l E xX12_scan (0, 0) 31 [(0, bR 11), (1, bI _)] [] _ (b_pV Q)
  exact t_X12_scan_b31 hfg h
theorem cf_X12_scan {l : Launch} {E : bE} {M : bM} (hfg : b_fg E) {Q : bM → Prop} (h : b_wp (F_X12_scan M) Q) : b_C l E xX12_scan yX12_scan [bR 11] M (b_pV Q) := b_met (by decide) ⟨rfl, rfl⟩ (Nat.le_of_ble_eq_true rfl) (fun _ _ => t_X12_scan hfg h)
abbrev xX12_take : bX := ("BurntHallModel", prog_14_method_6_code, 1, (Option.none : Option Jvm.ClassFile.FieldType), b_rm 8 0 0, 0, "take")
abbrev yX12_take : MethodName := ⟨"BurntHallModel", "take", "()V"⟩
theorem dX12_take_0 : decode prog_14_method_6_code 0 = .ok (.aload_n 0, 1) := by decide +kernel
theorem dX12_take_1 : decode prog_14_method_6_code 1 = .ok (.aload_n 0, 1) := by decide +kernel
theorem dX12_take_2 : decode prog_14_method_6_code 2 = .ok (.getfield 283, 3) := by decide +kernel
theorem dX12_take_5 : decode prog_14_method_6_code 5 = .ok (.putfield 286, 3) := by decide +kernel
theorem dX12_take_8 : decode prog_14_method_6_code 8 = .ok (.aload_n 0, 1) := by decide +kernel
theorem dX12_take_9 : decode prog_14_method_6_code 9 = .ok (.iconst 0, 1) := by decide +kernel
theorem dX12_take_10 : decode prog_14_method_6_code 10 = .ok (.putfield 283, 3) := by decide +kernel
theorem dX12_take_13 : decode prog_14_method_6_code 13 = .ok (.aload_n 0, 1) := by decide +kernel
theorem dX12_take_14 : decode prog_14_method_6_code 14 = .ok (.iconst 0, 1) := by decide +kernel
theorem dX12_take_15 : decode prog_14_method_6_code 15 = .ok (.putfield 289, 3) := by decide +kernel
theorem dX12_take_18 : decode prog_14_method_6_code 18 = .ok (.aload_n 0, 1) := by decide +kernel
theorem dX12_take_19 : decode prog_14_method_6_code 19 = .ok (.invokevirtual 292, 3) := by decide +kernel
theorem dX12_take_22 : decode prog_14_method_6_code 22 = .ok (.return_, 1) := by decide +kernel
noncomputable def F_X12_take (M : bM) : Option (bM) :=
  b_let (b_up M 11 2 (M 11 1)) (fun M1 => b_let (b_up M1 11 1 0) (fun M2 => b_let (b_up M2 11 6 0) (fun M3 => b_bind (F_X12_scan M3) (fun M4 => some M4))))
theorem t_X12_take {l : Launch} {E : bE} {Q : bM → Prop} {M : bM} (hfg : b_fg E) (h : b_wp (F_X12_take M) (Q)) : V l E xX12_take (0, 0) 0 [(0, bR 11)] [] M (b_pV Q) := by
  unfold F_X12_take at h
  refine v_aload_n (f := 0) 0 rfl dX12_take_0 ?_
  refine v_aload_n (f := 0) 0 rfl dX12_take_1 ?_
  refine v_getI (kf := 1) (kz := 1) rfl kd_11 rfl ⟨by decide, by decide⟩ rfl wf_12_283 dX12_take_2 ?_
  refine v_putI (kf := 2) (kz := 2) rfl kd_11 rfl ⟨by decide, by decide⟩ rfl wf_12_286 rfl rfl dX12_take_5 ?_
  replace h := b_wp_l h
  refine v_aload_n (f := 0) 0 rfl dX12_take_8 ?_
  refine v_iconst ⟨by decide, by decide⟩ dX12_take_9 ?_
  refine v_putI (kf := 1) (kz := 1) rfl kd_11 rfl ⟨by decide, by decide⟩ rfl wf_12_283 rfl rfl dX12_take_10 ?_
  replace h := b_wp_l h
  refine v_aload_n (f := 0) 0 rfl dX12_take_13 ?_
  refine v_iconst ⟨by decide, by decide⟩ dX12_take_14 ?_
  refine v_putI (kf := 6) (kz := 6) rfl kd_11 rfl ⟨by decide, by decide⟩ rfl wf_12_289 rfl rfl dX12_take_15 ?_
  replace h := b_wp_l h
  refine v_aload_n (f := 0) 0 rfl dX12_take_18 ?_
  refine v_cVV (nA := 0) (As := []) (ix := 292) (cf_X12_scan hfg (b_wp_b h)) rfl kd_11 rfl rfl wc_X12_scan wm_12_292 wi_X12_scan ws_X12_scan wn_12 ⟨by decide, by decide, by decide⟩ rfl ⟨by decide, by decide⟩ ⟨by decide, by decide⟩ (Nat.le_of_ble_eq_true rfl) dX12_take_19 (fun M4 h => ?_)
  refine v_return rfl dX12_take_22 ⟨by decide, by decide⟩ ?_
  exact ⟨rfl, h⟩
theorem cf_X12_take {l : Launch} {E : bE} {M : bM} (hfg : b_fg E) {Q : bM → Prop} (h : b_wp (F_X12_take M) Q) : b_C l E xX12_take yX12_take [bR 11] M (b_pV Q) := b_met (by decide) ⟨rfl, rfl⟩ (Nat.le_of_ble_eq_true rfl) (fun _ _ => t_X12_take hfg h)
abbrev xX12_wrong : bX := ("BurntHallModel", prog_14_method_12_code, 2, (Option.some Jvm.ClassFile.FieldType.boolean), b_rm 1 0 0, 0, "wrong")
abbrev yX12_wrong : MethodName := ⟨"BurntHallModel", "wrong", "(I)Z"⟩
theorem dX12_wrong_0 : decode prog_14_method_12_code 0 = .ok (.aload_n 0, 1) := by decide +kernel
theorem dX12_wrong_1 : decode prog_14_method_12_code 1 = .ok (.iload_n 1, 1) := by decide +kernel
theorem dX12_wrong_2 : decode prog_14_method_12_code 2 = .ok (.putfield 341, 3) := by decide +kernel
theorem dX12_wrong_5 : decode prog_14_method_12_code 5 = .ok (.aload_n 0, 1) := by decide +kernel
theorem dX12_wrong_6 : decode prog_14_method_12_code 6 = .ok (.aload_n 0, 1) := by decide +kernel
theorem dX12_wrong_7 : decode prog_14_method_12_code 7 = .ok (.getfield 310, 3) := by decide +kernel
theorem dX12_wrong_10 : decode prog_14_method_12_code 10 = .ok (.putfield 13, 3) := by decide +kernel
theorem dX12_wrong_13 : decode prog_14_method_12_code 13 = .ok (.iconst 0, 1) := by decide +kernel
theorem dX12_wrong_14 : decode prog_14_method_12_code 14 = .ok (.ireturn, 1) := by decide +kernel
noncomputable def F_X12_wrong (v1 : Int) (M : bM) : Option (Int × bM) :=
  b_let (b_up M 11 8 v1) (fun M1 => b_let (b_up M1 11 9 (M1 11 5)) (fun M2 => some (0, M2)))
theorem t_X12_wrong {l : Launch} {E : bE} {Q : (Int × bM) → Prop} {v1 : Int} {M : bM} (h : b_wp (F_X12_wrong v1 M) (Q)) : V l E xX12_wrong (0, 0) 0 [(0, bR 11), (1, bI v1)] [] M (b_pI Q) := by
  unfold F_X12_wrong at h
  refine v_aload_n (f := 0) 0 rfl dX12_wrong_0 ?_
  refine v_iload_n (f := 1) 1 rfl dX12_wrong_1 ?_
  refine v_putI (kf := 8) (kz := 8) rfl kd_11 rfl ⟨by decide, by decide⟩ rfl wf_12_341 rfl rfl dX12_wrong_2 ?_
  replace h := b_wp_l h
  refine v_aload_n (f := 0) 0 rfl dX12_wrong_5 ?_
  refine v_aload_n (f := 0) 0 rfl dX12_wrong_6 ?_
  refine v_getI (kf := 5) (kz := 5) rfl kd_11 rfl ⟨by decide, by decide⟩ rfl wf_12_310 dX12_wrong_7 ?_
  refine v_putI (kf := 9) (kz := 9) rfl kd_11 rfl ⟨by decide, by decide⟩ rfl wf_12_13 rfl rfl dX12_wrong_10 ?_
  replace h := b_wp_l h
  refine v_iconst ⟨by decide, by decide⟩ dX12_wrong_13 ?_
  refine v_zreturn rfl (Or.inl rfl) dX12_wrong_14 ⟨by decide, by decide⟩ ?_
  exact ⟨_, rfl, h⟩
theorem cf_X12_wrong {l : Launch} {E : bE} {M : bM} {v1 : Int} {Q : (Int × bM) → Prop} (h : b_wp (F_X12_wrong v1 M) Q) : b_C l E xX12_wrong yX12_wrong [bR 11, bI v1] M (b_pI Q) := b_met (by decide) ⟨rfl, rfl⟩ (Nat.le_of_ble_eq_true rfl) (fun _ _ => t_X12_wrong h)
abbrev xX12_fault : bX := ("BurntHallModel", prog_14_method_13_code, 2, (Option.some Jvm.ClassFile.FieldType.int), b_rm 1 0 0, 0, "fault")
abbrev yX12_fault : MethodName := ⟨"BurntHallModel", "fault", "(I)I"⟩
theorem dX12_fault_0 : decode prog_14_method_13_code 0 = .ok (.iload_n 1, 1) := by decide +kernel
theorem dX12_fault_1 : decode prog_14_method_13_code 1 = .ok (.ifCond .ne 10, 3) := by decide +kernel
theorem dX12_fault_4 : decode prog_14_method_13_code 4 = .ok (.aload_n 0, 1) := by decide +kernel
theorem dX12_fault_5 : decode prog_14_method_13_code 5 = .ok (.getfield 341, 3) := by decide +kernel
theorem dX12_fault_8 : decode prog_14_method_13_code 8 = .ok (.goto 16, 3) := by decide +kernel
theorem dX12_fault_11 : decode prog_14_method_13_code 11 = .ok (.iload_n 1, 1) := by decide +kernel
theorem dX12_fault_12 : decode prog_14_method_13_code 12 = .ok (.iconst 1, 1) := by decide +kernel
theorem dX12_fault_13 : decode prog_14_method_13_code 13 = .ok (.if_icmp .ne 10, 3) := by decide +kernel
theorem dX12_fault_16 : decode prog_14_method_13_code 16 = .ok (.aload_n 0, 1) := by decide +kernel
theorem dX12_fault_17 : decode prog_14_method_13_code 17 = .ok (.getfield 13, 3) := by decide +kernel
theorem dX12_fault_20 : decode prog_14_method_13_code 20 = .ok (.goto 4, 3) := by decide +kernel
theorem dX12_fault_23 : decode prog_14_method_13_code 23 = .ok (.iconst (-1), 1) := by decide +kernel
theorem dX12_fault_24 : decode prog_14_method_13_code 24 = .ok (.ireturn, 1) := by decide +kernel
noncomputable def F_X12_fault (v1 : Int) (M : bM) : Option (Int) :=
  if v1 = 0 then (some (M 11 8)) else (if v1 = 1 then (some (M 11 9)) else (some (-1)))
theorem t_X12_fault {l : Launch} {E : bE} {Q : Int → Prop} {v1 : Int} {M : bM} (h : b_wp (F_X12_fault v1 M) (Q)) : V l E xX12_fault (0, 0) 0 [(0, bR 11), (1, bI v1)] [] M (b_pIp M Q) := by
  unfold F_X12_fault at h
  refine v_iload_n (f := 1) 1 rfl dX12_fault_0 ?_
  refine v_if_ne (tgt := 11) dX12_fault_1 (by decide) (fun c1 => ?_) (fun c1 => ?_)
  · replace h := b_wp_f c1 h
    refine v_iload_n (f := 1) 1 rfl dX12_fault_11 ?_
    refine v_iconst ⟨by decide, by decide⟩ dX12_fault_12 ?_
    refine v_icmp_ne (tgt := 23) dX12_fault_13 (by decide) (fun c2 => ?_) (fun c2 => ?_)
    · replace h := b_wp_f c2 h
      refine v_iconst ⟨by decide, by decide⟩ dX12_fault_23 ?_
      refine v_ireturn rfl dX12_fault_24 ⟨by decide, by decide⟩ ?_
      exact ⟨_, rfl, rfl, h⟩
    · replace h := b_wp_t c2 h
      refine v_aload_n (f := 0) 0 rfl dX12_fault_16 ?_
      refine v_getI (kf := 9) (kz := 9) rfl kd_11 rfl ⟨by decide, by decide⟩ rfl wf_12_13 dX12_fault_17 ?_
      refine v_goto (tgt := 24) dX12_fault_20 (by decide) ?_
      refine v_ireturn rfl dX12_fault_24 ⟨by decide, by decide⟩ ?_
      exact ⟨_, rfl, rfl, h⟩
  · replace h := b_wp_t c1 h
    refine v_aload_n (f := 0) 0 rfl dX12_fault_4 ?_
    refine v_getI (kf := 8) (kz := 8) rfl kd_11 rfl ⟨by decide, by decide⟩ rfl wf_12_341 dX12_fault_5 ?_
    refine v_goto (tgt := 24) dX12_fault_8 (by decide) ?_
    refine v_ireturn rfl dX12_fault_24 ⟨by decide, by decide⟩ ?_
    exact ⟨_, rfl, rfl, h⟩
theorem cf_X12_fault {l : Launch} {E : bE} {M : bM} {v1 : Int} {Q : Int → Prop} (h : b_wp (F_X12_fault v1 M) Q) : b_C l E xX12_fault yX12_fault [bR 11, bI v1] M (b_pIp M Q) := b_met (by decide) ⟨rfl, rfl⟩ (Nat.le_of_ble_eq_true rfl) (fun _ _ => t_X12_fault h)
abbrev xX12_pass : bX := ("BurntHallModel", prog_14_method_14_code, 2, (Option.some Jvm.ClassFile.FieldType.int), b_rm 2 0 0, 0, "pass")
abbrev yX12_pass : MethodName := ⟨"BurntHallModel", "pass", "(I)I"⟩
theorem dX12_pass_0 : decode prog_14_method_14_code 0 = .ok (.iload_n 1, 1) := by decide +kernel
theorem dX12_pass_1 : decode prog_14_method_14_code 1 = .ok (.iconst 1, 1) := by decide +kernel
theorem dX12_pass_2 : decode prog_14_method_14_code 2 = .ok (.sipush 5000, 3) := by decide +kernel
theorem dX12_pass_5 : decode prog_14_method_14_code 5 = .ok (.invokestatic 279, 3) := by decide +kernel
theorem dX12_pass_8 : decode prog_14_method_14_code 8 = .ok (.ifCond .eq 15, 3) := by decide +kernel
theorem dX12_pass_11 : decode prog_14_method_14_code 11 = .ok (.aload_n 0, 1) := by decide +kernel
theorem dX12_pass_12 : decode prog_14_method_14_code 12 = .ok (.getfield 344, 3) := by decide +kernel
theorem dX12_pass_15 : decode prog_14_method_14_code 15 = .ok (.iload_n 1, 1) := by decide +kernel
theorem dX12_pass_16 : decode prog_14_method_14_code 16 = .ok (.iadd, 1) := by decide +kernel
theorem dX12_pass_17 : decode prog_14_method_14_code 17 = .ok (.sipush 9999, 3) := by decide +kernel
theorem dX12_pass_20 : decode prog_14_method_14_code 20 = .ok (.if_icmp .le 6, 3) := by decide +kernel
theorem dX12_pass_23 : decode prog_14_method_14_code 23 = .ok (.bipush (-2), 2) := by decide +kernel
theorem dX12_pass_25 : decode prog_14_method_14_code 25 = .ok (.ireturn, 1) := by decide +kernel
theorem dX12_pass_26 : decode prog_14_method_14_code 26 = .ok (.aload_n 0, 1) := by decide +kernel
theorem dX12_pass_27 : decode prog_14_method_14_code 27 = .ok (.dup, 1) := by decide +kernel
theorem dX12_pass_28 : decode prog_14_method_14_code 28 = .ok (.getfield 344, 3) := by decide +kernel
theorem dX12_pass_31 : decode prog_14_method_14_code 31 = .ok (.iload_n 1, 1) := by decide +kernel
theorem dX12_pass_32 : decode prog_14_method_14_code 32 = .ok (.iadd, 1) := by decide +kernel
theorem dX12_pass_33 : decode prog_14_method_14_code 33 = .ok (.putfield 344, 3) := by decide +kernel
theorem dX12_pass_36 : decode prog_14_method_14_code 36 = .ok (.aload_n 0, 1) := by decide +kernel
theorem dX12_pass_37 : decode prog_14_method_14_code 37 = .ok (.getfield 344, 3) := by decide +kernel
theorem dX12_pass_40 : decode prog_14_method_14_code 40 = .ok (.ireturn, 1) := by decide +kernel
noncomputable def F_X12_pass (v1 : Int) (M : bM) : Option (Int × bM) :=
  b_bind (F_X12_in v1 1 5000 M) (fun x1 => if x1 = 0 then (some ((-2), M)) else (b_g (b_i32 ((M 11 11) + v1)) (if ((M 11 11) + v1) ≤ 9999 then (b_g (b_i32 ((M 11 11) + v1)) (b_let (b_up M 11 11 ((M 11 11) + v1)) (fun M6 => some ((M6 11 11), M6)))) else (some ((-2), M)))))
theorem t_X12_pass {l : Launch} {E : bE} {Q : (Int × bM) → Prop} {v1 : Int} {M : bM} (h : b_wp (F_X12_pass v1 M) (Q)) : V l E xX12_pass (0, 0) 0 [(0, bR 11), (1, bI v1)] [] M (b_pI Q) := by
  unfold F_X12_pass at h
  refine v_iload_n (f := 1) 1 rfl dX12_pass_0 ?_
  refine v_iconst ⟨by decide, by decide⟩ dX12_pass_1 ?_
  refine v_sipush ⟨by decide, by decide⟩ (by decide) dX12_pass_2 ?_
  refine v_cSIp (nA := 3) (As := [bI _, bI _, bI _]) (ix := 279) (cf_X12_in (b_wp_b h)) rfl wc_X12_in wm_12_279 wi_X12_in wn_12 ⟨by decide, by decide, by decide⟩ rfl ⟨by decide, by decide⟩ ⟨by decide, by decide⟩ (Nat.le_of_ble_eq_true rfl) dX12_pass_5 (fun x1 h => ?_)
  refine v_if_eq (tgt := 23) dX12_pass_8 (by decide) (fun c2 => ?_) (fun c2 => ?_)
  · replace h := b_wp_t c2 h
    refine v_bipush ⟨by decide, by decide⟩ (by decide) dX12_pass_23 ?_
    refine v_ireturn rfl dX12_pass_25 ⟨by decide, by decide⟩ ?_
    exact ⟨_, rfl, h⟩
  · replace h := b_wp_f c2 h
    obtain ⟨g3, h⟩ := b_wp_g h
    refine v_aload_n (f := 0) 0 rfl dX12_pass_11 ?_
    refine v_getI (kf := 11) (kz := 11) rfl kd_11 rfl ⟨by decide, by decide⟩ rfl wf_12_344 dX12_pass_12 ?_
    refine v_iload_n (f := 1) 1 rfl dX12_pass_15 ?_
    refine v_iaddN g3 dX12_pass_16 ?_
    refine v_sipush ⟨by decide, by decide⟩ (by decide) dX12_pass_17 ?_
    refine v_icmp_le (tgt := 26) dX12_pass_20 (by decide) (fun c4 => ?_) (fun c4 => ?_)
    · replace h := b_wp_t c4 h
      obtain ⟨g5, h⟩ := b_wp_g h
      refine v_aload_n (f := 0) 0 rfl dX12_pass_26 ?_
      refine v_dup rfl dX12_pass_27 ?_
      refine v_getI (kf := 11) (kz := 11) rfl kd_11 rfl ⟨by decide, by decide⟩ rfl wf_12_344 dX12_pass_28 ?_
      refine v_iload_n (f := 1) 1 rfl dX12_pass_31 ?_
      refine v_iaddN g5 dX12_pass_32 ?_
      refine v_putI (kf := 11) (kz := 11) rfl kd_11 rfl ⟨by decide, by decide⟩ rfl wf_12_344 rfl rfl dX12_pass_33 ?_
      replace h := b_wp_l h
      refine v_aload_n (f := 0) 0 rfl dX12_pass_36 ?_
      refine v_getI (kf := 11) (kz := 11) rfl kd_11 rfl ⟨by decide, by decide⟩ rfl wf_12_344 dX12_pass_37 ?_
      refine v_ireturn rfl dX12_pass_40 ⟨by decide, by decide⟩ ?_
      exact ⟨_, rfl, h⟩
    · replace h := b_wp_f c4 h
      refine v_bipush ⟨by decide, by decide⟩ (by decide) dX12_pass_23 ?_
      refine v_ireturn rfl dX12_pass_25 ⟨by decide, by decide⟩ ?_
      exact ⟨_, rfl, h⟩
theorem cf_X12_pass {l : Launch} {E : bE} {M : bM} {v1 : Int} {Q : (Int × bM) → Prop} (h : b_wp (F_X12_pass v1 M) Q) : b_C l E xX12_pass yX12_pass [bR 11, bI v1] M (b_pI Q) := b_met (by decide) ⟨rfl, rfl⟩ (Nat.le_of_ble_eq_true rfl) (fun _ _ => t_X12_pass h)
abbrev xX12_person : bX := ("BurntHallModel", prog_14_method_15_code, 2, (Option.some Jvm.ClassFile.FieldType.int), b_rm 3 0 0, 0, "person")
abbrev yX12_person : MethodName := ⟨"BurntHallModel", "person", "(I)I"⟩
theorem dX12_person_0 : decode prog_14_method_15_code 0 = .ok (.iload_n 1, 1) := by decide +kernel
theorem dX12_person_1 : decode prog_14_method_15_code 1 = .ok (.invokestatic 347, 3) := by decide +kernel
theorem dX12_person_4 : decode prog_14_method_15_code 4 = .ok (.ifCond .ne 6, 3) := by decide +kernel
theorem dX12_person_7 : decode prog_14_method_15_code 7 = .ok (.bipush (-2), 2) := by decide +kernel
theorem dX12_person_9 : decode prog_14_method_15_code 9 = .ok (.ireturn, 1) := by decide +kernel
theorem dX12_person_10 : decode prog_14_method_15_code 10 = .ok (.aload_n 0, 1) := by decide +kernel
theorem dX12_person_11 : decode prog_14_method_15_code 11 = .ok (.getfield 350, 3) := by decide +kernel
theorem dX12_person_14 : decode prog_14_method_15_code 14 = .ok (.bipush 80, 2) := by decide +kernel
theorem dX12_person_16 : decode prog_14_method_15_code 16 = .ok (.if_icmp .ne 6, 3) := by decide +kernel
theorem dX12_person_19 : decode prog_14_method_15_code 19 = .ok (.bipush (-3), 2) := by decide +kernel
theorem dX12_person_21 : decode prog_14_method_15_code 21 = .ok (.ireturn, 1) := by decide +kernel
theorem dX12_person_22 : decode prog_14_method_15_code 22 = .ok (.aload_n 0, 1) := by decide +kernel
theorem dX12_person_23 : decode prog_14_method_15_code 23 = .ok (.getfield 17, 3) := by decide +kernel
theorem dX12_person_26 : decode prog_14_method_15_code 26 = .ok (.aload_n 0, 1) := by decide +kernel
theorem dX12_person_27 : decode prog_14_method_15_code 27 = .ok (.getfield 350, 3) := by decide +kernel
theorem dX12_person_30 : decode prog_14_method_15_code 30 = .ok (.iload_n 1, 1) := by decide +kernel
theorem dX12_person_31 : decode prog_14_method_15_code 31 = .ok (.iastore, 1) := by decide +kernel
theorem dX12_person_32 : decode prog_14_method_15_code 32 = .ok (.aload_n 0, 1) := by decide +kernel
theorem dX12_person_33 : decode prog_14_method_15_code 33 = .ok (.dup, 1) := by decide +kernel
theorem dX12_person_34 : decode prog_14_method_15_code 34 = .ok (.getfield 350, 3) := by decide +kernel
theorem dX12_person_37 : decode prog_14_method_15_code 37 = .ok (.iconst 1, 1) := by decide +kernel
theorem dX12_person_38 : decode prog_14_method_15_code 38 = .ok (.iadd, 1) := by decide +kernel
theorem dX12_person_39 : decode prog_14_method_15_code 39 = .ok (.putfield 350, 3) := by decide +kernel
theorem dX12_person_42 : decode prog_14_method_15_code 42 = .ok (.aload_n 0, 1) := by decide +kernel
theorem dX12_person_43 : decode prog_14_method_15_code 43 = .ok (.getfield 350, 3) := by decide +kernel
theorem dX12_person_46 : decode prog_14_method_15_code 46 = .ok (.iconst 1, 1) := by decide +kernel
theorem dX12_person_47 : decode prog_14_method_15_code 47 = .ok (.isub, 1) := by decide +kernel
theorem dX12_person_48 : decode prog_14_method_15_code 48 = .ok (.ireturn, 1) := by decide +kernel
noncomputable def F_X12_person (v1 : Int) (M : bM) : Option (Int × bM) :=
  b_bind (F_X12_isDay v1 M) (fun x1 => if x1 = 0 then (some ((-2), M)) else (if (M 11 12) = 80 then (some ((-3), M)) else (b_g (0 ≤ (M 11 12) ∧ (M 11 12) < 80) (b_let (b_up M 163 (M 11 12) v1) (fun M5 => b_g (b_i32 ((M5 11 12) + 1)) (b_let (b_up M5 11 12 ((M5 11 12) + 1)) (fun M7 => b_g (b_i32 ((M7 11 12) - 1)) (some (((M7 11 12) - 1), M7)))))))))
theorem t_X12_person {l : Launch} {E : bE} {Q : (Int × bM) → Prop} {v1 : Int} {M : bM} (h : b_wp (F_X12_person v1 M) (Q)) : V l E xX12_person (0, 0) 0 [(0, bR 11), (1, bI v1)] [] M (b_pI Q) := by
  unfold F_X12_person at h
  refine v_iload_n (f := 1) 1 rfl dX12_person_0 ?_
  refine v_cSIp (nA := 1) (As := [bI _]) (ix := 347) (cf_X12_isDay (b_wp_b h)) rfl wc_X12_isDay wm_12_347 wi_X12_isDay wn_12 ⟨by decide, by decide, by decide⟩ rfl ⟨by decide, by decide⟩ ⟨by decide, by decide⟩ (Nat.le_of_ble_eq_true rfl) dX12_person_1 (fun x1 h => ?_)
  refine v_if_ne (tgt := 10) dX12_person_4 (by decide) (fun c2 => ?_) (fun c2 => ?_)
  · replace h := b_wp_f c2 h
    refine v_aload_n (f := 0) 0 rfl dX12_person_10 ?_
    refine v_getI (kf := 12) (kz := 12) rfl kd_11 rfl ⟨by decide, by decide⟩ rfl wf_12_350 dX12_person_11 ?_
    refine v_bipush ⟨by decide, by decide⟩ (by decide) dX12_person_14 ?_
    refine v_icmp_ne (tgt := 22) dX12_person_16 (by decide) (fun c3 => ?_) (fun c3 => ?_)
    · replace h := b_wp_f c3 h
      obtain ⟨g4, h⟩ := b_wp_g h
      refine v_aload_n (f := 0) 0 rfl dX12_person_22 ?_
      refine v_getR (kf := 14) (kz := 14) rfl kd_11 rfl ⟨by decide, by decide⟩ rfl wf_12_17 dX12_person_23 ?_
      refine v_aload_n (f := 0) 0 rfl dX12_person_26 ?_
      refine v_getI (kf := 12) (kz := 12) rfl kd_11 rfl ⟨by decide, by decide⟩ rfl wf_12_350 dX12_person_27 ?_
      refine v_iload_n (f := 1) 1 rfl dX12_person_30 ?_
      refine v_iastore kd_163 g4 (by decide) dX12_person_31 ?_
      replace h := b_wp_l h
      obtain ⟨g6, h⟩ := b_wp_g h
      refine v_aload_n (f := 0) 0 rfl dX12_person_32 ?_
      refine v_dup rfl dX12_person_33 ?_
      refine v_getI (kf := 12) (kz := 12) rfl kd_11 rfl ⟨by decide, by decide⟩ rfl wf_12_350 dX12_person_34 ?_
      refine v_iconst ⟨by decide, by decide⟩ dX12_person_37 ?_
      refine v_iaddN g6 dX12_person_38 ?_
      refine v_putI (kf := 12) (kz := 12) rfl kd_11 rfl ⟨by decide, by decide⟩ rfl wf_12_350 rfl rfl dX12_person_39 ?_
      replace h := b_wp_l h
      obtain ⟨g8, h⟩ := b_wp_g h
      refine v_aload_n (f := 0) 0 rfl dX12_person_42 ?_
      refine v_getI (kf := 12) (kz := 12) rfl kd_11 rfl ⟨by decide, by decide⟩ rfl wf_12_350 dX12_person_43 ?_
      refine v_iconst ⟨by decide, by decide⟩ dX12_person_46 ?_
      refine v_isubN g8 dX12_person_47 ?_
      refine v_ireturn rfl dX12_person_48 ⟨by decide, by decide⟩ ?_
      exact ⟨_, rfl, h⟩
    · replace h := b_wp_t c3 h
      refine v_bipush ⟨by decide, by decide⟩ (by decide) dX12_person_19 ?_
      refine v_ireturn rfl dX12_person_21 ⟨by decide, by decide⟩ ?_
      exact ⟨_, rfl, h⟩
  · replace h := b_wp_t c2 h
    refine v_bipush ⟨by decide, by decide⟩ (by decide) dX12_person_7 ?_
    refine v_ireturn rfl dX12_person_9 ⟨by decide, by decide⟩ ?_
    exact ⟨_, rfl, h⟩
theorem cf_X12_person {l : Launch} {E : bE} {M : bM} {v1 : Int} {Q : (Int × bM) → Prop} (h : b_wp (F_X12_person v1 M) Q) : b_C l E xX12_person yX12_person [bR 11, bI v1] M (b_pI Q) := b_met (by decide) ⟨rfl, rfl⟩ (Nat.le_of_ble_eq_true rfl) (fun _ _ => t_X12_person h)
abbrev xX12_isPerson : bX := ("BurntHallModel", prog_14_method_16_code, 2, (Option.some Jvm.ClassFile.FieldType.boolean), b_rm 2 0 0, 0, "isPerson")
abbrev yX12_isPerson : MethodName := ⟨"BurntHallModel", "isPerson", "(I)Z"⟩
theorem dX12_isPerson_0 : decode prog_14_method_16_code 0 = .ok (.iload_n 1, 1) := by decide +kernel
theorem dX12_isPerson_1 : decode prog_14_method_16_code 1 = .ok (.iconst 0, 1) := by decide +kernel
theorem dX12_isPerson_2 : decode prog_14_method_16_code 2 = .ok (.aload_n 0, 1) := by decide +kernel
theorem dX12_isPerson_3 : decode prog_14_method_16_code 3 = .ok (.getfield 350, 3) := by decide +kernel
theorem dX12_isPerson_6 : decode prog_14_method_16_code 6 = .ok (.iconst 1, 1) := by decide +kernel
theorem dX12_isPerson_7 : decode prog_14_method_16_code 7 = .ok (.isub, 1) := by decide +kernel
theorem dX12_isPerson_8 : decode prog_14_method_16_code 8 = .ok (.invokestatic 279, 3) := by decide +kernel
theorem dX12_isPerson_11 : decode prog_14_method_16_code 11 = .ok (.ireturn, 1) := by decide +kernel
noncomputable def F_X12_isPerson (v1 : Int) (M : bM) : Option (Int) :=
  b_g (b_i32 ((M 11 12) - 1)) (b_bind (F_X12_in v1 0 ((M 11 12) - 1) M) (fun x2 => b_g (x2 = 0 ∨ x2 = 1) (some x2)))
theorem t_X12_isPerson {l : Launch} {E : bE} {Q : Int → Prop} {v1 : Int} {M : bM} (h : b_wp (F_X12_isPerson v1 M) (Q)) : V l E xX12_isPerson (0, 0) 0 [(0, bR 11), (1, bI v1)] [] M (b_pIp M Q) := by
  unfold F_X12_isPerson at h
  obtain ⟨g1, h⟩ := b_wp_g h
  refine v_iload_n (f := 1) 1 rfl dX12_isPerson_0 ?_
  refine v_iconst ⟨by decide, by decide⟩ dX12_isPerson_1 ?_
  refine v_aload_n (f := 0) 0 rfl dX12_isPerson_2 ?_
  refine v_getI (kf := 12) (kz := 12) rfl kd_11 rfl ⟨by decide, by decide⟩ rfl wf_12_350 dX12_isPerson_3 ?_
  refine v_iconst ⟨by decide, by decide⟩ dX12_isPerson_6 ?_
  refine v_isubN g1 dX12_isPerson_7 ?_
  refine v_cSIp (nA := 3) (As := [bI _, bI _, bI _]) (ix := 279) (cf_X12_in (b_wp_b h)) rfl wc_X12_in wm_12_279 wi_X12_in wn_12 ⟨by decide, by decide, by decide⟩ rfl ⟨by decide, by decide⟩ ⟨by decide, by decide⟩ (Nat.le_of_ble_eq_true rfl) dX12_isPerson_8 (fun x2 h => ?_)
  obtain ⟨g3, h⟩ := b_wp_g h
  refine v_zreturn rfl g3 dX12_isPerson_11 ⟨by decide, by decide⟩ ?_
  exact ⟨_, rfl, rfl, h⟩
theorem cf_X12_isPerson {l : Launch} {E : bE} {M : bM} {v1 : Int} {Q : Int → Prop} (h : b_wp (F_X12_isPerson v1 M) Q) : b_C l E xX12_isPerson yX12_isPerson [bR 11, bI v1] M (b_pIp M Q) := b_met (by decide) ⟨rfl, rfl⟩ (Nat.le_of_ble_eq_true rfl) (fun _ _ => t_X12_isPerson h)
abbrev xX12_tell : bX := ("BurntHallModel", prog_14_method_17_code, 4, (Option.some Jvm.ClassFile.FieldType.int), b_rm 1 0 0, 0, "tell")
abbrev yX12_tell : MethodName := ⟨"BurntHallModel", "tell", "(III)I"⟩
theorem dX12_tell_0 : decode prog_14_method_17_code 0 = .ok (.aload_n 0, 1) := by decide +kernel
theorem dX12_tell_1 : decode prog_14_method_17_code 1 = .ok (.getfield 353, 3) := by decide +kernel
theorem dX12_tell_4 : decode prog_14_method_17_code 4 = .ok (.sipush 400, 3) := by decide +kernel
theorem dX12_tell_7 : decode prog_14_method_17_code 7 = .ok (.if_icmp .ne 6, 3) := by decide +kernel
theorem dX12_tell_10 : decode prog_14_method_17_code 10 = .ok (.bipush (-3), 2) := by decide +kernel
theorem dX12_tell_12 : decode prog_14_method_17_code 12 = .ok (.ireturn, 1) := by decide +kernel
theorem dX12_tell_13 : decode prog_14_method_17_code 13 = .ok (.aload_n 0, 1) := by decide +kernel
theorem dX12_tell_14 : decode prog_14_method_17_code 14 = .ok (.getfield 21, 3) := by decide +kernel
theorem dX12_tell_17 : decode prog_14_method_17_code 17 = .ok (.aload_n 0, 1) := by decide +kernel
theorem dX12_tell_18 : decode prog_14_method_17_code 18 = .ok (.getfield 353, 3) := by decide +kernel
theorem dX12_tell_21 : decode prog_14_method_17_code 21 = .ok (.iload_n 1, 1) := by decide +kernel
theorem dX12_tell_22 : decode prog_14_method_17_code 22 = .ok (.iastore, 1) := by decide +kernel
theorem dX12_tell_23 : decode prog_14_method_17_code 23 = .ok (.aload_n 0, 1) := by decide +kernel
theorem dX12_tell_24 : decode prog_14_method_17_code 24 = .ok (.getfield 24, 3) := by decide +kernel
theorem dX12_tell_27 : decode prog_14_method_17_code 27 = .ok (.aload_n 0, 1) := by decide +kernel
theorem dX12_tell_28 : decode prog_14_method_17_code 28 = .ok (.getfield 353, 3) := by decide +kernel
theorem dX12_tell_31 : decode prog_14_method_17_code 31 = .ok (.iload_n 2, 1) := by decide +kernel
theorem dX12_tell_32 : decode prog_14_method_17_code 32 = .ok (.iastore, 1) := by decide +kernel
theorem dX12_tell_33 : decode prog_14_method_17_code 33 = .ok (.aload_n 0, 1) := by decide +kernel
theorem dX12_tell_34 : decode prog_14_method_17_code 34 = .ok (.getfield 27, 3) := by decide +kernel
theorem dX12_tell_37 : decode prog_14_method_17_code 37 = .ok (.aload_n 0, 1) := by decide +kernel
theorem dX12_tell_38 : decode prog_14_method_17_code 38 = .ok (.getfield 353, 3) := by decide +kernel
theorem dX12_tell_41 : decode prog_14_method_17_code 41 = .ok (.iload_n 3, 1) := by decide +kernel
theorem dX12_tell_42 : decode prog_14_method_17_code 42 = .ok (.iastore, 1) := by decide +kernel
theorem dX12_tell_43 : decode prog_14_method_17_code 43 = .ok (.aload_n 0, 1) := by decide +kernel
theorem dX12_tell_44 : decode prog_14_method_17_code 44 = .ok (.getfield 30, 3) := by decide +kernel
theorem dX12_tell_47 : decode prog_14_method_17_code 47 = .ok (.aload_n 0, 1) := by decide +kernel
theorem dX12_tell_48 : decode prog_14_method_17_code 48 = .ok (.getfield 353, 3) := by decide +kernel
theorem dX12_tell_51 : decode prog_14_method_17_code 51 = .ok (.aload_n 0, 1) := by decide +kernel
theorem dX12_tell_52 : decode prog_14_method_17_code 52 = .ok (.getfield 344, 3) := by decide +kernel
theorem dX12_tell_55 : decode prog_14_method_17_code 55 = .ok (.iastore, 1) := by decide +kernel
theorem dX12_tell_56 : decode prog_14_method_17_code 56 = .ok (.aload_n 0, 1) := by decide +kernel
theorem dX12_tell_57 : decode prog_14_method_17_code 57 = .ok (.dup, 1) := by decide +kernel
theorem dX12_tell_58 : decode prog_14_method_17_code 58 = .ok (.getfield 353, 3) := by decide +kernel
theorem dX12_tell_61 : decode prog_14_method_17_code 61 = .ok (.iconst 1, 1) := by decide +kernel
theorem dX12_tell_62 : decode prog_14_method_17_code 62 = .ok (.iadd, 1) := by decide +kernel
theorem dX12_tell_63 : decode prog_14_method_17_code 63 = .ok (.putfield 353, 3) := by decide +kernel
theorem dX12_tell_66 : decode prog_14_method_17_code 66 = .ok (.aload_n 0, 1) := by decide +kernel
theorem dX12_tell_67 : decode prog_14_method_17_code 67 = .ok (.getfield 353, 3) := by decide +kernel
theorem dX12_tell_70 : decode prog_14_method_17_code 70 = .ok (.ireturn, 1) := by decide +kernel
noncomputable def F_X12_tell (v1 : Int) (v2 : Int) (v3 : Int) (M : bM) : Option (Int × bM) :=
  if (M 11 13) = 400 then (some ((-3), M)) else (b_g (0 ≤ (M 11 13) ∧ (M 11 13) < 400) (b_let (b_up M 164 (M 11 13) v1) (fun M3 => b_g (0 ≤ (M3 11 13) ∧ (M3 11 13) < 400) (b_let (b_up M3 165 (M3 11 13) v2) (fun M5 => b_g (0 ≤ (M5 11 13) ∧ (M5 11 13) < 400) (b_let (b_up M5 166 (M5 11 13) v3) (fun M7 => b_g (0 ≤ (M7 11 13) ∧ (M7 11 13) < 400) (b_let (b_up M7 167 (M7 11 13) (M7 11 11)) (fun M9 => b_g (b_i32 ((M9 11 13) + 1)) (b_let (b_up M9 11 13 ((M9 11 13) + 1)) (fun M11 => some ((M11 11 13), M11))))))))))))
theorem t_X12_tell {l : Launch} {E : bE} {Q : (Int × bM) → Prop} {v1 : Int} {v2 : Int} {v3 : Int} {M : bM} (h : b_wp (F_X12_tell v1 v2 v3 M) (Q)) : V l E xX12_tell (0, 0) 0 [(0, bR 11), (1, bI v1), (2, bI v2), (3, bI v3)] [] M (b_pI Q) := by
  unfold F_X12_tell at h
  refine v_aload_n (f := 0) 0 rfl dX12_tell_0 ?_
  refine v_getI (kf := 13) (kz := 13) rfl kd_11 rfl ⟨by decide, by decide⟩ rfl wf_12_353 dX12_tell_1 ?_
  refine v_sipush ⟨by decide, by decide⟩ (by decide) dX12_tell_4 ?_
  refine v_icmp_ne (tgt := 13) dX12_tell_7 (by decide) (fun c1 => ?_) (fun c1 => ?_)
  · replace h := b_wp_f c1 h
    obtain ⟨g2, h⟩ := b_wp_g h
    refine v_aload_n (f := 0) 0 rfl dX12_tell_13 ?_
    refine v_getR (kf := 15) (kz := 15) rfl kd_11 rfl ⟨by decide, by decide⟩ rfl wf_12_21 dX12_tell_14 ?_
    refine v_aload_n (f := 0) 0 rfl dX12_tell_17 ?_
    refine v_getI (kf := 13) (kz := 13) rfl kd_11 rfl ⟨by decide, by decide⟩ rfl wf_12_353 dX12_tell_18 ?_
    refine v_iload_n (f := 1) 1 rfl dX12_tell_21 ?_
    refine v_iastore kd_164 g2 (by decide) dX12_tell_22 ?_
    replace h := b_wp_l h
    obtain ⟨g4, h⟩ := b_wp_g h
    refine v_aload_n (f := 0) 0 rfl dX12_tell_23 ?_
    refine v_getR (kf := 16) (kz := 16) rfl kd_11 rfl ⟨by decide, by decide⟩ rfl wf_12_24 dX12_tell_24 ?_
    refine v_aload_n (f := 0) 0 rfl dX12_tell_27 ?_
    refine v_getI (kf := 13) (kz := 13) rfl kd_11 rfl ⟨by decide, by decide⟩ rfl wf_12_353 dX12_tell_28 ?_
    refine v_iload_n (f := 2) 2 rfl dX12_tell_31 ?_
    refine v_iastore kd_165 g4 (by decide) dX12_tell_32 ?_
    replace h := b_wp_l h
    obtain ⟨g6, h⟩ := b_wp_g h
    refine v_aload_n (f := 0) 0 rfl dX12_tell_33 ?_
    refine v_getR (kf := 17) (kz := 17) rfl kd_11 rfl ⟨by decide, by decide⟩ rfl wf_12_27 dX12_tell_34 ?_
    refine v_aload_n (f := 0) 0 rfl dX12_tell_37 ?_
    refine v_getI (kf := 13) (kz := 13) rfl kd_11 rfl ⟨by decide, by decide⟩ rfl wf_12_353 dX12_tell_38 ?_
    refine v_iload_n (f := 3) 3 rfl dX12_tell_41 ?_
    refine v_iastore kd_166 g6 (by decide) dX12_tell_42 ?_
    replace h := b_wp_l h
    obtain ⟨g8, h⟩ := b_wp_g h
    refine v_aload_n (f := 0) 0 rfl dX12_tell_43 ?_
    refine v_getR (kf := 18) (kz := 18) rfl kd_11 rfl ⟨by decide, by decide⟩ rfl wf_12_30 dX12_tell_44 ?_
    refine v_aload_n (f := 0) 0 rfl dX12_tell_47 ?_
    refine v_getI (kf := 13) (kz := 13) rfl kd_11 rfl ⟨by decide, by decide⟩ rfl wf_12_353 dX12_tell_48 ?_
    refine v_aload_n (f := 0) 0 rfl dX12_tell_51 ?_
    refine v_getI (kf := 11) (kz := 11) rfl kd_11 rfl ⟨by decide, by decide⟩ rfl wf_12_344 dX12_tell_52 ?_
    refine v_iastore kd_167 g8 (by decide) dX12_tell_55 ?_
    replace h := b_wp_l h
    obtain ⟨g10, h⟩ := b_wp_g h
    refine v_aload_n (f := 0) 0 rfl dX12_tell_56 ?_
    refine v_dup rfl dX12_tell_57 ?_
    refine v_getI (kf := 13) (kz := 13) rfl kd_11 rfl ⟨by decide, by decide⟩ rfl wf_12_353 dX12_tell_58 ?_
    refine v_iconst ⟨by decide, by decide⟩ dX12_tell_61 ?_
    refine v_iaddN g10 dX12_tell_62 ?_
    refine v_putI (kf := 13) (kz := 13) rfl kd_11 rfl ⟨by decide, by decide⟩ rfl wf_12_353 rfl rfl dX12_tell_63 ?_
    replace h := b_wp_l h
    refine v_aload_n (f := 0) 0 rfl dX12_tell_66 ?_
    refine v_getI (kf := 13) (kz := 13) rfl kd_11 rfl ⟨by decide, by decide⟩ rfl wf_12_353 dX12_tell_67 ?_
    refine v_ireturn rfl dX12_tell_70 ⟨by decide, by decide⟩ ?_
    exact ⟨_, rfl, h⟩
  · replace h := b_wp_t c1 h
    refine v_bipush ⟨by decide, by decide⟩ (by decide) dX12_tell_10 ?_
    refine v_ireturn rfl dX12_tell_12 ⟨by decide, by decide⟩ ?_
    exact ⟨_, rfl, h⟩
theorem cf_X12_tell {l : Launch} {E : bE} {M : bM} {v1 : Int} {v2 : Int} {v3 : Int} {Q : (Int × bM) → Prop} (h : b_wp (F_X12_tell v1 v2 v3 M) Q) : b_C l E xX12_tell yX12_tell [bR 11, bI v1, bI v2, bI v3] M (b_pI Q) := b_met (by decide) ⟨rfl, rfl⟩ (Nat.le_of_ble_eq_true rfl) (fun _ _ => t_X12_tell h)
abbrev xX12_dead : bX := ("BurntHallModel", prog_14_method_18_code, 3, (Option.some Jvm.ClassFile.FieldType.int), b_rm 3 0 0, 0, "dead")
abbrev yX12_dead : MethodName := ⟨"BurntHallModel", "dead", "(II)I"⟩
theorem dX12_dead_0 : decode prog_14_method_18_code 0 = .ok (.aload_n 0, 1) := by decide +kernel
theorem dX12_dead_1 : decode prog_14_method_18_code 1 = .ok (.iload_n 1, 1) := by decide +kernel
theorem dX12_dead_2 : decode prog_14_method_18_code 2 = .ok (.invokevirtual 356, 3) := by decide +kernel
theorem dX12_dead_5 : decode prog_14_method_18_code 5 = .ok (.ifCond .eq 20, 3) := by decide +kernel
theorem dX12_dead_8 : decode prog_14_method_18_code 8 = .ok (.iload_n 2, 1) := by decide +kernel
theorem dX12_dead_9 : decode prog_14_method_18_code 9 = .ok (.invokestatic 347, 3) := by decide +kernel
theorem dX12_dead_12 : decode prog_14_method_18_code 12 = .ok (.ifCond .eq 13, 3) := by decide +kernel
theorem dX12_dead_15 : decode prog_14_method_18_code 15 = .ok (.aload_n 0, 1) := by decide +kernel
theorem dX12_dead_16 : decode prog_14_method_18_code 16 = .ok (.iconst 0, 1) := by decide +kernel
theorem dX12_dead_17 : decode prog_14_method_18_code 17 = .ok (.iload_n 1, 1) := by decide +kernel
theorem dX12_dead_18 : decode prog_14_method_18_code 18 = .ok (.iload_n 2, 1) := by decide +kernel
theorem dX12_dead_19 : decode prog_14_method_18_code 19 = .ok (.invokevirtual 359, 3) := by decide +kernel
theorem dX12_dead_22 : decode prog_14_method_18_code 22 = .ok (.goto 5, 3) := by decide +kernel
theorem dX12_dead_25 : decode prog_14_method_18_code 25 = .ok (.bipush (-2), 2) := by decide +kernel
theorem dX12_dead_27 : decode prog_14_method_18_code 27 = .ok (.ireturn, 1) := by decide +kernel
noncomputable def F_X12_dead (v1 : Int) (v2 : Int) (M : bM) : Option (Int × bM) :=
  b_bind (F_X12_isPerson v1 M) (fun x1 => if x1 = 0 then (some ((-2), M)) else (b_bind (F_X12_isDay v2 M) (fun x3 => if x3 = 0 then (some ((-2), M)) else (b_bind (F_X12_tell 0 v1 v2 M) (fun t => b_two t (fun x5 M6 => some (x5, M6)))))))
theorem t_X12_dead {l : Launch} {E : bE} {Q : (Int × bM) → Prop} {v1 : Int} {v2 : Int} {M : bM} (h : b_wp (F_X12_dead v1 v2 M) (Q)) : V l E xX12_dead (0, 0) 0 [(0, bR 11), (1, bI v1), (2, bI v2)] [] M (b_pI Q) := by
  unfold F_X12_dead at h
  refine v_aload_n (f := 0) 0 rfl dX12_dead_0 ?_
  refine v_iload_n (f := 1) 1 rfl dX12_dead_1 ?_
  refine v_cVIp (nA := 1) (As := [bI _]) (ix := 356) (cf_X12_isPerson (b_wp_b h)) rfl kd_11 rfl rfl wc_X12_isPerson wm_12_356 wi_X12_isPerson ws_X12_isPerson wn_12 ⟨by decide, by decide, by decide⟩ rfl ⟨by decide, by decide⟩ ⟨by decide, by decide⟩ (Nat.le_of_ble_eq_true rfl) dX12_dead_2 (fun x1 h => ?_)
  refine v_if_eq (tgt := 25) dX12_dead_5 (by decide) (fun c2 => ?_) (fun c2 => ?_)
  · replace h := b_wp_t c2 h
    refine v_bipush ⟨by decide, by decide⟩ (by decide) dX12_dead_25 ?_
    refine v_ireturn rfl dX12_dead_27 ⟨by decide, by decide⟩ ?_
    exact ⟨_, rfl, h⟩
  · replace h := b_wp_f c2 h
    refine v_iload_n (f := 2) 2 rfl dX12_dead_8 ?_
    refine v_cSIp (nA := 1) (As := [bI _]) (ix := 347) (cf_X12_isDay (b_wp_b h)) rfl wc_X12_isDay wm_12_347 wi_X12_isDay wn_12 ⟨by decide, by decide, by decide⟩ rfl ⟨by decide, by decide⟩ ⟨by decide, by decide⟩ (Nat.le_of_ble_eq_true rfl) dX12_dead_9 (fun x3 h => ?_)
    refine v_if_eq (tgt := 25) dX12_dead_12 (by decide) (fun c4 => ?_) (fun c4 => ?_)
    · replace h := b_wp_t c4 h
      refine v_bipush ⟨by decide, by decide⟩ (by decide) dX12_dead_25 ?_
      refine v_ireturn rfl dX12_dead_27 ⟨by decide, by decide⟩ ?_
      exact ⟨_, rfl, h⟩
    · replace h := b_wp_f c4 h
      refine v_aload_n (f := 0) 0 rfl dX12_dead_15 ?_
      refine v_iconst ⟨by decide, by decide⟩ dX12_dead_16 ?_
      refine v_iload_n (f := 1) 1 rfl dX12_dead_17 ?_
      refine v_iload_n (f := 2) 2 rfl dX12_dead_18 ?_
      refine v_cVI (nA := 3) (As := [bI _, bI _, bI _]) (ix := 359) (cf_X12_tell (b_wp_b h)) rfl kd_11 rfl rfl wc_X12_tell wm_12_359 wi_X12_tell ws_X12_tell wn_12 ⟨by decide, by decide, by decide⟩ rfl ⟨by decide, by decide⟩ ⟨by decide, by decide⟩ (Nat.le_of_ble_eq_true rfl) dX12_dead_19 (fun x5 M6 h => ?_)
      replace h := b_wp_two h
      refine v_goto (tgt := 27) dX12_dead_22 (by decide) ?_
      refine v_ireturn rfl dX12_dead_27 ⟨by decide, by decide⟩ ?_
      exact ⟨_, rfl, h⟩
theorem cf_X12_dead {l : Launch} {E : bE} {M : bM} {v1 : Int} {v2 : Int} {Q : (Int × bM) → Prop} (h : b_wp (F_X12_dead v1 v2 M) Q) : b_C l E xX12_dead yX12_dead [bR 11, bI v1, bI v2] M (b_pI Q) := b_met (by decide) ⟨rfl, rfl⟩ (Nat.le_of_ble_eq_true rfl) (fun _ _ => t_X12_dead h)
abbrev xX12_isPair : bX := ("BurntHallModel", prog_14_method_19_code, 3, (Option.some Jvm.ClassFile.FieldType.boolean), b_rm 3 0 0, 0, "isPair")
abbrev yX12_isPair : MethodName := ⟨"BurntHallModel", "isPair", "(II)Z"⟩
theorem dX12_isPair_0 : decode prog_14_method_19_code 0 = .ok (.aload_n 0, 1) := by decide +kernel
theorem dX12_isPair_1 : decode prog_14_method_19_code 1 = .ok (.iload_n 1, 1) := by decide +kernel
theorem dX12_isPair_2 : decode prog_14_method_19_code 2 = .ok (.invokevirtual 356, 3) := by decide +kernel
theorem dX12_isPair_5 : decode prog_14_method_19_code 5 = .ok (.ifCond .eq 20, 3) := by decide +kernel
theorem dX12_isPair_8 : decode prog_14_method_19_code 8 = .ok (.aload_n 0, 1) := by decide +kernel
theorem dX12_isPair_9 : decode prog_14_method_19_code 9 = .ok (.iload_n 2, 1) := by decide +kernel
theorem dX12_isPair_10 : decode prog_14_method_19_code 10 = .ok (.invokevirtual 356, 3) := by decide +kernel
theorem dX12_isPair_13 : decode prog_14_method_19_code 13 = .ok (.ifCond .eq 12, 3) := by decide +kernel
theorem dX12_isPair_16 : decode prog_14_method_19_code 16 = .ok (.iload_n 1, 1) := by decide +kernel
theorem dX12_isPair_17 : decode prog_14_method_19_code 17 = .ok (.iload_n 2, 1) := by decide +kernel
theorem dX12_isPair_18 : decode prog_14_method_19_code 18 = .ok (.if_icmp .eq 7, 3) := by decide +kernel
theorem dX12_isPair_21 : decode prog_14_method_19_code 21 = .ok (.iconst 1, 1) := by decide +kernel
theorem dX12_isPair_22 : decode prog_14_method_19_code 22 = .ok (.goto 4, 3) := by decide +kernel
theorem dX12_isPair_25 : decode prog_14_method_19_code 25 = .ok (.iconst 0, 1) := by decide +kernel
theorem dX12_isPair_26 : decode prog_14_method_19_code 26 = .ok (.ireturn, 1) := by decide +kernel
noncomputable def F_X12_isPair (v1 : Int) (v2 : Int) (M : bM) : Option (Int) :=
  b_bind (F_X12_isPerson v1 M) (fun x1 => if x1 = 0 then (some 0) else (b_bind (F_X12_isPerson v2 M) (fun x3 => if x3 = 0 then (some 0) else (if v1 = v2 then (some 0) else (some 1)))))
theorem t_X12_isPair {l : Launch} {E : bE} {Q : Int → Prop} {v1 : Int} {v2 : Int} {M : bM} (h : b_wp (F_X12_isPair v1 v2 M) (Q)) : V l E xX12_isPair (0, 0) 0 [(0, bR 11), (1, bI v1), (2, bI v2)] [] M (b_pIp M Q) := by
  unfold F_X12_isPair at h
  refine v_aload_n (f := 0) 0 rfl dX12_isPair_0 ?_
  refine v_iload_n (f := 1) 1 rfl dX12_isPair_1 ?_
  refine v_cVIp (nA := 1) (As := [bI _]) (ix := 356) (cf_X12_isPerson (b_wp_b h)) rfl kd_11 rfl rfl wc_X12_isPerson wm_12_356 wi_X12_isPerson ws_X12_isPerson wn_12 ⟨by decide, by decide, by decide⟩ rfl ⟨by decide, by decide⟩ ⟨by decide, by decide⟩ (Nat.le_of_ble_eq_true rfl) dX12_isPair_2 (fun x1 h => ?_)
  refine v_if_eq (tgt := 25) dX12_isPair_5 (by decide) (fun c2 => ?_) (fun c2 => ?_)
  · replace h := b_wp_t c2 h
    refine v_iconst ⟨by decide, by decide⟩ dX12_isPair_25 ?_
    refine v_zreturn rfl (Or.inl rfl) dX12_isPair_26 ⟨by decide, by decide⟩ ?_
    exact ⟨_, rfl, rfl, h⟩
  · replace h := b_wp_f c2 h
    refine v_aload_n (f := 0) 0 rfl dX12_isPair_8 ?_
    refine v_iload_n (f := 2) 2 rfl dX12_isPair_9 ?_
    refine v_cVIp (nA := 1) (As := [bI _]) (ix := 356) (cf_X12_isPerson (b_wp_b h)) rfl kd_11 rfl rfl wc_X12_isPerson wm_12_356 wi_X12_isPerson ws_X12_isPerson wn_12 ⟨by decide, by decide, by decide⟩ rfl ⟨by decide, by decide⟩ ⟨by decide, by decide⟩ (Nat.le_of_ble_eq_true rfl) dX12_isPair_10 (fun x3 h => ?_)
    refine v_if_eq (tgt := 25) dX12_isPair_13 (by decide) (fun c4 => ?_) (fun c4 => ?_)
    · replace h := b_wp_t c4 h
      refine v_iconst ⟨by decide, by decide⟩ dX12_isPair_25 ?_
      refine v_zreturn rfl (Or.inl rfl) dX12_isPair_26 ⟨by decide, by decide⟩ ?_
      exact ⟨_, rfl, rfl, h⟩
    · replace h := b_wp_f c4 h
      refine v_iload_n (f := 1) 1 rfl dX12_isPair_16 ?_
      refine v_iload_n (f := 2) 2 rfl dX12_isPair_17 ?_
      refine v_icmp_eq (tgt := 25) dX12_isPair_18 (by decide) (fun c5 => ?_) (fun c5 => ?_)
      · replace h := b_wp_t c5 h
        refine v_iconst ⟨by decide, by decide⟩ dX12_isPair_25 ?_
        refine v_zreturn rfl (Or.inl rfl) dX12_isPair_26 ⟨by decide, by decide⟩ ?_
        exact ⟨_, rfl, rfl, h⟩
      · replace h := b_wp_f c5 h
        refine v_iconst ⟨by decide, by decide⟩ dX12_isPair_21 ?_
        refine v_goto (tgt := 26) dX12_isPair_22 (by decide) ?_
        refine v_zreturn rfl (Or.inr rfl) dX12_isPair_26 ⟨by decide, by decide⟩ ?_
        exact ⟨_, rfl, rfl, h⟩
theorem cf_X12_isPair {l : Launch} {E : bE} {M : bM} {v1 : Int} {v2 : Int} {Q : Int → Prop} (h : b_wp (F_X12_isPair v1 v2 M) Q) : b_C l E xX12_isPair yX12_isPair [bR 11, bI v1, bI v2] M (b_pIp M Q) := b_met (by decide) ⟨rfl, rfl⟩ (Nat.le_of_ble_eq_true rfl) (fun _ _ => t_X12_isPair h)
abbrev xX12_same : bX := ("BurntHallModel", prog_14_method_20_code, 3, (Option.some Jvm.ClassFile.FieldType.int), b_rm 4 0 0, 0, "same")
abbrev yX12_same : MethodName := ⟨"BurntHallModel", "same", "(II)I"⟩
theorem dX12_same_0 : decode prog_14_method_20_code 0 = .ok (.aload_n 0, 1) := by decide +kernel
theorem dX12_same_1 : decode prog_14_method_20_code 1 = .ok (.iload_n 1, 1) := by decide +kernel
theorem dX12_same_2 : decode prog_14_method_20_code 2 = .ok (.iload_n 2, 1) := by decide +kernel
theorem dX12_same_3 : decode prog_14_method_20_code 3 = .ok (.invokevirtual 363, 3) := by decide +kernel
theorem dX12_same_6 : decode prog_14_method_20_code 6 = .ok (.ifCond .eq 13, 3) := by decide +kernel
theorem dX12_same_9 : decode prog_14_method_20_code 9 = .ok (.aload_n 0, 1) := by decide +kernel
theorem dX12_same_10 : decode prog_14_method_20_code 10 = .ok (.iconst 1, 1) := by decide +kernel
theorem dX12_same_11 : decode prog_14_method_20_code 11 = .ok (.iload_n 1, 1) := by decide +kernel
theorem dX12_same_12 : decode prog_14_method_20_code 12 = .ok (.iload_n 2, 1) := by decide +kernel
theorem dX12_same_13 : decode prog_14_method_20_code 13 = .ok (.invokevirtual 359, 3) := by decide +kernel
theorem dX12_same_16 : decode prog_14_method_20_code 16 = .ok (.goto 5, 3) := by decide +kernel
theorem dX12_same_19 : decode prog_14_method_20_code 19 = .ok (.bipush (-2), 2) := by decide +kernel
theorem dX12_same_21 : decode prog_14_method_20_code 21 = .ok (.ireturn, 1) := by decide +kernel
noncomputable def F_X12_same (v1 : Int) (v2 : Int) (M : bM) : Option (Int × bM) :=
  b_bind (F_X12_isPair v1 v2 M) (fun x1 => if x1 = 0 then (some ((-2), M)) else (b_bind (F_X12_tell 1 v1 v2 M) (fun t => b_two t (fun x3 M4 => some (x3, M4)))))
theorem t_X12_same {l : Launch} {E : bE} {Q : (Int × bM) → Prop} {v1 : Int} {v2 : Int} {M : bM} (h : b_wp (F_X12_same v1 v2 M) (Q)) : V l E xX12_same (0, 0) 0 [(0, bR 11), (1, bI v1), (2, bI v2)] [] M (b_pI Q) := by
  unfold F_X12_same at h
  refine v_aload_n (f := 0) 0 rfl dX12_same_0 ?_
  refine v_iload_n (f := 1) 1 rfl dX12_same_1 ?_
  refine v_iload_n (f := 2) 2 rfl dX12_same_2 ?_
  refine v_cVIp (nA := 2) (As := [bI _, bI _]) (ix := 363) (cf_X12_isPair (b_wp_b h)) rfl kd_11 rfl rfl wc_X12_isPair wm_12_363 wi_X12_isPair ws_X12_isPair wn_12 ⟨by decide, by decide, by decide⟩ rfl ⟨by decide, by decide⟩ ⟨by decide, by decide⟩ (Nat.le_of_ble_eq_true rfl) dX12_same_3 (fun x1 h => ?_)
  refine v_if_eq (tgt := 19) dX12_same_6 (by decide) (fun c2 => ?_) (fun c2 => ?_)
  · replace h := b_wp_t c2 h
    refine v_bipush ⟨by decide, by decide⟩ (by decide) dX12_same_19 ?_
    refine v_ireturn rfl dX12_same_21 ⟨by decide, by decide⟩ ?_
    exact ⟨_, rfl, h⟩
  · replace h := b_wp_f c2 h
    refine v_aload_n (f := 0) 0 rfl dX12_same_9 ?_
    refine v_iconst ⟨by decide, by decide⟩ dX12_same_10 ?_
    refine v_iload_n (f := 1) 1 rfl dX12_same_11 ?_
    refine v_iload_n (f := 2) 2 rfl dX12_same_12 ?_
    refine v_cVI (nA := 3) (As := [bI _, bI _, bI _]) (ix := 359) (cf_X12_tell (b_wp_b h)) rfl kd_11 rfl rfl wc_X12_tell wm_12_359 wi_X12_tell ws_X12_tell wn_12 ⟨by decide, by decide, by decide⟩ rfl ⟨by decide, by decide⟩ ⟨by decide, by decide⟩ (Nat.le_of_ble_eq_true rfl) dX12_same_13 (fun x3 M4 h => ?_)
    replace h := b_wp_two h
    refine v_goto (tgt := 21) dX12_same_16 (by decide) ?_
    refine v_ireturn rfl dX12_same_21 ⟨by decide, by decide⟩ ?_
    exact ⟨_, rfl, h⟩
theorem cf_X12_same {l : Launch} {E : bE} {M : bM} {v1 : Int} {v2 : Int} {Q : (Int × bM) → Prop} (h : b_wp (F_X12_same v1 v2 M) Q) : b_C l E xX12_same yX12_same [bR 11, bI v1, bI v2] M (b_pI Q) := b_met (by decide) ⟨rfl, rfl⟩ (Nat.le_of_ble_eq_true rfl) (fun _ _ => t_X12_same h)
abbrev xX12_apart : bX := ("BurntHallModel", prog_14_method_21_code, 3, (Option.some Jvm.ClassFile.FieldType.int), b_rm 4 0 0, 0, "apart")
abbrev yX12_apart : MethodName := ⟨"BurntHallModel", "apart", "(II)I"⟩
theorem dX12_apart_0 : decode prog_14_method_21_code 0 = .ok (.aload_n 0, 1) := by decide +kernel
theorem dX12_apart_1 : decode prog_14_method_21_code 1 = .ok (.iload_n 1, 1) := by decide +kernel
theorem dX12_apart_2 : decode prog_14_method_21_code 2 = .ok (.iload_n 2, 1) := by decide +kernel
theorem dX12_apart_3 : decode prog_14_method_21_code 3 = .ok (.invokevirtual 363, 3) := by decide +kernel
theorem dX12_apart_6 : decode prog_14_method_21_code 6 = .ok (.ifCond .eq 13, 3) := by decide +kernel
theorem dX12_apart_9 : decode prog_14_method_21_code 9 = .ok (.aload_n 0, 1) := by decide +kernel
theorem dX12_apart_10 : decode prog_14_method_21_code 10 = .ok (.iconst 2, 1) := by decide +kernel
theorem dX12_apart_11 : decode prog_14_method_21_code 11 = .ok (.iload_n 1, 1) := by decide +kernel
theorem dX12_apart_12 : decode prog_14_method_21_code 12 = .ok (.iload_n 2, 1) := by decide +kernel
theorem dX12_apart_13 : decode prog_14_method_21_code 13 = .ok (.invokevirtual 359, 3) := by decide +kernel
theorem dX12_apart_16 : decode prog_14_method_21_code 16 = .ok (.goto 5, 3) := by decide +kernel
theorem dX12_apart_19 : decode prog_14_method_21_code 19 = .ok (.bipush (-2), 2) := by decide +kernel
theorem dX12_apart_21 : decode prog_14_method_21_code 21 = .ok (.ireturn, 1) := by decide +kernel
noncomputable def F_X12_apart (v1 : Int) (v2 : Int) (M : bM) : Option (Int × bM) :=
  b_bind (F_X12_isPair v1 v2 M) (fun x1 => if x1 = 0 then (some ((-2), M)) else (b_bind (F_X12_tell 2 v1 v2 M) (fun t => b_two t (fun x3 M4 => some (x3, M4)))))
theorem t_X12_apart {l : Launch} {E : bE} {Q : (Int × bM) → Prop} {v1 : Int} {v2 : Int} {M : bM} (h : b_wp (F_X12_apart v1 v2 M) (Q)) : V l E xX12_apart (0, 0) 0 [(0, bR 11), (1, bI v1), (2, bI v2)] [] M (b_pI Q) := by
  unfold F_X12_apart at h
  refine v_aload_n (f := 0) 0 rfl dX12_apart_0 ?_
  refine v_iload_n (f := 1) 1 rfl dX12_apart_1 ?_
  refine v_iload_n (f := 2) 2 rfl dX12_apart_2 ?_
  refine v_cVIp (nA := 2) (As := [bI _, bI _]) (ix := 363) (cf_X12_isPair (b_wp_b h)) rfl kd_11 rfl rfl wc_X12_isPair wm_12_363 wi_X12_isPair ws_X12_isPair wn_12 ⟨by decide, by decide, by decide⟩ rfl ⟨by decide, by decide⟩ ⟨by decide, by decide⟩ (Nat.le_of_ble_eq_true rfl) dX12_apart_3 (fun x1 h => ?_)
  refine v_if_eq (tgt := 19) dX12_apart_6 (by decide) (fun c2 => ?_) (fun c2 => ?_)
  · replace h := b_wp_t c2 h
    refine v_bipush ⟨by decide, by decide⟩ (by decide) dX12_apart_19 ?_
    refine v_ireturn rfl dX12_apart_21 ⟨by decide, by decide⟩ ?_
    exact ⟨_, rfl, h⟩
  · replace h := b_wp_f c2 h
    refine v_aload_n (f := 0) 0 rfl dX12_apart_9 ?_
    refine v_iconst ⟨by decide, by decide⟩ dX12_apart_10 ?_
    refine v_iload_n (f := 1) 1 rfl dX12_apart_11 ?_
    refine v_iload_n (f := 2) 2 rfl dX12_apart_12 ?_
    refine v_cVI (nA := 3) (As := [bI _, bI _, bI _]) (ix := 359) (cf_X12_tell (b_wp_b h)) rfl kd_11 rfl rfl wc_X12_tell wm_12_359 wi_X12_tell ws_X12_tell wn_12 ⟨by decide, by decide, by decide⟩ rfl ⟨by decide, by decide⟩ ⟨by decide, by decide⟩ (Nat.le_of_ble_eq_true rfl) dX12_apart_13 (fun x3 M4 h => ?_)
    replace h := b_wp_two h
    refine v_goto (tgt := 21) dX12_apart_16 (by decide) ?_
    refine v_ireturn rfl dX12_apart_21 ⟨by decide, by decide⟩ ?_
    exact ⟨_, rfl, h⟩
theorem cf_X12_apart {l : Launch} {E : bE} {M : bM} {v1 : Int} {v2 : Int} {Q : (Int × bM) → Prop} (h : b_wp (F_X12_apart v1 v2 M) Q) : b_C l E xX12_apart yX12_apart [bR 11, bI v1, bI v2] M (b_pI Q) := b_met (by decide) ⟨rfl, rfl⟩ (Nat.le_of_ble_eq_true rfl) (fun _ _ => t_X12_apart h)
abbrev xX12_child : bX := ("BurntHallModel", prog_14_method_22_code, 3, (Option.some Jvm.ClassFile.FieldType.int), b_rm 4 0 0, 0, "child")
abbrev yX12_child : MethodName := ⟨"BurntHallModel", "child", "(II)I"⟩
theorem dX12_child_0 : decode prog_14_method_22_code 0 = .ok (.aload_n 0, 1) := by decide +kernel
theorem dX12_child_1 : decode prog_14_method_22_code 1 = .ok (.iload_n 1, 1) := by decide +kernel
theorem dX12_child_2 : decode prog_14_method_22_code 2 = .ok (.iload_n 2, 1) := by decide +kernel
theorem dX12_child_3 : decode prog_14_method_22_code 3 = .ok (.invokevirtual 363, 3) := by decide +kernel
theorem dX12_child_6 : decode prog_14_method_22_code 6 = .ok (.ifCond .eq 13, 3) := by decide +kernel
theorem dX12_child_9 : decode prog_14_method_22_code 9 = .ok (.aload_n 0, 1) := by decide +kernel
theorem dX12_child_10 : decode prog_14_method_22_code 10 = .ok (.iconst 3, 1) := by decide +kernel
theorem dX12_child_11 : decode prog_14_method_22_code 11 = .ok (.iload_n 1, 1) := by decide +kernel
theorem dX12_child_12 : decode prog_14_method_22_code 12 = .ok (.iload_n 2, 1) := by decide +kernel
theorem dX12_child_13 : decode prog_14_method_22_code 13 = .ok (.invokevirtual 359, 3) := by decide +kernel
theorem dX12_child_16 : decode prog_14_method_22_code 16 = .ok (.goto 5, 3) := by decide +kernel
theorem dX12_child_19 : decode prog_14_method_22_code 19 = .ok (.bipush (-2), 2) := by decide +kernel
theorem dX12_child_21 : decode prog_14_method_22_code 21 = .ok (.ireturn, 1) := by decide +kernel
noncomputable def F_X12_child (v1 : Int) (v2 : Int) (M : bM) : Option (Int × bM) :=
  b_bind (F_X12_isPair v1 v2 M) (fun x1 => if x1 = 0 then (some ((-2), M)) else (b_bind (F_X12_tell 3 v1 v2 M) (fun t => b_two t (fun x3 M4 => some (x3, M4)))))
theorem t_X12_child {l : Launch} {E : bE} {Q : (Int × bM) → Prop} {v1 : Int} {v2 : Int} {M : bM} (h : b_wp (F_X12_child v1 v2 M) (Q)) : V l E xX12_child (0, 0) 0 [(0, bR 11), (1, bI v1), (2, bI v2)] [] M (b_pI Q) := by
  unfold F_X12_child at h
  refine v_aload_n (f := 0) 0 rfl dX12_child_0 ?_
  refine v_iload_n (f := 1) 1 rfl dX12_child_1 ?_
  refine v_iload_n (f := 2) 2 rfl dX12_child_2 ?_
  refine v_cVIp (nA := 2) (As := [bI _, bI _]) (ix := 363) (cf_X12_isPair (b_wp_b h)) rfl kd_11 rfl rfl wc_X12_isPair wm_12_363 wi_X12_isPair ws_X12_isPair wn_12 ⟨by decide, by decide, by decide⟩ rfl ⟨by decide, by decide⟩ ⟨by decide, by decide⟩ (Nat.le_of_ble_eq_true rfl) dX12_child_3 (fun x1 h => ?_)
  refine v_if_eq (tgt := 19) dX12_child_6 (by decide) (fun c2 => ?_) (fun c2 => ?_)
  · replace h := b_wp_t c2 h
    refine v_bipush ⟨by decide, by decide⟩ (by decide) dX12_child_19 ?_
    refine v_ireturn rfl dX12_child_21 ⟨by decide, by decide⟩ ?_
    exact ⟨_, rfl, h⟩
  · replace h := b_wp_f c2 h
    refine v_aload_n (f := 0) 0 rfl dX12_child_9 ?_
    refine v_iconst ⟨by decide, by decide⟩ dX12_child_10 ?_
    refine v_iload_n (f := 1) 1 rfl dX12_child_11 ?_
    refine v_iload_n (f := 2) 2 rfl dX12_child_12 ?_
    refine v_cVI (nA := 3) (As := [bI _, bI _, bI _]) (ix := 359) (cf_X12_tell (b_wp_b h)) rfl kd_11 rfl rfl wc_X12_tell wm_12_359 wi_X12_tell ws_X12_tell wn_12 ⟨by decide, by decide, by decide⟩ rfl ⟨by decide, by decide⟩ ⟨by decide, by decide⟩ (Nat.le_of_ble_eq_true rfl) dX12_child_13 (fun x3 M4 h => ?_)
    replace h := b_wp_two h
    refine v_goto (tgt := 21) dX12_child_16 (by decide) ?_
    refine v_ireturn rfl dX12_child_21 ⟨by decide, by decide⟩ ?_
    exact ⟨_, rfl, h⟩
theorem cf_X12_child {l : Launch} {E : bE} {M : bM} {v1 : Int} {v2 : Int} {Q : (Int × bM) → Prop} (h : b_wp (F_X12_child v1 v2 M) Q) : b_C l E xX12_child yX12_child [bR 11, bI v1, bI v2] M (b_pI Q) := b_met (by decide) ⟨rfl, rfl⟩ (Nat.le_of_ble_eq_true rfl) (fun _ _ => t_X12_child h)
abbrev xX12_makeOnes : bX := ("BurntHallModel", prog_14_method_23_code, 8, (Option.none : Option Jvm.ClassFile.FieldType), b_rm 1 0 0, 0, "makeOnes")
abbrev yX12_makeOnes : MethodName := ⟨"BurntHallModel", "makeOnes", "(I)V"⟩
theorem dX12_makeOnes_0 : decode prog_14_method_23_code 0 = .ok (.iconst 0, 1) := by decide +kernel
theorem dX12_makeOnes_1 : decode prog_14_method_23_code 1 = .ok (.istore_n 2, 1) := by decide +kernel
theorem dX12_makeOnes_2 : decode prog_14_method_23_code 2 = .ok (.iload_n 2, 1) := by decide +kernel
theorem dX12_makeOnes_3 : decode prog_14_method_23_code 3 = .ok (.aload_n 0, 1) := by decide +kernel
theorem dX12_makeOnes_4 : decode prog_14_method_23_code 4 = .ok (.getfield 350, 3) := by decide +kernel
theorem dX12_makeOnes_7 : decode prog_14_method_23_code 7 = .ok (.if_icmp .ge 16, 3) := by decide +kernel
theorem dX12_makeOnes_10 : decode prog_14_method_23_code 10 = .ok (.aload_n 0, 1) := by decide +kernel
theorem dX12_makeOnes_11 : decode prog_14_method_23_code 11 = .ok (.getfield 33, 3) := by decide +kernel
theorem dX12_makeOnes_14 : decode prog_14_method_23_code 14 = .ok (.iload_n 2, 1) := by decide +kernel
theorem dX12_makeOnes_15 : decode prog_14_method_23_code 15 = .ok (.iload_n 2, 1) := by decide +kernel
theorem dX12_makeOnes_16 : decode prog_14_method_23_code 16 = .ok (.iastore, 1) := by decide +kernel
theorem dX12_makeOnes_17 : decode prog_14_method_23_code 17 = .ok (.iinc 2 1, 3) := by decide +kernel
theorem dX12_makeOnes_20 : decode prog_14_method_23_code 20 = .ok (.goto (-18), 3) := by decide +kernel
theorem dX12_makeOnes_23 : decode prog_14_method_23_code 23 = .ok (.iconst 1, 1) := by decide +kernel
theorem dX12_makeOnes_24 : decode prog_14_method_23_code 24 = .ok (.istore_n 2, 1) := by decide +kernel
theorem dX12_makeOnes_25 : decode prog_14_method_23_code 25 = .ok (.iload_n 2, 1) := by decide +kernel
theorem dX12_makeOnes_26 : decode prog_14_method_23_code 26 = .ok (.ifCond .eq 152, 3) := by decide +kernel
theorem dX12_makeOnes_29 : decode prog_14_method_23_code 29 = .ok (.iconst 0, 1) := by decide +kernel
theorem dX12_makeOnes_30 : decode prog_14_method_23_code 30 = .ok (.istore_n 2, 1) := by decide +kernel
theorem dX12_makeOnes_31 : decode prog_14_method_23_code 31 = .ok (.iconst 0, 1) := by decide +kernel
theorem dX12_makeOnes_32 : decode prog_14_method_23_code 32 = .ok (.istore_n 3, 1) := by decide +kernel
theorem dX12_makeOnes_33 : decode prog_14_method_23_code 33 = .ok (.iload_n 3, 1) := by decide +kernel
theorem dX12_makeOnes_34 : decode prog_14_method_23_code 34 = .ok (.aload_n 0, 1) := by decide +kernel
theorem dX12_makeOnes_35 : decode prog_14_method_23_code 35 = .ok (.getfield 353, 3) := by decide +kernel
theorem dX12_makeOnes_38 : decode prog_14_method_23_code 38 = .ok (.if_icmp .ge 137, 3) := by decide +kernel
theorem dX12_makeOnes_41 : decode prog_14_method_23_code 41 = .ok (.aload_n 0, 1) := by decide +kernel
theorem dX12_makeOnes_42 : decode prog_14_method_23_code 42 = .ok (.getfield 21, 3) := by decide +kernel
theorem dX12_makeOnes_45 : decode prog_14_method_23_code 45 = .ok (.iload_n 3, 1) := by decide +kernel
theorem dX12_makeOnes_46 : decode prog_14_method_23_code 46 = .ok (.iaload, 1) := by decide +kernel
theorem dX12_makeOnes_47 : decode prog_14_method_23_code 47 = .ok (.iconst 1, 1) := by decide +kernel
theorem dX12_makeOnes_48 : decode prog_14_method_23_code 48 = .ok (.if_icmp .ne 121, 3) := by decide +kernel
theorem dX12_makeOnes_51 : decode prog_14_method_23_code 51 = .ok (.aload_n 0, 1) := by decide +kernel
theorem dX12_makeOnes_52 : decode prog_14_method_23_code 52 = .ok (.getfield 30, 3) := by decide +kernel
theorem dX12_makeOnes_55 : decode prog_14_method_23_code 55 = .ok (.iload_n 3, 1) := by decide +kernel
theorem dX12_makeOnes_56 : decode prog_14_method_23_code 56 = .ok (.iaload, 1) := by decide +kernel
theorem dX12_makeOnes_57 : decode prog_14_method_23_code 57 = .ok (.iload_n 1, 1) := by decide +kernel
theorem dX12_makeOnes_58 : decode prog_14_method_23_code 58 = .ok (.if_icmp .le 6, 3) := by decide +kernel
theorem dX12_makeOnes_61 : decode prog_14_method_23_code 61 = .ok (.goto 108, 3) := by decide +kernel
theorem dX12_makeOnes_64 : decode prog_14_method_23_code 64 = .ok (.aload_n 0, 1) := by decide +kernel
theorem dX12_makeOnes_65 : decode prog_14_method_23_code 65 = .ok (.getfield 33, 3) := by decide +kernel
theorem dX12_makeOnes_68 : decode prog_14_method_23_code 68 = .ok (.aload_n 0, 1) := by decide +kernel
theorem dX12_makeOnes_69 : decode prog_14_method_23_code 69 = .ok (.getfield 24, 3) := by decide +kernel
theorem dX12_makeOnes_72 : decode prog_14_method_23_code 72 = .ok (.iload_n 3, 1) := by decide +kernel
theorem dX12_makeOnes_73 : decode prog_14_method_23_code 73 = .ok (.iaload, 1) := by decide +kernel
theorem dX12_makeOnes_74 : decode prog_14_method_23_code 74 = .ok (.iaload, 1) := by decide +kernel
theorem dX12_makeOnes_75 : decode prog_14_method_23_code 75 = .ok (.istore 4, 2) := by decide +kernel
theorem dX12_makeOnes_77 : decode prog_14_method_23_code 77 = .ok (.aload_n 0, 1) := by decide +kernel
theorem dX12_makeOnes_78 : decode prog_14_method_23_code 78 = .ok (.getfield 33, 3) := by decide +kernel
theorem dX12_makeOnes_81 : decode prog_14_method_23_code 81 = .ok (.aload_n 0, 1) := by decide +kernel
theorem dX12_makeOnes_82 : decode prog_14_method_23_code 82 = .ok (.getfield 27, 3) := by decide +kernel
theorem dX12_makeOnes_85 : decode prog_14_method_23_code 85 = .ok (.iload_n 3, 1) := by decide +kernel
theorem dX12_makeOnes_86 : decode prog_14_method_23_code 86 = .ok (.iaload, 1) := by decide +kernel
theorem dX12_makeOnes_87 : decode prog_14_method_23_code 87 = .ok (.iaload, 1) := by decide +kernel
theorem dX12_makeOnes_88 : decode prog_14_method_23_code 88 = .ok (.istore 5, 2) := by decide +kernel
theorem dX12_makeOnes_90 : decode prog_14_method_23_code 90 = .ok (.iload 4, 2) := by decide +kernel
theorem dX12_makeOnes_92 : decode prog_14_method_23_code 92 = .ok (.iload 5, 2) := by decide +kernel
theorem dX12_makeOnes_94 : decode prog_14_method_23_code 94 = .ok (.if_icmp .ne 6, 3) := by decide +kernel
theorem dX12_makeOnes_97 : decode prog_14_method_23_code 97 = .ok (.goto 72, 3) := by decide +kernel
theorem dX12_makeOnes_100 : decode prog_14_method_23_code 100 = .ok (.iload 4, 2) := by decide +kernel
theorem dX12_makeOnes_102 : decode prog_14_method_23_code 102 = .ok (.iload 5, 2) := by decide +kernel
theorem dX12_makeOnes_104 : decode prog_14_method_23_code 104 = .ok (.if_icmp .ge 8, 3) := by decide +kernel
theorem dX12_makeOnes_107 : decode prog_14_method_23_code 107 = .ok (.iload 4, 2) := by decide +kernel
theorem dX12_makeOnes_109 : decode prog_14_method_23_code 109 = .ok (.goto 5, 3) := by decide +kernel
theorem dX12_makeOnes_112 : decode prog_14_method_23_code 112 = .ok (.iload 5, 2) := by decide +kernel
theorem dX12_makeOnes_114 : decode prog_14_method_23_code 114 = .ok (.istore 6, 2) := by decide +kernel
theorem dX12_makeOnes_116 : decode prog_14_method_23_code 116 = .ok (.iconst 0, 1) := by decide +kernel
theorem dX12_makeOnes_117 : decode prog_14_method_23_code 117 = .ok (.istore 7, 2) := by decide +kernel
theorem dX12_makeOnes_119 : decode prog_14_method_23_code 119 = .ok (.iload 7, 2) := by decide +kernel
theorem dX12_makeOnes_121 : decode prog_14_method_23_code 121 = .ok (.aload_n 0, 1) := by decide +kernel
theorem dX12_makeOnes_122 : decode prog_14_method_23_code 122 = .ok (.getfield 350, 3) := by decide +kernel
theorem dX12_makeOnes_125 : decode prog_14_method_23_code 125 = .ok (.if_icmp .ge 42, 3) := by decide +kernel
theorem dX12_makeOnes_128 : decode prog_14_method_23_code 128 = .ok (.aload_n 0, 1) := by decide +kernel
theorem dX12_makeOnes_129 : decode prog_14_method_23_code 129 = .ok (.getfield 33, 3) := by decide +kernel
theorem dX12_makeOnes_132 : decode prog_14_method_23_code 132 = .ok (.iload 7, 2) := by decide +kernel
theorem dX12_makeOnes_134 : decode prog_14_method_23_code 134 = .ok (.iaload, 1) := by decide +kernel
theorem dX12_makeOnes_135 : decode prog_14_method_23_code 135 = .ok (.iload 4, 2) := by decide +kernel
theorem dX12_makeOnes_137 : decode prog_14_method_23_code 137 = .ok (.if_icmp .eq 15, 3) := by decide +kernel
theorem dX12_makeOnes_140 : decode prog_14_method_23_code 140 = .ok (.aload_n 0, 1) := by decide +kernel
theorem dX12_makeOnes_141 : decode prog_14_method_23_code 141 = .ok (.getfield 33, 3) := by decide +kernel
theorem dX12_makeOnes_144 : decode prog_14_method_23_code 144 = .ok (.iload 7, 2) := by decide +kernel
theorem dX12_makeOnes_146 : decode prog_14_method_23_code 146 = .ok (.iaload, 1) := by decide +kernel
theorem dX12_makeOnes_147 : decode prog_14_method_23_code 147 = .ok (.iload 5, 2) := by decide +kernel
theorem dX12_makeOnes_149 : decode prog_14_method_23_code 149 = .ok (.if_icmp .ne 12, 3) := by decide +kernel
theorem dX12_makeOnes_152 : decode prog_14_method_23_code 152 = .ok (.aload_n 0, 1) := by decide +kernel
theorem dX12_makeOnes_153 : decode prog_14_method_23_code 153 = .ok (.getfield 33, 3) := by decide +kernel
theorem dX12_makeOnes_156 : decode prog_14_method_23_code 156 = .ok (.iload 7, 2) := by decide +kernel
theorem dX12_makeOnes_158 : decode prog_14_method_23_code 158 = .ok (.iload 6, 2) := by decide +kernel
theorem dX12_makeOnes_160 : decode prog_14_method_23_code 160 = .ok (.iastore, 1) := by decide +kernel
theorem dX12_makeOnes_161 : decode prog_14_method_23_code 161 = .ok (.iinc 7 1, 3) := by decide +kernel
theorem dX12_makeOnes_164 : decode prog_14_method_23_code 164 = .ok (.goto (-45), 3) := by decide +kernel
theorem dX12_makeOnes_167 : decode prog_14_method_23_code 167 = .ok (.iconst 1, 1) := by decide +kernel
theorem dX12_makeOnes_168 : decode prog_14_method_23_code 168 = .ok (.istore_n 2, 1) := by decide +kernel
theorem dX12_makeOnes_169 : decode prog_14_method_23_code 169 = .ok (.iinc 3 1, 3) := by decide +kernel
theorem dX12_makeOnes_172 : decode prog_14_method_23_code 172 = .ok (.goto (-139), 3) := by decide +kernel
theorem dX12_makeOnes_175 : decode prog_14_method_23_code 175 = .ok (.goto (-150), 3) := by decide +kernel
theorem dX12_makeOnes_178 : decode prog_14_method_23_code 178 = .ok (.return_, 1) := by decide +kernel
abbrev A_X12_makeOnes_2 (l : Launch) (E : bE) (Q : bM → Prop) (v1 : Int) : (Int × bM) → Prop := (fun t : Int × bM => V l E xX12_makeOnes (0, 0) 2 [(0, bR 11), (1, bI v1), (2, bI (t.1))] [] t.2 (b_pV Q))
abbrev X_X12_makeOnes_2 (l : Launch) (E : bE) (Q : bM → Prop) (v1 : Int) : (bM) → Prop := (fun t : bM => V l E xX12_makeOnes (0, 0) 23 [(0, bR 11), (1, bI v1)] [] t (b_pV Q))
noncomputable def F_X12_makeOnes_s2 (v1 : Int) (v2 : Int) (M : bM) : Option ((Int × bM) ⊕ (bM)) :=
  if (M 11 12) ≤ v2 then (some (.inr (M))) else (b_g (0 ≤ v2 ∧ v2 < 80) (b_let (b_up M 168 v2 v2) (fun M3 => b_g (b_i32 (v2 + 1)) (some (.inl ((v2 + 1), M3))))))
theorem t_X12_makeOnes_s2 {l : Launch} {E : bE} {Q : bM → Prop} {v1 : Int} {v2 : Int} {M : bM} (h : b_wp (F_X12_makeOnes_s2 v1 v2 M) (Sum.elim (A_X12_makeOnes_2 l E Q v1) (X_X12_makeOnes_2 l E Q v1))) : V l E xX12_makeOnes (0, 0) 2 [(0, bR 11), (1, bI v1), (2, bI v2)] [] M (b_pV Q) := by
  unfold F_X12_makeOnes_s2 at h
  refine v_iload_n (f := 2) 2 rfl dX12_makeOnes_2 ?_
  refine v_aload_n (f := 0) 0 rfl dX12_makeOnes_3 ?_
  refine v_getI (kf := 12) (kz := 12) rfl kd_11 rfl ⟨by decide, by decide⟩ rfl wf_12_350 dX12_makeOnes_4 ?_
  refine v_icmp_ge (tgt := 23) dX12_makeOnes_7 (by decide) (fun c1 => ?_) (fun c1 => ?_)
  · replace h := b_wp_t c1 h
    refine v_sub (ls2 := [(0, bR _), (1, bI _)]) [0, 1] rfl ?_
    exact h
  · replace h := b_wp_f c1 h
    obtain ⟨g2, h⟩ := b_wp_g h
    refine v_aload_n (f := 0) 0 rfl dX12_makeOnes_10 ?_
    refine v_getR (kf := 19) (kz := 19) rfl kd_11 rfl ⟨by decide, by decide⟩ rfl wf_12_33 dX12_makeOnes_11 ?_
    refine v_iload_n (f := 2) 2 rfl dX12_makeOnes_14 ?_
    refine v_iload_n (f := 2) 2 rfl dX12_makeOnes_15 ?_
    refine v_iastore kd_168 g2 (by decide) dX12_makeOnes_16 ?_
    replace h := b_wp_l h
    obtain ⟨g4, h⟩ := b_wp_g h
    refine v_iincN (ls' := [(2, bI _), (0, bR _), (1, bI _)]) 2 rfl (by decide) g4 dX12_makeOnes_17 rfl ?_
    refine v_goto (tgt := 2) dX12_makeOnes_20 (by decide) ?_
    refine v_sub (ls2 := [(0, bR _), (1, bI _), (2, bI _)]) [1, 2, 0] rfl ?_
    exact h
theorem l_X12_makeOnes_2 {l : Launch} {E : bE} {Q : bM → Prop} {v1 : Int} {s : Int × bM} (h : b_wp (b_loop (fun t => F_X12_makeOnes_s2 v1 t.1 t.2) s) (X_X12_makeOnes_2 l E Q v1)) : A_X12_makeOnes_2 l E Q v1 s := b_loop_wp (fun t h => t_X12_makeOnes_s2 h) s h
abbrev A_X12_makeOnes_25 (l : Launch) (E : bE) (Q : bM → Prop) (v1 : Int) : (Int × bM) → Prop := (fun t : Int × bM => V l E xX12_makeOnes (0, 0) 25 [(0, bR 11), (1, bI v1), (2, bI (t.1))] [] t.2 (b_pV Q))
abbrev X_X12_makeOnes_25 (l : Launch) (E : bE) (Q : bM → Prop) (v1 : Int) : (bM) → Prop := (fun t : bM => V l E xX12_makeOnes (0, 0) 178 [] [] t (b_pV Q))
abbrev A_X12_makeOnes_33 (l : Launch) (E : bE) (Q : bM → Prop) (v1 : Int) : (Int × Int × bM) → Prop := (fun t : Int × Int × bM => V l E xX12_makeOnes (0, 0) 33 [(0, bR 11), (1, bI v1), (2, bI (t.1)), (3, bI (t.2.1))] [] t.2.2 (b_pV Q))
abbrev X_X12_makeOnes_33 (l : Launch) (E : bE) (Q : bM → Prop) (v1 : Int) : (Int × bM) → Prop := (fun t : Int × bM => V l E xX12_makeOnes (0, 0) 175 [(0, bR 11), (1, bI v1), (2, bI (t.1))] [] t.2 (b_pV Q))
abbrev A_X12_makeOnes_119 (l : Launch) (E : bE) (Q : bM → Prop) (v1 : Int) (v3 : Int) (v4 : Int) (v5 : Int) (v6 : Int) : (Int × bM) → Prop := (fun t : Int × bM => V l E xX12_makeOnes (0, 0) 119 [(0, bR 11), (1, bI v1), (3, bI v3), (4, bI v4), (5, bI v5), (6, bI v6), (7, bI (t.1))] [] t.2 (b_pV Q))
abbrev X_X12_makeOnes_119 (l : Launch) (E : bE) (Q : bM → Prop) (v1 : Int) (v3 : Int) (v4 : Int) (v5 : Int) (v6 : Int) : (bM) → Prop := (fun t : bM => V l E xX12_makeOnes (0, 0) 167 [(0, bR 11), (1, bI v1), (3, bI v3)] [] t (b_pV Q))
noncomputable def F_X12_makeOnes_b152 (v1 : Int) (v3 : Int) (v4 : Int) (v5 : Int) (v6 : Int) (v7 : Int) (M : bM) : Option ((Int × bM) ⊕ (bM)) :=
  b_g (0 ≤ v7 ∧ v7 < 80) (b_let (b_up M 168 v7 v6) (fun M24 => b_g (b_i32 (v7 + 1)) (some (.inl ((v7 + 1), M24)))))
theorem t_X12_makeOnes_b152 {l : Launch} {E : bE} {Q : bM → Prop} {v1 : Int} {v3 : Int} {v4 : Int} {v5 : Int} {v6 : Int} {v7 : Int} {M : bM} (h : b_wp (F_X12_makeOnes_b152 v1 v3 v4 v5 v6 v7 M) (Sum.elim (A_X12_makeOnes_119 l E Q v1 v3 v4 v5 v6) (X_X12_makeOnes_119 l E Q v1 v3 v4 v5 v6))) : V l E xX12_makeOnes (0, 0) 152 [(0, bR 11), (1, bI v1), (3, bI v3), (4, bI v4), (5, bI v5), (6, bI v6), (7, bI v7)] [] M (b_pV Q) := by
  unfold F_X12_makeOnes_b152 at h
  obtain ⟨g23, h⟩ := b_wp_g h
  refine v_aload_n (f := 0) 0 rfl dX12_makeOnes_152 ?_
  refine v_getR (kf := 19) (kz := 19) rfl kd_11 rfl ⟨by decide, by decide⟩ rfl wf_12_33 dX12_makeOnes_153 ?_
  refine v_iload (i := 7) 6 rfl dX12_makeOnes_156 ?_
  refine v_iload (i := 6) 5 rfl dX12_makeOnes_158 ?_
  refine v_iastore kd_168 g23 (by decide) dX12_makeOnes_160 ?_
  replace h := b_wp_l h
  obtain ⟨g25, h⟩ := b_wp_g h
  refine v_iincN (ls' := [(7, bI _), (0, bR _), (1, bI _), (3, bI _), (4, bI _), (5, bI _), (6, bI _)]) 6 rfl (by decide) g25 dX12_makeOnes_161 rfl ?_
  refine v_goto (tgt := 119) dX12_makeOnes_164 (by decide) ?_
  refine v_sub (ls2 := [(0, bR _), (1, bI _), (3, bI _), (4, bI _), (5, bI _), (6, bI _), (7, bI _)]) [1, 2, 3, 4, 5, 6, 0] rfl ?_
  exact h
noncomputable def F_X12_makeOnes_s119 (v1 : Int) (v3 : Int) (v4 : Int) (v5 : Int) (v6 : Int) (v7 : Int) (M : bM) : Option ((Int × bM) ⊕ (bM)) :=
  if (M 11 12) ≤ v7 then (some (.inr (M))) else (b_g (0 ≤ v7 ∧ v7 < 80) (if (M 168 v7) = v4 then (F_X12_makeOnes_b152 v1 v3 v4 v5 v6 v7 M) else (b_g (0 ≤ v7 ∧ v7 < 80) (if (M 168 v7) = v5 then (F_X12_makeOnes_b152 v1 v3 v4 v5 v6 v7 M) else (b_g (b_i32 (v7 + 1)) (some (.inl ((v7 + 1), M))))))))
theorem t_X12_makeOnes_s119 {l : Launch} {E : bE} {Q : bM → Prop} {v1 : Int} {v3 : Int} {v4 : Int} {v5 : Int} {v6 : Int} {v7 : Int} {M : bM} (h : b_wp (F_X12_makeOnes_s119 v1 v3 v4 v5 v6 v7 M) (Sum.elim (A_X12_makeOnes_119 l E Q v1 v3 v4 v5 v6) (X_X12_makeOnes_119 l E Q v1 v3 v4 v5 v6))) : V l E xX12_makeOnes (0, 0) 119 [(0, bR 11), (1, bI v1), (3, bI v3), (4, bI v4), (5, bI v5), (6, bI v6), (7, bI v7)] [] M (b_pV Q) := by
  unfold F_X12_makeOnes_s119 at h
  refine v_iload (i := 7) 6 rfl dX12_makeOnes_119 ?_
  refine v_aload_n (f := 0) 0 rfl dX12_makeOnes_121 ?_
  refine v_getI (kf := 12) (kz := 12) rfl kd_11 rfl ⟨by decide, by decide⟩ rfl wf_12_350 dX12_makeOnes_122 ?_
  refine v_icmp_ge (tgt := 167) dX12_makeOnes_125 (by decide) (fun c20 => ?_) (fun c20 => ?_)
  · replace h := b_wp_t c20 h
    refine v_sub (ls2 := [(0, bR _), (1, bI _), (3, bI _)]) [0, 1, 2] rfl ?_
    exact h
  · replace h := b_wp_f c20 h
    obtain ⟨g21, h⟩ := b_wp_g h
    refine v_aload_n (f := 0) 0 rfl dX12_makeOnes_128 ?_
    refine v_getR (kf := 19) (kz := 19) rfl kd_11 rfl ⟨by decide, by decide⟩ rfl wf_12_33 dX12_makeOnes_129 ?_
    refine v_iload (i := 7) 6 rfl dX12_makeOnes_132 ?_
    refine v_iaload kd_168 g21 (by decide) dX12_makeOnes_134 ?_
    refine v_iload (i := 4) 3 rfl dX12_makeOnes_135 ?_
    refine v_icmp_eq (tgt := 152) dX12_makeOnes_137 (by decide) (fun c22 => ?_) (fun c22 => ?_)
    · replace h := b_wp_t c22 h
      exact t_X12_makeOnes_b152 h
    · replace h := b_wp_f c22 h
      obtain ⟨g26, h⟩ := b_wp_g h
      refine v_aload_n (f := 0) 0 rfl dX12_makeOnes_140 ?_
      refine v_getR (kf := 19) (kz := 19) rfl kd_11 rfl ⟨by decide, by decide⟩ rfl wf_12_33 dX12_makeOnes_141 ?_
      refine v_iload (i := 7) 6 rfl dX12_makeOnes_144 ?_
      refine v_iaload kd_168 g26 (by decide) dX12_makeOnes_146 ?_
      refine v_iload (i := 5) 4 rfl dX12_makeOnes_147 ?_
      refine v_icmp_ne (tgt := 161) dX12_makeOnes_149 (by decide) (fun c27 => ?_) (fun c27 => ?_)
      · replace h := b_wp_f c27 h
        obtain ⟨g28, h⟩ := b_wp_g h
        refine v_iincN (ls' := [(7, bI _), (0, bR _), (1, bI _), (3, bI _), (4, bI _), (5, bI _), (6, bI _)]) 6 rfl (by decide) g28 dX12_makeOnes_161 rfl ?_
        refine v_goto (tgt := 119) dX12_makeOnes_164 (by decide) ?_
        refine v_sub (ls2 := [(0, bR _), (1, bI _), (3, bI _), (4, bI _), (5, bI _), (6, bI _), (7, bI _)]) [1, 2, 3, 4, 5, 6, 0] rfl ?_
        exact h
      · replace h := b_wp_t c27 h
        exact t_X12_makeOnes_b152 h
theorem l_X12_makeOnes_119 {l : Launch} {E : bE} {Q : bM → Prop} {v1 : Int} {v3 : Int} {v4 : Int} {v5 : Int} {v6 : Int} {s : Int × bM} (h : b_wp (b_loop (fun t => F_X12_makeOnes_s119 v1 v3 v4 v5 v6 t.1 t.2) s) (X_X12_makeOnes_119 l E Q v1 v3 v4 v5 v6)) : A_X12_makeOnes_119 l E Q v1 v3 v4 v5 v6 s := b_loop_wp (fun t h => t_X12_makeOnes_s119 h) s h
noncomputable def F_X12_makeOnes_b167 (v1 : Int) (v3 : Int) (M : bM) : Option ((Int × Int × bM) ⊕ (Int × bM)) :=
  b_g (b_i32 (v3 + 1)) (some (.inl (1, (v3 + 1), M)))
theorem t_X12_makeOnes_b167 {l : Launch} {E : bE} {Q : bM → Prop} {v1 : Int} {v3 : Int} {M : bM} (h : b_wp (F_X12_makeOnes_b167 v1 v3 M) (Sum.elim (A_X12_makeOnes_33 l E Q v1) (X_X12_makeOnes_33 l E Q v1))) : V l E xX12_makeOnes (0, 0) 167 [(0, bR 11), (1, bI v1), (3, bI v3)] [] M (b_pV Q) := by
  unfold F_X12_makeOnes_b167 at h
  obtain ⟨g29, h⟩ := b_wp_g h
  refine v_iconst ⟨by decide, by decide⟩ dX12_makeOnes_167 ?_
  refine v_istore_n (g := 2) (i := 2) (ls' := [(2, bI _), (0, bR _), (1, bI _), (3, bI _)]) rfl (by decide) dX12_makeOnes_168 rfl ?_
  refine v_iincN (ls' := [(3, bI _), (2, bI _), (0, bR _), (1, bI _)]) 3 rfl (by decide) g29 dX12_makeOnes_169 rfl ?_
  refine v_goto (tgt := 33) dX12_makeOnes_172 (by decide) ?_
  refine v_sub (ls2 := [(0, bR _), (1, bI _), (2, bI _), (3, bI _)]) [2, 3, 1, 0] rfl ?_
  exact h
noncomputable def F_X12_makeOnes_b114 (v1 : Int) (v3 : Int) (v4 : Int) (v5 : Int) (u0 : Int) (M : bM) : Option ((Int × Int × bM) ⊕ (Int × bM)) :=
  b_bind (b_loop (fun t => F_X12_makeOnes_s119 v1 v3 v4 v5 u0 t.1 t.2) (0, M)) (fun t => F_X12_makeOnes_b167 v1 v3 t)
theorem t_X12_makeOnes_b114 {l : Launch} {E : bE} {Q : bM → Prop} {v1 : Int} {v3 : Int} {v4 : Int} {v5 : Int} {u0 : Int} {M : bM} (h : b_wp (F_X12_makeOnes_b114 v1 v3 v4 v5 u0 M) (Sum.elim (A_X12_makeOnes_33 l E Q v1) (X_X12_makeOnes_33 l E Q v1))) : V l E xX12_makeOnes (0, 0) 114 [(0, bR 11), (1, bI v1), (3, bI v3), (4, bI v4), (5, bI v5)] [bI u0] M (b_pV Q) := by
  unfold F_X12_makeOnes_b114 at h
  refine v_istore (i := 6) (ls' := [(6, bI _), (0, bR _), (1, bI _), (3, bI _), (4, bI _), (5, bI _)]) (by decide) dX12_makeOnes_114 rfl ?_
  refine v_iconst ⟨by decide, by decide⟩ dX12_makeOnes_116 ?_
  refine v_istore (i := 7) (ls' := [(7, bI _), (6, bI _), (0, bR _), (1, bI _), (3, bI _), (4, bI _), (5, bI _)]) (by decide) dX12_makeOnes_117 rfl ?_
  refine v_sub (ls2 := [(0, bR _), (1, bI _), (3, bI _), (4, bI _), (5, bI _), (6, bI _), (7, bI _)]) [2, 3, 4, 5, 6, 1, 0] rfl ?_
  refine l_X12_makeOnes_119 (b_wp_m (fun t h => ?_) (b_wp_b h))
  show V l E xX12_makeOnes (0, 0) 167 [(0, bR 11), (1, bI _), (3, bI _)] [] _ (b_pV Q)
  exact t_X12_makeOnes_b167 h
noncomputable def F_X12_makeOnes_s33 (v1 : Int) (v2 : Int) (v3 : Int) (M : bM) : Option ((Int × Int × bM) ⊕ (Int × bM)) :=
  if (M 11 13) ≤ v3 then (some (.inr (v2, M))) else (b_g (0 ≤ v3 ∧ v3 < 400) (if (M 164 v3) = 1 then (b_g (0 ≤ v3 ∧ v3 < 400) (if (M 167 v3) ≤ v1 then (b_g ((0 ≤ v3 ∧ v3 < 400) ∧ (0 ≤ (M 165 v3) ∧ (M 165 v3) < 80)) (b_let ((M 168 (M 165 v3))) (fun y14 => b_g ((0 ≤ v3 ∧ v3 < 400) ∧ (0 ≤ (M 166 v3) ∧ (M 166 v3) < 80)) (b_let ((M 168 (M 166 v3))) (fun y17 => if y14 = y17 then (b_g (b_i32 (v3 + 1)) (some (.inl (v2, (v3 + 1), M)))) else (if y17 ≤ y14 then (F_X12_makeOnes_b114 v1 v3 y14 y17 y17 M) else (F_X12_makeOnes_b114 v1 v3 y14 y17 y14 M))))))) else (b_g (b_i32 (v3 + 1)) (some (.inl (v2, (v3 + 1), M)))))) else (b_g (b_i32 (v3 + 1)) (some (.inl (v2, (v3 + 1), M))))))
theorem t_X12_makeOnes_s33 {l : Launch} {E : bE} {Q : bM → Prop} {v1 : Int} {v2 : Int} {v3 : Int} {M : bM} (h : b_wp (F_X12_makeOnes_s33 v1 v2 v3 M) (Sum.elim (A_X12_makeOnes_33 l E Q v1) (X_X12_makeOnes_33 l E Q v1))) : V l E xX12_makeOnes (0, 0) 33 [(0, bR 11), (1, bI v1), (2, bI v2), (3, bI v3)] [] M (b_pV Q) := by
  unfold F_X12_makeOnes_s33 at h
  refine v_iload_n (f := 3) 3 rfl dX12_makeOnes_33 ?_
  refine v_aload_n (f := 0) 0 rfl dX12_makeOnes_34 ?_
  refine v_getI (kf := 13) (kz := 13) rfl kd_11 rfl ⟨by decide, by decide⟩ rfl wf_12_353 dX12_makeOnes_35 ?_
  refine v_icmp_ge (tgt := 175) dX12_makeOnes_38 (by decide) (fun c6 => ?_) (fun c6 => ?_)
  · replace h := b_wp_t c6 h
    refine v_sub (ls2 := [(0, bR _), (1, bI _), (2, bI _)]) [0, 1, 2] rfl ?_
    exact h
  · replace h := b_wp_f c6 h
    obtain ⟨g7, h⟩ := b_wp_g h
    refine v_aload_n (f := 0) 0 rfl dX12_makeOnes_41 ?_
    refine v_getR (kf := 15) (kz := 15) rfl kd_11 rfl ⟨by decide, by decide⟩ rfl wf_12_21 dX12_makeOnes_42 ?_
    refine v_iload_n (f := 3) 3 rfl dX12_makeOnes_45 ?_
    refine v_iaload kd_164 g7 (by decide) dX12_makeOnes_46 ?_
    refine v_iconst ⟨by decide, by decide⟩ dX12_makeOnes_47 ?_
    refine v_icmp_ne (tgt := 169) dX12_makeOnes_48 (by decide) (fun c8 => ?_) (fun c8 => ?_)
    · replace h := b_wp_f c8 h
      obtain ⟨g9, h⟩ := b_wp_g h
      refine v_iincN (ls' := [(3, bI _), (0, bR _), (1, bI _), (2, bI _)]) 3 rfl (by decide) g9 dX12_makeOnes_169 rfl ?_
      refine v_goto (tgt := 33) dX12_makeOnes_172 (by decide) ?_
      refine v_sub (ls2 := [(0, bR _), (1, bI _), (2, bI _), (3, bI _)]) [1, 2, 3, 0] rfl ?_
      exact h
    · replace h := b_wp_t c8 h
      obtain ⟨g10, h⟩ := b_wp_g h
      refine v_aload_n (f := 0) 0 rfl dX12_makeOnes_51 ?_
      refine v_getR (kf := 18) (kz := 18) rfl kd_11 rfl ⟨by decide, by decide⟩ rfl wf_12_30 dX12_makeOnes_52 ?_
      refine v_iload_n (f := 3) 3 rfl dX12_makeOnes_55 ?_
      refine v_iaload kd_167 g10 (by decide) dX12_makeOnes_56 ?_
      refine v_iload_n (f := 1) 1 rfl dX12_makeOnes_57 ?_
      refine v_icmp_le (tgt := 64) dX12_makeOnes_58 (by decide) (fun c11 => ?_) (fun c11 => ?_)
      · replace h := b_wp_t c11 h
        obtain ⟨⟨g12, g13⟩, h⟩ := b_wp_g h
        refine v_aload_n (f := 0) 0 rfl dX12_makeOnes_64 ?_
        refine v_getR (kf := 19) (kz := 19) rfl kd_11 rfl ⟨by decide, by decide⟩ rfl wf_12_33 dX12_makeOnes_65 ?_
        refine v_aload_n (f := 0) 0 rfl dX12_makeOnes_68 ?_
        refine v_getR (kf := 16) (kz := 16) rfl kd_11 rfl ⟨by decide, by decide⟩ rfl wf_12_24 dX12_makeOnes_69 ?_
        refine v_iload_n (f := 3) 3 rfl dX12_makeOnes_72 ?_
        refine v_iaload kd_165 g12 (by decide) dX12_makeOnes_73 ?_
        refine v_iaload kd_168 g13 (by decide) dX12_makeOnes_74 ?_
        replace h := b_wp_l h
        obtain ⟨⟨g15, g16⟩, h⟩ := b_wp_g h
        refine v_istore (i := 4) (ls' := [(4, bI _), (0, bR _), (1, bI _), (2, bI _), (3, bI _)]) (by decide) dX12_makeOnes_75 rfl ?_
        refine v_aload_n (f := 0) 1 rfl dX12_makeOnes_77 ?_
        refine v_getR (kf := 19) (kz := 19) rfl kd_11 rfl ⟨by decide, by decide⟩ rfl wf_12_33 dX12_makeOnes_78 ?_
        refine v_aload_n (f := 0) 1 rfl dX12_makeOnes_81 ?_
        refine v_getR (kf := 17) (kz := 17) rfl kd_11 rfl ⟨by decide, by decide⟩ rfl wf_12_27 dX12_makeOnes_82 ?_
        refine v_iload_n (f := 3) 4 rfl dX12_makeOnes_85 ?_
        refine v_iaload kd_166 g15 (by decide) dX12_makeOnes_86 ?_
        refine v_iaload kd_168 g16 (by decide) dX12_makeOnes_87 ?_
        replace h := b_wp_l h
        refine v_istore (i := 5) (ls' := [(5, bI _), (4, bI _), (0, bR _), (1, bI _), (2, bI _), (3, bI _)]) (by decide) dX12_makeOnes_88 rfl ?_
        refine v_iload (i := 4) 1 rfl dX12_makeOnes_90 ?_
        refine v_iload (i := 5) 0 rfl dX12_makeOnes_92 ?_
        refine v_icmp_ne (tgt := 100) dX12_makeOnes_94 (by decide) (fun c18 => ?_) (fun c18 => ?_)
        · replace h := b_wp_f c18 h
          refine v_iload (i := 4) 1 rfl dX12_makeOnes_100 ?_
          refine v_iload (i := 5) 0 rfl dX12_makeOnes_102 ?_
          refine v_icmp_ge (tgt := 112) dX12_makeOnes_104 (by decide) (fun c19 => ?_) (fun c19 => ?_)
          · replace h := b_wp_t c19 h
            refine v_iload (i := 5) 0 rfl dX12_makeOnes_112 ?_
            refine v_sub (ls2 := [(0, bR _), (1, bI _), (3, bI _), (4, bI _), (5, bI _)]) [2, 3, 5, 1, 0] rfl ?_
            exact t_X12_makeOnes_b114 h
          · replace h := b_wp_f c19 h
            refine v_iload (i := 4) 1 rfl dX12_makeOnes_107 ?_
            refine v_goto (tgt := 114) dX12_makeOnes_109 (by decide) ?_
            refine v_sub (ls2 := [(0, bR _), (1, bI _), (3, bI _), (4, bI _), (5, bI _)]) [2, 3, 5, 1, 0] rfl ?_
            exact t_X12_makeOnes_b114 h
        · replace h := b_wp_t c18 h
          obtain ⟨g30, h⟩ := b_wp_g h
          refine v_goto (tgt := 169) dX12_makeOnes_97 (by decide) ?_
          refine v_iincN (ls' := [(3, bI _), (5, bI _), (4, bI _), (0, bR _), (1, bI _), (2, bI _)]) 5 rfl (by decide) g30 dX12_makeOnes_169 rfl ?_
          refine v_goto (tgt := 33) dX12_makeOnes_172 (by decide) ?_
          refine v_sub (ls2 := [(0, bR _), (1, bI _), (2, bI _), (3, bI _)]) [3, 4, 5, 0] rfl ?_
          exact h
      · replace h := b_wp_f c11 h
        obtain ⟨g31, h⟩ := b_wp_g h
        refine v_goto (tgt := 169) dX12_makeOnes_61 (by decide) ?_
        refine v_iincN (ls' := [(3, bI _), (0, bR _), (1, bI _), (2, bI _)]) 3 rfl (by decide) g31 dX12_makeOnes_169 rfl ?_
        refine v_goto (tgt := 33) dX12_makeOnes_172 (by decide) ?_
        refine v_sub (ls2 := [(0, bR _), (1, bI _), (2, bI _), (3, bI _)]) [1, 2, 3, 0] rfl ?_
        exact h
theorem l_X12_makeOnes_33 {l : Launch} {E : bE} {Q : bM → Prop} {v1 : Int} {s : Int × Int × bM} (h : b_wp (b_loop (fun t => F_X12_makeOnes_s33 v1 t.1 t.2.1 t.2.2) s) (X_X12_makeOnes_33 l E Q v1)) : A_X12_makeOnes_33 l E Q v1 s := b_loop_wp (fun t h => t_X12_makeOnes_s33 h) s h
noncomputable def F_X12_makeOnes_b175 (v1 : Int) (v2 : Int) (M : bM) : Option ((Int × bM) ⊕ (bM)) :=
  some (.inl (v2, M))
theorem t_X12_makeOnes_b175 {l : Launch} {E : bE} {Q : bM → Prop} {v1 : Int} {v2 : Int} {M : bM} (h : b_wp (F_X12_makeOnes_b175 v1 v2 M) (Sum.elim (A_X12_makeOnes_25 l E Q v1) (X_X12_makeOnes_25 l E Q v1))) : V l E xX12_makeOnes (0, 0) 175 [(0, bR 11), (1, bI v1), (2, bI v2)] [] M (b_pV Q) := by
  unfold F_X12_makeOnes_b175 at h
  refine v_goto (tgt := 25) dX12_makeOnes_175 (by decide) ?_
  exact h
noncomputable def F_X12_makeOnes_s25 (v1 : Int) (v2 : Int) (M : bM) : Option ((Int × bM) ⊕ (bM)) :=
  if v2 = 0 then (some (.inr (M))) else (b_bind (b_loop (fun t => F_X12_makeOnes_s33 v1 t.1 t.2.1 t.2.2) (0, 0, M)) (fun t => F_X12_makeOnes_b175 v1 (t.1) (t.2)))
theorem t_X12_makeOnes_s25 {l : Launch} {E : bE} {Q : bM → Prop} {v1 : Int} {v2 : Int} {M : bM} (h : b_wp (F_X12_makeOnes_s25 v1 v2 M) (Sum.elim (A_X12_makeOnes_25 l E Q v1) (X_X12_makeOnes_25 l E Q v1))) : V l E xX12_makeOnes (0, 0) 25 [(0, bR 11), (1, bI v1), (2, bI v2)] [] M (b_pV Q) := by
  unfold F_X12_makeOnes_s25 at h
  refine v_iload_n (f := 2) 2 rfl dX12_makeOnes_25 ?_
  refine v_if_eq (tgt := 178) dX12_makeOnes_26 (by decide) (fun c5 => ?_) (fun c5 => ?_)
  · replace h := b_wp_t c5 h
    refine v_sub (ls2 := []) [] rfl ?_
    exact h
  · replace h := b_wp_f c5 h
    refine v_iconst ⟨by decide, by decide⟩ dX12_makeOnes_29 ?_
    refine v_istore_n (g := 2) (i := 2) (ls' := [(2, bI _), (0, bR _), (1, bI _)]) rfl (by decide) dX12_makeOnes_30 rfl ?_
    refine v_iconst ⟨by decide, by decide⟩ dX12_makeOnes_31 ?_
    refine v_istore_n (g := 3) (i := 3) (ls' := [(3, bI _), (2, bI _), (0, bR _), (1, bI _)]) rfl (by decide) dX12_makeOnes_32 rfl ?_
    refine v_sub (ls2 := [(0, bR _), (1, bI _), (2, bI _), (3, bI _)]) [2, 3, 1, 0] rfl ?_
    refine l_X12_makeOnes_33 (b_wp_m (fun t h => ?_) (b_wp_b h))
    show V l E xX12_makeOnes (0, 0) 175 [(0, bR 11), (1, bI _), (2, bI _)] [] _ (b_pV Q)
    exact t_X12_makeOnes_b175 h
theorem l_X12_makeOnes_25 {l : Launch} {E : bE} {Q : bM → Prop} {v1 : Int} {s : Int × bM} (h : b_wp (b_loop (fun t => F_X12_makeOnes_s25 v1 t.1 t.2) s) (X_X12_makeOnes_25 l E Q v1)) : A_X12_makeOnes_25 l E Q v1 s := b_loop_wp (fun t h => t_X12_makeOnes_s25 h) s h
noncomputable def F_X12_makeOnes_b178 (M : bM) : Option (bM) :=
  some M
theorem t_X12_makeOnes_b178 {l : Launch} {E : bE} {Q : bM → Prop} {M : bM} (h : b_wp (F_X12_makeOnes_b178 M) (Q)) : V l E xX12_makeOnes (0, 0) 178 [] [] M (b_pV Q) := by
  unfold F_X12_makeOnes_b178 at h
  refine v_return rfl dX12_makeOnes_178 ⟨by decide, by decide⟩ ?_
  exact ⟨rfl, h⟩
noncomputable def F_X12_makeOnes_b23 (v1 : Int) (M : bM) : Option (bM) :=
  b_bind (b_loop (fun t => F_X12_makeOnes_s25 v1 t.1 t.2) (1, M)) (fun t => F_X12_makeOnes_b178 t)
theorem t_X12_makeOnes_b23 {l : Launch} {E : bE} {Q : bM → Prop} {v1 : Int} {M : bM} (h : b_wp (F_X12_makeOnes_b23 v1 M) (Q)) : V l E xX12_makeOnes (0, 0) 23 [(0, bR 11), (1, bI v1)] [] M (b_pV Q) := by
  unfold F_X12_makeOnes_b23 at h
  refine v_iconst ⟨by decide, by decide⟩ dX12_makeOnes_23 ?_
  refine v_istore_n (g := 2) (i := 2) (ls' := [(2, bI _), (0, bR _), (1, bI _)]) rfl (by decide) dX12_makeOnes_24 rfl ?_
  refine v_sub (ls2 := [(0, bR _), (1, bI _), (2, bI _)]) [1, 2, 0] rfl ?_
  refine l_X12_makeOnes_25 (b_wp_m (fun t h => ?_) (b_wp_b h))
  show V l E xX12_makeOnes (0, 0) 178 [] [] _ (b_pV Q)
  exact t_X12_makeOnes_b178 h
noncomputable def F_X12_makeOnes (v1 : Int) (M : bM) : Option (bM) :=
  b_bind (b_loop (fun t => F_X12_makeOnes_s2 v1 t.1 t.2) (0, M)) (fun t => F_X12_makeOnes_b23 v1 t)
theorem t_X12_makeOnes {l : Launch} {E : bE} {Q : bM → Prop} {v1 : Int} {M : bM} (h : b_wp (F_X12_makeOnes v1 M) (Q)) : V l E xX12_makeOnes (0, 0) 0 [(0, bR 11), (1, bI v1)] [] M (b_pV Q) := by
  unfold F_X12_makeOnes at h
  refine v_iconst ⟨by decide, by decide⟩ dX12_makeOnes_0 ?_
  refine v_istore_n (g := 2) (i := 2) (ls' := [(2, bI _), (0, bR _), (1, bI _)]) rfl (by decide) dX12_makeOnes_1 rfl ?_
  refine v_sub (ls2 := [(0, bR _), (1, bI _), (2, bI _)]) [1, 2, 0] rfl ?_
  refine l_X12_makeOnes_2 (b_wp_m (fun t h => ?_) (b_wp_b h))
  show V l E xX12_makeOnes (0, 0) 23 [(0, bR 11), (1, bI _)] [] _ (b_pV Q)
  exact t_X12_makeOnes_b23 h
theorem cf_X12_makeOnes {l : Launch} {E : bE} {M : bM} {v1 : Int} {Q : bM → Prop} (h : b_wp (F_X12_makeOnes v1 M) Q) : b_C l E xX12_makeOnes yX12_makeOnes [bR 11, bI v1] M (b_pV Q) := b_met (by decide) ⟨rfl, rfl⟩ (Nat.le_of_ble_eq_true rfl) (fun _ _ => t_X12_makeOnes h)
abbrev xX12_deadOf : bX := ("BurntHallModel", prog_14_method_24_code, 5, (Option.some Jvm.ClassFile.FieldType.int), b_rm 1 0 0, 0, "deadOf")
abbrev yX12_deadOf : MethodName := ⟨"BurntHallModel", "deadOf", "(II)I"⟩
theorem dX12_deadOf_0 : decode prog_14_method_24_code 0 = .ok (.iconst (-1), 1) := by decide +kernel
theorem dX12_deadOf_1 : decode prog_14_method_24_code 1 = .ok (.istore_n 3, 1) := by decide +kernel
theorem dX12_deadOf_2 : decode prog_14_method_24_code 2 = .ok (.iconst 0, 1) := by decide +kernel
theorem dX12_deadOf_3 : decode prog_14_method_24_code 3 = .ok (.istore 4, 2) := by decide +kernel
theorem dX12_deadOf_5 : decode prog_14_method_24_code 5 = .ok (.iload 4, 2) := by decide +kernel
theorem dX12_deadOf_7 : decode prog_14_method_24_code 7 = .ok (.aload_n 0, 1) := by decide +kernel
theorem dX12_deadOf_8 : decode prog_14_method_24_code 8 = .ok (.getfield 353, 3) := by decide +kernel
theorem dX12_deadOf_11 : decode prog_14_method_24_code 11 = .ok (.if_icmp .ge 75, 3) := by decide +kernel
theorem dX12_deadOf_14 : decode prog_14_method_24_code 14 = .ok (.aload_n 0, 1) := by decide +kernel
theorem dX12_deadOf_15 : decode prog_14_method_24_code 15 = .ok (.getfield 21, 3) := by decide +kernel
theorem dX12_deadOf_18 : decode prog_14_method_24_code 18 = .ok (.iload 4, 2) := by decide +kernel
theorem dX12_deadOf_20 : decode prog_14_method_24_code 20 = .ok (.iaload, 1) := by decide +kernel
theorem dX12_deadOf_21 : decode prog_14_method_24_code 21 = .ok (.ifCond .ne 59, 3) := by decide +kernel
theorem dX12_deadOf_24 : decode prog_14_method_24_code 24 = .ok (.aload_n 0, 1) := by decide +kernel
theorem dX12_deadOf_25 : decode prog_14_method_24_code 25 = .ok (.getfield 30, 3) := by decide +kernel
theorem dX12_deadOf_28 : decode prog_14_method_24_code 28 = .ok (.iload 4, 2) := by decide +kernel
theorem dX12_deadOf_30 : decode prog_14_method_24_code 30 = .ok (.iaload, 1) := by decide +kernel
theorem dX12_deadOf_31 : decode prog_14_method_24_code 31 = .ok (.iload_n 2, 1) := by decide +kernel
theorem dX12_deadOf_32 : decode prog_14_method_24_code 32 = .ok (.if_icmp .gt 48, 3) := by decide +kernel
theorem dX12_deadOf_35 : decode prog_14_method_24_code 35 = .ok (.aload_n 0, 1) := by decide +kernel
theorem dX12_deadOf_36 : decode prog_14_method_24_code 36 = .ok (.getfield 33, 3) := by decide +kernel
theorem dX12_deadOf_39 : decode prog_14_method_24_code 39 = .ok (.aload_n 0, 1) := by decide +kernel
theorem dX12_deadOf_40 : decode prog_14_method_24_code 40 = .ok (.getfield 24, 3) := by decide +kernel
theorem dX12_deadOf_43 : decode prog_14_method_24_code 43 = .ok (.iload 4, 2) := by decide +kernel
theorem dX12_deadOf_45 : decode prog_14_method_24_code 45 = .ok (.iaload, 1) := by decide +kernel
theorem dX12_deadOf_46 : decode prog_14_method_24_code 46 = .ok (.iaload, 1) := by decide +kernel
theorem dX12_deadOf_47 : decode prog_14_method_24_code 47 = .ok (.aload_n 0, 1) := by decide +kernel
theorem dX12_deadOf_48 : decode prog_14_method_24_code 48 = .ok (.getfield 33, 3) := by decide +kernel
theorem dX12_deadOf_51 : decode prog_14_method_24_code 51 = .ok (.iload_n 1, 1) := by decide +kernel
theorem dX12_deadOf_52 : decode prog_14_method_24_code 52 = .ok (.iaload, 1) := by decide +kernel
theorem dX12_deadOf_53 : decode prog_14_method_24_code 53 = .ok (.if_icmp .ne 27, 3) := by decide +kernel
theorem dX12_deadOf_56 : decode prog_14_method_24_code 56 = .ok (.iload_n 3, 1) := by decide +kernel
theorem dX12_deadOf_57 : decode prog_14_method_24_code 57 = .ok (.iconst (-1), 1) := by decide +kernel
theorem dX12_deadOf_58 : decode prog_14_method_24_code 58 = .ok (.if_icmp .eq 14, 3) := by decide +kernel
theorem dX12_deadOf_61 : decode prog_14_method_24_code 61 = .ok (.aload_n 0, 1) := by decide +kernel
theorem dX12_deadOf_62 : decode prog_14_method_24_code 62 = .ok (.getfield 27, 3) := by decide +kernel
theorem dX12_deadOf_65 : decode prog_14_method_24_code 65 = .ok (.iload 4, 2) := by decide +kernel
theorem dX12_deadOf_67 : decode prog_14_method_24_code 67 = .ok (.iaload, 1) := by decide +kernel
theorem dX12_deadOf_68 : decode prog_14_method_24_code 68 = .ok (.iload_n 3, 1) := by decide +kernel
theorem dX12_deadOf_69 : decode prog_14_method_24_code 69 = .ok (.if_icmp .ge 11, 3) := by decide +kernel
theorem dX12_deadOf_72 : decode prog_14_method_24_code 72 = .ok (.aload_n 0, 1) := by decide +kernel
theorem dX12_deadOf_73 : decode prog_14_method_24_code 73 = .ok (.getfield 27, 3) := by decide +kernel
theorem dX12_deadOf_76 : decode prog_14_method_24_code 76 = .ok (.iload 4, 2) := by decide +kernel
theorem dX12_deadOf_78 : decode prog_14_method_24_code 78 = .ok (.iaload, 1) := by decide +kernel
theorem dX12_deadOf_79 : decode prog_14_method_24_code 79 = .ok (.istore_n 3, 1) := by decide +kernel
theorem dX12_deadOf_80 : decode prog_14_method_24_code 80 = .ok (.iinc 4 1, 3) := by decide +kernel
theorem dX12_deadOf_83 : decode prog_14_method_24_code 83 = .ok (.goto (-78), 3) := by decide +kernel
theorem dX12_deadOf_86 : decode prog_14_method_24_code 86 = .ok (.iload_n 3, 1) := by decide +kernel
theorem dX12_deadOf_87 : decode prog_14_method_24_code 87 = .ok (.ireturn, 1) := by decide +kernel
abbrev A_X12_deadOf_5 (l : Launch) (E : bE) (Q : Int → Prop) (v1 : Int) (v2 : Int) (M : bM) : (Int × Int) → Prop := (fun t : Int × Int => V l E xX12_deadOf (0, 0) 5 [(0, bR 11), (1, bI v1), (2, bI v2), (3, bI (t.1)), (4, bI (t.2))] [] M (b_pIp M Q))
abbrev X_X12_deadOf_5 (l : Launch) (E : bE) (Q : Int → Prop) (v1 : Int) (v2 : Int) (M : bM) : (Int) → Prop := (fun t : Int => V l E xX12_deadOf (0, 0) 86 [(3, bI t)] [] M (b_pIp M Q))
noncomputable def F_X12_deadOf_b72 (v1 : Int) (v2 : Int) (v4 : Int) (M : bM) : Option ((Int × Int) ⊕ (Int)) :=
  b_g (0 ≤ v4 ∧ v4 < 400) (b_let ((M 166 v4)) (fun y15 => b_g (b_i32 (v4 + 1)) (some (.inl (y15, (v4 + 1))))))
theorem t_X12_deadOf_b72 {l : Launch} {E : bE} {Q : Int → Prop} {v1 : Int} {v2 : Int} {v4 : Int} {M : bM} (h : b_wp (F_X12_deadOf_b72 v1 v2 v4 M) (Sum.elim (A_X12_deadOf_5 l E Q v1 v2 M) (X_X12_deadOf_5 l E Q v1 v2 M))) : V l E xX12_deadOf (0, 0) 72 [(0, bR 11), (1, bI v1), (2, bI v2), (4, bI v4)] [] M (b_pIp M Q) := by
  unfold F_X12_deadOf_b72 at h
  obtain ⟨g14, h⟩ := b_wp_g h
  refine v_aload_n (f := 0) 0 rfl dX12_deadOf_72 ?_
  refine v_getR (kf := 17) (kz := 17) rfl kd_11 rfl ⟨by decide, by decide⟩ rfl wf_12_27 dX12_deadOf_73 ?_
  refine v_iload (i := 4) 3 rfl dX12_deadOf_76 ?_
  refine v_iaload kd_166 g14 (by decide) dX12_deadOf_78 ?_
  replace h := b_wp_l h
  obtain ⟨g16, h⟩ := b_wp_g h
  refine v_istore_n (g := 3) (i := 3) (ls' := [(3, bI _), (0, bR _), (1, bI _), (2, bI _), (4, bI _)]) rfl (by decide) dX12_deadOf_79 rfl ?_
  refine v_iincN (ls' := [(4, bI _), (3, bI _), (0, bR _), (1, bI _), (2, bI _)]) 4 rfl (by decide) g16 dX12_deadOf_80 rfl ?_
  refine v_goto (tgt := 5) dX12_deadOf_83 (by decide) ?_
  refine v_sub (ls2 := [(0, bR _), (1, bI _), (2, bI _), (3, bI _), (4, bI _)]) [2, 3, 4, 1, 0] rfl ?_
  exact h
noncomputable def F_X12_deadOf_s5 (v1 : Int) (v2 : Int) (v3 : Int) (v4 : Int) (M : bM) : Option ((Int × Int) ⊕ (Int)) :=
  if (M 11 13) ≤ v4 then (some (.inr (v3))) else (b_g (0 ≤ v4 ∧ v4 < 400) (if (M 164 v4) = 0 then (b_g (0 ≤ v4 ∧ v4 < 400) (if v2 < (M 167 v4) then (b_g (b_i32 (v4 + 1)) (some (.inl (v3, (v4 + 1))))) else (b_g ((0 ≤ v4 ∧ v4 < 400) ∧ (0 ≤ (M 165 v4) ∧ (M 165 v4) < 80) ∧ (0 ≤ v1 ∧ v1 < 80)) (if (M 168 (M 165 v4)) = (M 168 v1) then (if v3 = (-1) then (F_X12_deadOf_b72 v1 v2 v4 M) else (b_g (0 ≤ v4 ∧ v4 < 400) (if v3 ≤ (M 166 v4) then (b_g (b_i32 (v4 + 1)) (some (.inl (v3, (v4 + 1))))) else (F_X12_deadOf_b72 v1 v2 v4 M)))) else (b_g (b_i32 (v4 + 1)) (some (.inl (v3, (v4 + 1))))))))) else (b_g (b_i32 (v4 + 1)) (some (.inl (v3, (v4 + 1)))))))
theorem t_X12_deadOf_s5 {l : Launch} {E : bE} {Q : Int → Prop} {v1 : Int} {v2 : Int} {v3 : Int} {v4 : Int} {M : bM} (h : b_wp (F_X12_deadOf_s5 v1 v2 v3 v4 M) (Sum.elim (A_X12_deadOf_5 l E Q v1 v2 M) (X_X12_deadOf_5 l E Q v1 v2 M))) : V l E xX12_deadOf (0, 0) 5 [(0, bR 11), (1, bI v1), (2, bI v2), (3, bI v3), (4, bI v4)] [] M (b_pIp M Q) := by
  unfold F_X12_deadOf_s5 at h
  refine v_iload (i := 4) 4 rfl dX12_deadOf_5 ?_
  refine v_aload_n (f := 0) 0 rfl dX12_deadOf_7 ?_
  refine v_getI (kf := 13) (kz := 13) rfl kd_11 rfl ⟨by decide, by decide⟩ rfl wf_12_353 dX12_deadOf_8 ?_
  refine v_icmp_ge (tgt := 86) dX12_deadOf_11 (by decide) (fun c1 => ?_) (fun c1 => ?_)
  · replace h := b_wp_t c1 h
    refine v_sub (ls2 := [(3, bI _)]) [3] rfl ?_
    exact h
  · replace h := b_wp_f c1 h
    obtain ⟨g2, h⟩ := b_wp_g h
    refine v_aload_n (f := 0) 0 rfl dX12_deadOf_14 ?_
    refine v_getR (kf := 15) (kz := 15) rfl kd_11 rfl ⟨by decide, by decide⟩ rfl wf_12_21 dX12_deadOf_15 ?_
    refine v_iload (i := 4) 4 rfl dX12_deadOf_18 ?_
    refine v_iaload kd_164 g2 (by decide) dX12_deadOf_20 ?_
    refine v_if_ne (tgt := 80) dX12_deadOf_21 (by decide) (fun c3 => ?_) (fun c3 => ?_)
    · replace h := b_wp_f c3 h
      obtain ⟨g4, h⟩ := b_wp_g h
      refine v_iincN (ls' := [(4, bI _), (0, bR _), (1, bI _), (2, bI _), (3, bI _)]) 4 rfl (by decide) g4 dX12_deadOf_80 rfl ?_
      refine v_goto (tgt := 5) dX12_deadOf_83 (by decide) ?_
      refine v_sub (ls2 := [(0, bR _), (1, bI _), (2, bI _), (3, bI _), (4, bI _)]) [1, 2, 3, 4, 0] rfl ?_
      exact h
    · replace h := b_wp_t c3 h
      obtain ⟨g5, h⟩ := b_wp_g h
      refine v_aload_n (f := 0) 0 rfl dX12_deadOf_24 ?_
      refine v_getR (kf := 18) (kz := 18) rfl kd_11 rfl ⟨by decide, by decide⟩ rfl wf_12_30 dX12_deadOf_25 ?_
      refine v_iload (i := 4) 4 rfl dX12_deadOf_28 ?_
      refine v_iaload kd_167 g5 (by decide) dX12_deadOf_30 ?_
      refine v_iload_n (f := 2) 2 rfl dX12_deadOf_31 ?_
      refine v_icmp_gt (tgt := 80) dX12_deadOf_32 (by decide) (fun c6 => ?_) (fun c6 => ?_)
      · replace h := b_wp_t c6 h
        obtain ⟨g7, h⟩ := b_wp_g h
        refine v_iincN (ls' := [(4, bI _), (0, bR _), (1, bI _), (2, bI _), (3, bI _)]) 4 rfl (by decide) g7 dX12_deadOf_80 rfl ?_
        refine v_goto (tgt := 5) dX12_deadOf_83 (by decide) ?_
        refine v_sub (ls2 := [(0, bR _), (1, bI _), (2, bI _), (3, bI _), (4, bI _)]) [1, 2, 3, 4, 0] rfl ?_
        exact h
      · replace h := b_wp_f c6 h
        obtain ⟨⟨g8, g9, g10⟩, h⟩ := b_wp_g h
        refine v_aload_n (f := 0) 0 rfl dX12_deadOf_35 ?_
        refine v_getR (kf := 19) (kz := 19) rfl kd_11 rfl ⟨by decide, by decide⟩ rfl wf_12_33 dX12_deadOf_36 ?_
        refine v_aload_n (f := 0) 0 rfl dX12_deadOf_39 ?_
        refine v_getR (kf := 16) (kz := 16) rfl kd_11 rfl ⟨by decide, by decide⟩ rfl wf_12_24 dX12_deadOf_40 ?_
        refine v_iload (i := 4) 4 rfl dX12_deadOf_43 ?_
        refine v_iaload kd_165 g8 (by decide) dX12_deadOf_45 ?_
        refine v_iaload kd_168 g9 (by decide) dX12_deadOf_46 ?_
        refine v_aload_n (f := 0) 0 rfl dX12_deadOf_47 ?_
        refine v_getR (kf := 19) (kz := 19) rfl kd_11 rfl ⟨by decide, by decide⟩ rfl wf_12_33 dX12_deadOf_48 ?_
        refine v_iload_n (f := 1) 1 rfl dX12_deadOf_51 ?_
        refine v_iaload kd_168 g10 (by decide) dX12_deadOf_52 ?_
        refine v_icmp_ne (tgt := 80) dX12_deadOf_53 (by decide) (fun c11 => ?_) (fun c11 => ?_)
        · replace h := b_wp_f c11 h
          obtain ⟨g12, h⟩ := b_wp_g h
          refine v_iincN (ls' := [(4, bI _), (0, bR _), (1, bI _), (2, bI _), (3, bI _)]) 4 rfl (by decide) g12 dX12_deadOf_80 rfl ?_
          refine v_goto (tgt := 5) dX12_deadOf_83 (by decide) ?_
          refine v_sub (ls2 := [(0, bR _), (1, bI _), (2, bI _), (3, bI _), (4, bI _)]) [1, 2, 3, 4, 0] rfl ?_
          exact h
        · replace h := b_wp_t c11 h
          refine v_iload_n (f := 3) 3 rfl dX12_deadOf_56 ?_
          refine v_iconst ⟨by decide, by decide⟩ dX12_deadOf_57 ?_
          refine v_icmp_eq (tgt := 72) dX12_deadOf_58 (by decide) (fun c13 => ?_) (fun c13 => ?_)
          · replace h := b_wp_t c13 h
            refine v_sub (ls2 := [(0, bR _), (1, bI _), (2, bI _), (4, bI _)]) [0, 1, 2, 4] rfl ?_
            exact t_X12_deadOf_b72 h
          · replace h := b_wp_f c13 h
            obtain ⟨g17, h⟩ := b_wp_g h
            refine v_aload_n (f := 0) 0 rfl dX12_deadOf_61 ?_
            refine v_getR (kf := 17) (kz := 17) rfl kd_11 rfl ⟨by decide, by decide⟩ rfl wf_12_27 dX12_deadOf_62 ?_
            refine v_iload (i := 4) 4 rfl dX12_deadOf_65 ?_
            refine v_iaload kd_166 g17 (by decide) dX12_deadOf_67 ?_
            refine v_iload_n (f := 3) 3 rfl dX12_deadOf_68 ?_
            refine v_icmp_ge (tgt := 80) dX12_deadOf_69 (by decide) (fun c18 => ?_) (fun c18 => ?_)
            · replace h := b_wp_t c18 h
              obtain ⟨g19, h⟩ := b_wp_g h
              refine v_iincN (ls' := [(4, bI _), (0, bR _), (1, bI _), (2, bI _), (3, bI _)]) 4 rfl (by decide) g19 dX12_deadOf_80 rfl ?_
              refine v_goto (tgt := 5) dX12_deadOf_83 (by decide) ?_
              refine v_sub (ls2 := [(0, bR _), (1, bI _), (2, bI _), (3, bI _), (4, bI _)]) [1, 2, 3, 4, 0] rfl ?_
              exact h
            · replace h := b_wp_f c18 h
              refine v_sub (ls2 := [(0, bR _), (1, bI _), (2, bI _), (4, bI _)]) [0, 1, 2, 4] rfl ?_
              exact t_X12_deadOf_b72 h
theorem l_X12_deadOf_5 {l : Launch} {E : bE} {Q : Int → Prop} {v1 : Int} {v2 : Int} {M : bM} {s : Int × Int} (h : b_wp (b_loop (fun t => F_X12_deadOf_s5 v1 v2 t.1 t.2 M) s) (X_X12_deadOf_5 l E Q v1 v2 M)) : A_X12_deadOf_5 l E Q v1 v2 M s := b_loop_wp (fun t h => t_X12_deadOf_s5 h) s h
noncomputable def F_X12_deadOf_b86 (v3 : Int) (M : bM) : Option (Int) :=
  some v3
theorem t_X12_deadOf_b86 {l : Launch} {E : bE} {Q : Int → Prop} {v3 : Int} {M : bM} (h : b_wp (F_X12_deadOf_b86 v3 M) (Q)) : V l E xX12_deadOf (0, 0) 86 [(3, bI v3)] [] M (b_pIp M Q) := by
  unfold F_X12_deadOf_b86 at h
  refine v_iload_n (f := 3) 0 rfl dX12_deadOf_86 ?_
  refine v_ireturn rfl dX12_deadOf_87 ⟨by decide, by decide⟩ ?_
  exact ⟨_, rfl, rfl, h⟩
noncomputable def F_X12_deadOf (v1 : Int) (v2 : Int) (M : bM) : Option (Int) :=
  b_bind (b_loop (fun t => F_X12_deadOf_s5 v1 v2 t.1 t.2 M) ((-1), 0)) (fun t => F_X12_deadOf_b86 t M)
theorem t_X12_deadOf {l : Launch} {E : bE} {Q : Int → Prop} {v1 : Int} {v2 : Int} {M : bM} (h : b_wp (F_X12_deadOf v1 v2 M) (Q)) : V l E xX12_deadOf (0, 0) 0 [(0, bR 11), (1, bI v1), (2, bI v2)] [] M (b_pIp M Q) := by
  unfold F_X12_deadOf at h
  refine v_iconst ⟨by decide, by decide⟩ dX12_deadOf_0 ?_
  refine v_istore_n (g := 3) (i := 3) (ls' := [(3, bI _), (0, bR _), (1, bI _), (2, bI _)]) rfl (by decide) dX12_deadOf_1 rfl ?_
  refine v_iconst ⟨by decide, by decide⟩ dX12_deadOf_2 ?_
  refine v_istore (i := 4) (ls' := [(4, bI _), (3, bI _), (0, bR _), (1, bI _), (2, bI _)]) (by decide) dX12_deadOf_3 rfl ?_
  refine v_sub (ls2 := [(0, bR _), (1, bI _), (2, bI _), (3, bI _), (4, bI _)]) [2, 3, 4, 1, 0] rfl ?_
  refine l_X12_deadOf_5 (b_wp_m (fun t h => ?_) (b_wp_b h))
  show V l E xX12_deadOf (0, 0) 86 [(3, bI _)] [] _ (b_pIp M Q)
  exact t_X12_deadOf_b86 h
theorem cf_X12_deadOf {l : Launch} {E : bE} {M : bM} {v1 : Int} {v2 : Int} {Q : Int → Prop} (h : b_wp (F_X12_deadOf v1 v2 M) Q) : b_C l E xX12_deadOf yX12_deadOf [bR 11, bI v1, bI v2] M (b_pIp M Q) := b_met (by decide) ⟨rfl, rfl⟩ (Nat.le_of_ble_eq_true rfl) (fun _ _ => t_X12_deadOf h)
abbrev xX12_isChild : bX := ("BurntHallModel", prog_14_method_25_code, 5, (Option.some Jvm.ClassFile.FieldType.boolean), b_rm 1 0 0, 0, "isChild")
abbrev yX12_isChild : MethodName := ⟨"BurntHallModel", "isChild", "(III)Z"⟩
theorem dX12_isChild_0 : decode prog_14_method_25_code 0 = .ok (.iconst 0, 1) := by decide +kernel
theorem dX12_isChild_1 : decode prog_14_method_25_code 1 = .ok (.istore 4, 2) := by decide +kernel
theorem dX12_isChild_3 : decode prog_14_method_25_code 3 = .ok (.iload 4, 2) := by decide +kernel
theorem dX12_isChild_5 : decode prog_14_method_25_code 5 = .ok (.aload_n 0, 1) := by decide +kernel
theorem dX12_isChild_6 : decode prog_14_method_25_code 6 = .ok (.getfield 353, 3) := by decide +kernel
theorem dX12_isChild_9 : decode prog_14_method_25_code 9 = .ok (.if_icmp .ge 75, 3) := by decide +kernel
theorem dX12_isChild_12 : decode prog_14_method_25_code 12 = .ok (.aload_n 0, 1) := by decide +kernel
theorem dX12_isChild_13 : decode prog_14_method_25_code 13 = .ok (.getfield 21, 3) := by decide +kernel
theorem dX12_isChild_16 : decode prog_14_method_25_code 16 = .ok (.iload 4, 2) := by decide +kernel
theorem dX12_isChild_18 : decode prog_14_method_25_code 18 = .ok (.iaload, 1) := by decide +kernel
theorem dX12_isChild_19 : decode prog_14_method_25_code 19 = .ok (.iconst 3, 1) := by decide +kernel
theorem dX12_isChild_20 : decode prog_14_method_25_code 20 = .ok (.if_icmp .ne 58, 3) := by decide +kernel
theorem dX12_isChild_23 : decode prog_14_method_25_code 23 = .ok (.aload_n 0, 1) := by decide +kernel
theorem dX12_isChild_24 : decode prog_14_method_25_code 24 = .ok (.getfield 30, 3) := by decide +kernel
theorem dX12_isChild_27 : decode prog_14_method_25_code 27 = .ok (.iload 4, 2) := by decide +kernel
theorem dX12_isChild_29 : decode prog_14_method_25_code 29 = .ok (.iaload, 1) := by decide +kernel
theorem dX12_isChild_30 : decode prog_14_method_25_code 30 = .ok (.iload_n 3, 1) := by decide +kernel
theorem dX12_isChild_31 : decode prog_14_method_25_code 31 = .ok (.if_icmp .gt 47, 3) := by decide +kernel
theorem dX12_isChild_34 : decode prog_14_method_25_code 34 = .ok (.aload_n 0, 1) := by decide +kernel
theorem dX12_isChild_35 : decode prog_14_method_25_code 35 = .ok (.getfield 33, 3) := by decide +kernel
theorem dX12_isChild_38 : decode prog_14_method_25_code 38 = .ok (.aload_n 0, 1) := by decide +kernel
theorem dX12_isChild_39 : decode prog_14_method_25_code 39 = .ok (.getfield 24, 3) := by decide +kernel
theorem dX12_isChild_42 : decode prog_14_method_25_code 42 = .ok (.iload 4, 2) := by decide +kernel
theorem dX12_isChild_44 : decode prog_14_method_25_code 44 = .ok (.iaload, 1) := by decide +kernel
theorem dX12_isChild_45 : decode prog_14_method_25_code 45 = .ok (.iaload, 1) := by decide +kernel
theorem dX12_isChild_46 : decode prog_14_method_25_code 46 = .ok (.aload_n 0, 1) := by decide +kernel
theorem dX12_isChild_47 : decode prog_14_method_25_code 47 = .ok (.getfield 33, 3) := by decide +kernel
theorem dX12_isChild_50 : decode prog_14_method_25_code 50 = .ok (.iload_n 1, 1) := by decide +kernel
theorem dX12_isChild_51 : decode prog_14_method_25_code 51 = .ok (.iaload, 1) := by decide +kernel
theorem dX12_isChild_52 : decode prog_14_method_25_code 52 = .ok (.if_icmp .ne 26, 3) := by decide +kernel
theorem dX12_isChild_55 : decode prog_14_method_25_code 55 = .ok (.aload_n 0, 1) := by decide +kernel
theorem dX12_isChild_56 : decode prog_14_method_25_code 56 = .ok (.getfield 33, 3) := by decide +kernel
theorem dX12_isChild_59 : decode prog_14_method_25_code 59 = .ok (.aload_n 0, 1) := by decide +kernel
theorem dX12_isChild_60 : decode prog_14_method_25_code 60 = .ok (.getfield 27, 3) := by decide +kernel
theorem dX12_isChild_63 : decode prog_14_method_25_code 63 = .ok (.iload 4, 2) := by decide +kernel
theorem dX12_isChild_65 : decode prog_14_method_25_code 65 = .ok (.iaload, 1) := by decide +kernel
theorem dX12_isChild_66 : decode prog_14_method_25_code 66 = .ok (.iaload, 1) := by decide +kernel
theorem dX12_isChild_67 : decode prog_14_method_25_code 67 = .ok (.aload_n 0, 1) := by decide +kernel
theorem dX12_isChild_68 : decode prog_14_method_25_code 68 = .ok (.getfield 33, 3) := by decide +kernel
theorem dX12_isChild_71 : decode prog_14_method_25_code 71 = .ok (.iload_n 2, 1) := by decide +kernel
theorem dX12_isChild_72 : decode prog_14_method_25_code 72 = .ok (.iaload, 1) := by decide +kernel
theorem dX12_isChild_73 : decode prog_14_method_25_code 73 = .ok (.if_icmp .ne 5, 3) := by decide +kernel
theorem dX12_isChild_76 : decode prog_14_method_25_code 76 = .ok (.iconst 1, 1) := by decide +kernel
theorem dX12_isChild_77 : decode prog_14_method_25_code 77 = .ok (.ireturn, 1) := by decide +kernel
theorem dX12_isChild_78 : decode prog_14_method_25_code 78 = .ok (.iinc 4 1, 3) := by decide +kernel
theorem dX12_isChild_81 : decode prog_14_method_25_code 81 = .ok (.goto (-78), 3) := by decide +kernel
theorem dX12_isChild_84 : decode prog_14_method_25_code 84 = .ok (.iconst 0, 1) := by decide +kernel
theorem dX12_isChild_85 : decode prog_14_method_25_code 85 = .ok (.ireturn, 1) := by decide +kernel
abbrev A_X12_isChild_3 (l : Launch) (E : bE) (Q : Int → Prop) (v1 : Int) (v2 : Int) (v3 : Int) (M : bM) : (Int) → Prop := (fun t : Int => V l E xX12_isChild (0, 0) 3 [(0, bR 11), (1, bI v1), (2, bI v2), (3, bI v3), (4, bI t)] [] M (b_pIp M Q))
abbrev X_X12_isChild_3 (l : Launch) (E : bE) (Q : Int → Prop) (v1 : Int) (v2 : Int) (v3 : Int) (M : bM) : ((Unit) ⊕ Int) → Prop := (Sum.elim (fun t : Unit => V l E xX12_isChild (0, 0) 84 [] [] M (b_pIp M Q)) Q)
noncomputable def F_X12_isChild_s3 (v1 : Int) (v2 : Int) (v3 : Int) (v4 : Int) (M : bM) : Option ((Int) ⊕ ((Unit) ⊕ Int)) :=
  if (M 11 13) ≤ v4 then (some (.inr (.inl ()))) else (b_g (0 ≤ v4 ∧ v4 < 400) (if (M 164 v4) = 3 then (b_g (0 ≤ v4 ∧ v4 < 400) (if v3 < (M 167 v4) then (b_g (b_i32 (v4 + 1)) (some (.inl ((v4 + 1))))) else (b_g ((0 ≤ v4 ∧ v4 < 400) ∧ (0 ≤ (M 165 v4) ∧ (M 165 v4) < 80) ∧ (0 ≤ v1 ∧ v1 < 80)) (if (M 168 (M 165 v4)) = (M 168 v1) then (b_g ((0 ≤ v4 ∧ v4 < 400) ∧ (0 ≤ (M 166 v4) ∧ (M 166 v4) < 80) ∧ (0 ≤ v2 ∧ v2 < 80)) (if (M 168 (M 166 v4)) = (M 168 v2) then (some (.inr (.inr 1))) else (b_g (b_i32 (v4 + 1)) (some (.inl ((v4 + 1))))))) else (b_g (b_i32 (v4 + 1)) (some (.inl ((v4 + 1))))))))) else (b_g (b_i32 (v4 + 1)) (some (.inl ((v4 + 1)))))))
theorem t_X12_isChild_s3 {l : Launch} {E : bE} {Q : Int → Prop} {v1 : Int} {v2 : Int} {v3 : Int} {v4 : Int} {M : bM} (h : b_wp (F_X12_isChild_s3 v1 v2 v3 v4 M) (Sum.elim (A_X12_isChild_3 l E Q v1 v2 v3 M) (X_X12_isChild_3 l E Q v1 v2 v3 M))) : V l E xX12_isChild (0, 0) 3 [(0, bR 11), (1, bI v1), (2, bI v2), (3, bI v3), (4, bI v4)] [] M (b_pIp M Q) := by
  unfold F_X12_isChild_s3 at h
  refine v_iload (i := 4) 4 rfl dX12_isChild_3 ?_
  refine v_aload_n (f := 0) 0 rfl dX12_isChild_5 ?_
  refine v_getI (kf := 13) (kz := 13) rfl kd_11 rfl ⟨by decide, by decide⟩ rfl wf_12_353 dX12_isChild_6 ?_
  refine v_icmp_ge (tgt := 84) dX12_isChild_9 (by decide) (fun c1 => ?_) (fun c1 => ?_)
  · replace h := b_wp_t c1 h
    refine v_sub (ls2 := []) [] rfl ?_
    exact h
  · replace h := b_wp_f c1 h
    obtain ⟨g2, h⟩ := b_wp_g h
    refine v_aload_n (f := 0) 0 rfl dX12_isChild_12 ?_
    refine v_getR (kf := 15) (kz := 15) rfl kd_11 rfl ⟨by decide, by decide⟩ rfl wf_12_21 dX12_isChild_13 ?_
    refine v_iload (i := 4) 4 rfl dX12_isChild_16 ?_
    refine v_iaload kd_164 g2 (by decide) dX12_isChild_18 ?_
    refine v_iconst ⟨by decide, by decide⟩ dX12_isChild_19 ?_
    refine v_icmp_ne (tgt := 78) dX12_isChild_20 (by decide) (fun c3 => ?_) (fun c3 => ?_)
    · replace h := b_wp_f c3 h
      obtain ⟨g4, h⟩ := b_wp_g h
      refine v_iincN (ls' := [(4, bI _), (0, bR _), (1, bI _), (2, bI _), (3, bI _)]) 4 rfl (by decide) g4 dX12_isChild_78 rfl ?_
      refine v_goto (tgt := 3) dX12_isChild_81 (by decide) ?_
      refine v_sub (ls2 := [(0, bR _), (1, bI _), (2, bI _), (3, bI _), (4, bI _)]) [1, 2, 3, 4, 0] rfl ?_
      exact h
    · replace h := b_wp_t c3 h
      obtain ⟨g5, h⟩ := b_wp_g h
      refine v_aload_n (f := 0) 0 rfl dX12_isChild_23 ?_
      refine v_getR (kf := 18) (kz := 18) rfl kd_11 rfl ⟨by decide, by decide⟩ rfl wf_12_30 dX12_isChild_24 ?_
      refine v_iload (i := 4) 4 rfl dX12_isChild_27 ?_
      refine v_iaload kd_167 g5 (by decide) dX12_isChild_29 ?_
      refine v_iload_n (f := 3) 3 rfl dX12_isChild_30 ?_
      refine v_icmp_gt (tgt := 78) dX12_isChild_31 (by decide) (fun c6 => ?_) (fun c6 => ?_)
      · replace h := b_wp_t c6 h
        obtain ⟨g7, h⟩ := b_wp_g h
        refine v_iincN (ls' := [(4, bI _), (0, bR _), (1, bI _), (2, bI _), (3, bI _)]) 4 rfl (by decide) g7 dX12_isChild_78 rfl ?_
        refine v_goto (tgt := 3) dX12_isChild_81 (by decide) ?_
        refine v_sub (ls2 := [(0, bR _), (1, bI _), (2, bI _), (3, bI _), (4, bI _)]) [1, 2, 3, 4, 0] rfl ?_
        exact h
      · replace h := b_wp_f c6 h
        obtain ⟨⟨g8, g9, g10⟩, h⟩ := b_wp_g h
        refine v_aload_n (f := 0) 0 rfl dX12_isChild_34 ?_
        refine v_getR (kf := 19) (kz := 19) rfl kd_11 rfl ⟨by decide, by decide⟩ rfl wf_12_33 dX12_isChild_35 ?_
        refine v_aload_n (f := 0) 0 rfl dX12_isChild_38 ?_
        refine v_getR (kf := 16) (kz := 16) rfl kd_11 rfl ⟨by decide, by decide⟩ rfl wf_12_24 dX12_isChild_39 ?_
        refine v_iload (i := 4) 4 rfl dX12_isChild_42 ?_
        refine v_iaload kd_165 g8 (by decide) dX12_isChild_44 ?_
        refine v_iaload kd_168 g9 (by decide) dX12_isChild_45 ?_
        refine v_aload_n (f := 0) 0 rfl dX12_isChild_46 ?_
        refine v_getR (kf := 19) (kz := 19) rfl kd_11 rfl ⟨by decide, by decide⟩ rfl wf_12_33 dX12_isChild_47 ?_
        refine v_iload_n (f := 1) 1 rfl dX12_isChild_50 ?_
        refine v_iaload kd_168 g10 (by decide) dX12_isChild_51 ?_
        refine v_icmp_ne (tgt := 78) dX12_isChild_52 (by decide) (fun c11 => ?_) (fun c11 => ?_)
        · replace h := b_wp_f c11 h
          obtain ⟨g12, h⟩ := b_wp_g h
          refine v_iincN (ls' := [(4, bI _), (0, bR _), (1, bI _), (2, bI _), (3, bI _)]) 4 rfl (by decide) g12 dX12_isChild_78 rfl ?_
          refine v_goto (tgt := 3) dX12_isChild_81 (by decide) ?_
          refine v_sub (ls2 := [(0, bR _), (1, bI _), (2, bI _), (3, bI _), (4, bI _)]) [1, 2, 3, 4, 0] rfl ?_
          exact h
        · replace h := b_wp_t c11 h
          obtain ⟨⟨g13, g14, g15⟩, h⟩ := b_wp_g h
          refine v_aload_n (f := 0) 0 rfl dX12_isChild_55 ?_
          refine v_getR (kf := 19) (kz := 19) rfl kd_11 rfl ⟨by decide, by decide⟩ rfl wf_12_33 dX12_isChild_56 ?_
          refine v_aload_n (f := 0) 0 rfl dX12_isChild_59 ?_
          refine v_getR (kf := 17) (kz := 17) rfl kd_11 rfl ⟨by decide, by decide⟩ rfl wf_12_27 dX12_isChild_60 ?_
          refine v_iload (i := 4) 4 rfl dX12_isChild_63 ?_
          refine v_iaload kd_166 g13 (by decide) dX12_isChild_65 ?_
          refine v_iaload kd_168 g14 (by decide) dX12_isChild_66 ?_
          refine v_aload_n (f := 0) 0 rfl dX12_isChild_67 ?_
          refine v_getR (kf := 19) (kz := 19) rfl kd_11 rfl ⟨by decide, by decide⟩ rfl wf_12_33 dX12_isChild_68 ?_
          refine v_iload_n (f := 2) 2 rfl dX12_isChild_71 ?_
          refine v_iaload kd_168 g15 (by decide) dX12_isChild_72 ?_
          refine v_icmp_ne (tgt := 78) dX12_isChild_73 (by decide) (fun c16 => ?_) (fun c16 => ?_)
          · replace h := b_wp_f c16 h
            obtain ⟨g17, h⟩ := b_wp_g h
            refine v_iincN (ls' := [(4, bI _), (0, bR _), (1, bI _), (2, bI _), (3, bI _)]) 4 rfl (by decide) g17 dX12_isChild_78 rfl ?_
            refine v_goto (tgt := 3) dX12_isChild_81 (by decide) ?_
            refine v_sub (ls2 := [(0, bR _), (1, bI _), (2, bI _), (3, bI _), (4, bI _)]) [1, 2, 3, 4, 0] rfl ?_
            exact h
          · replace h := b_wp_t c16 h
            refine v_iconst ⟨by decide, by decide⟩ dX12_isChild_76 ?_
            refine v_zreturn rfl (Or.inr rfl) dX12_isChild_77 ⟨by decide, by decide⟩ ?_
            exact ⟨_, rfl, rfl, h⟩
theorem l_X12_isChild_3 {l : Launch} {E : bE} {Q : Int → Prop} {v1 : Int} {v2 : Int} {v3 : Int} {M : bM} {s : Int} (h : b_wp (b_loop (fun t => F_X12_isChild_s3 v1 v2 v3 t M) s) (X_X12_isChild_3 l E Q v1 v2 v3 M)) : A_X12_isChild_3 l E Q v1 v2 v3 M s := b_loop_wp (fun t h => t_X12_isChild_s3 h) s h
noncomputable def F_X12_isChild_b84 (M : bM) : Option (Int) :=
  some 0
theorem t_X12_isChild_b84 {l : Launch} {E : bE} {Q : Int → Prop} {M : bM} (h : b_wp (F_X12_isChild_b84 M) (Q)) : V l E xX12_isChild (0, 0) 84 [] [] M (b_pIp M Q) := by
  unfold F_X12_isChild_b84 at h
  refine v_iconst ⟨by decide, by decide⟩ dX12_isChild_84 ?_
  refine v_zreturn rfl (Or.inl rfl) dX12_isChild_85 ⟨by decide, by decide⟩ ?_
  exact ⟨_, rfl, rfl, h⟩
noncomputable def F_X12_isChild (v1 : Int) (v2 : Int) (v3 : Int) (M : bM) : Option (Int) :=
  b_bind (b_loop (fun t => F_X12_isChild_s3 v1 v2 v3 t M) (0)) (Sum.elim (fun t => F_X12_isChild_b84 M) some)
theorem t_X12_isChild {l : Launch} {E : bE} {Q : Int → Prop} {v1 : Int} {v2 : Int} {v3 : Int} {M : bM} (h : b_wp (F_X12_isChild v1 v2 v3 M) (Q)) : V l E xX12_isChild (0, 0) 0 [(0, bR 11), (1, bI v1), (2, bI v2), (3, bI v3)] [] M (b_pIp M Q) := by
  unfold F_X12_isChild at h
  refine v_iconst ⟨by decide, by decide⟩ dX12_isChild_0 ?_
  refine v_istore (i := 4) (ls' := [(4, bI _), (0, bR _), (1, bI _), (2, bI _), (3, bI _)]) (by decide) dX12_isChild_1 rfl ?_
  refine v_sub (ls2 := [(0, bR _), (1, bI _), (2, bI _), (3, bI _), (4, bI _)]) [1, 2, 3, 4, 0] rfl ?_
  refine l_X12_isChild_3 (b_wp_m (fun t h => ?_) (b_wp_b h))
  cases t with
  | inr o => exact h
  | inl t =>
    show V l E xX12_isChild (0, 0) 84 [] [] _ (b_pIp M Q)
    replace h := b_wp_inl h
    exact t_X12_isChild_b84 h
theorem cf_X12_isChild {l : Launch} {E : bE} {M : bM} {v1 : Int} {v2 : Int} {v3 : Int} {Q : Int → Prop} (h : b_wp (F_X12_isChild v1 v2 v3 M) Q) : b_C l E xX12_isChild yX12_isChild [bR 11, bI v1, bI v2, bI v3] M (b_pIp M Q) := b_met (by decide) ⟨rfl, rfl⟩ (Nat.le_of_ble_eq_true rfl) (fun _ _ => t_X12_isChild h)
abbrev xX12_deadOn : bX := ("BurntHallModel", prog_14_method_26_code, 3, (Option.some Jvm.ClassFile.FieldType.int), b_rm 3 0 0, 0, "deadOn")
abbrev yX12_deadOn : MethodName := ⟨"BurntHallModel", "deadOn", "(II)I"⟩
theorem dX12_deadOn_0 : decode prog_14_method_26_code 0 = .ok (.aload_n 0, 1) := by decide +kernel
theorem dX12_deadOn_1 : decode prog_14_method_26_code 1 = .ok (.iload_n 1, 1) := by decide +kernel
theorem dX12_deadOn_2 : decode prog_14_method_26_code 2 = .ok (.invokevirtual 356, 3) := by decide +kernel
theorem dX12_deadOn_5 : decode prog_14_method_26_code 5 = .ok (.ifCond .eq 10, 3) := by decide +kernel
theorem dX12_deadOn_8 : decode prog_14_method_26_code 8 = .ok (.iload_n 2, 1) := by decide +kernel
theorem dX12_deadOn_9 : decode prog_14_method_26_code 9 = .ok (.invokestatic 347, 3) := by decide +kernel
theorem dX12_deadOn_12 : decode prog_14_method_26_code 12 = .ok (.ifCond .ne 6, 3) := by decide +kernel
theorem dX12_deadOn_15 : decode prog_14_method_26_code 15 = .ok (.bipush (-2), 2) := by decide +kernel
theorem dX12_deadOn_17 : decode prog_14_method_26_code 17 = .ok (.ireturn, 1) := by decide +kernel
theorem dX12_deadOn_18 : decode prog_14_method_26_code 18 = .ok (.aload_n 0, 1) := by decide +kernel
theorem dX12_deadOn_19 : decode prog_14_method_26_code 19 = .ok (.iload_n 2, 1) := by decide +kernel
theorem dX12_deadOn_20 : decode prog_14_method_26_code 20 = .ok (.invokevirtual 367, 3) := by decide +kernel
theorem dX12_deadOn_23 : decode prog_14_method_26_code 23 = .ok (.aload_n 0, 1) := by decide +kernel
theorem dX12_deadOn_24 : decode prog_14_method_26_code 24 = .ok (.iload_n 1, 1) := by decide +kernel
theorem dX12_deadOn_25 : decode prog_14_method_26_code 25 = .ok (.iload_n 2, 1) := by decide +kernel
theorem dX12_deadOn_26 : decode prog_14_method_26_code 26 = .ok (.invokevirtual 371, 3) := by decide +kernel
theorem dX12_deadOn_29 : decode prog_14_method_26_code 29 = .ok (.ireturn, 1) := by decide +kernel
noncomputable def F_X12_deadOn (v1 : Int) (v2 : Int) (M : bM) : Option (Int × bM) :=
  b_bind (F_X12_isPerson v1 M) (fun x1 => if x1 = 0 then (some ((-2), M)) else (b_bind (F_X12_isDay v2 M) (fun x3 => if x3 = 0 then (some ((-2), M)) else (b_bind (F_X12_makeOnes v2 M) (fun M5 => b_bind (F_X12_deadOf v1 v2 M5) (fun x6 => some (x6, M5)))))))
theorem t_X12_deadOn {l : Launch} {E : bE} {Q : (Int × bM) → Prop} {v1 : Int} {v2 : Int} {M : bM} (h : b_wp (F_X12_deadOn v1 v2 M) (Q)) : V l E xX12_deadOn (0, 0) 0 [(0, bR 11), (1, bI v1), (2, bI v2)] [] M (b_pI Q) := by
  unfold F_X12_deadOn at h
  refine v_aload_n (f := 0) 0 rfl dX12_deadOn_0 ?_
  refine v_iload_n (f := 1) 1 rfl dX12_deadOn_1 ?_
  refine v_cVIp (nA := 1) (As := [bI _]) (ix := 356) (cf_X12_isPerson (b_wp_b h)) rfl kd_11 rfl rfl wc_X12_isPerson wm_12_356 wi_X12_isPerson ws_X12_isPerson wn_12 ⟨by decide, by decide, by decide⟩ rfl ⟨by decide, by decide⟩ ⟨by decide, by decide⟩ (Nat.le_of_ble_eq_true rfl) dX12_deadOn_2 (fun x1 h => ?_)
  refine v_if_eq (tgt := 15) dX12_deadOn_5 (by decide) (fun c2 => ?_) (fun c2 => ?_)
  · replace h := b_wp_t c2 h
    refine v_bipush ⟨by decide, by decide⟩ (by decide) dX12_deadOn_15 ?_
    refine v_ireturn rfl dX12_deadOn_17 ⟨by decide, by decide⟩ ?_
    exact ⟨_, rfl, h⟩
  · replace h := b_wp_f c2 h
    refine v_iload_n (f := 2) 2 rfl dX12_deadOn_8 ?_
    refine v_cSIp (nA := 1) (As := [bI _]) (ix := 347) (cf_X12_isDay (b_wp_b h)) rfl wc_X12_isDay wm_12_347 wi_X12_isDay wn_12 ⟨by decide, by decide, by decide⟩ rfl ⟨by decide, by decide⟩ ⟨by decide, by decide⟩ (Nat.le_of_ble_eq_true rfl) dX12_deadOn_9 (fun x3 h => ?_)
    refine v_if_ne (tgt := 18) dX12_deadOn_12 (by decide) (fun c4 => ?_) (fun c4 => ?_)
    · replace h := b_wp_f c4 h
      refine v_aload_n (f := 0) 0 rfl dX12_deadOn_18 ?_
      refine v_iload_n (f := 2) 2 rfl dX12_deadOn_19 ?_
      refine v_cVV (nA := 1) (As := [bI _]) (ix := 367) (cf_X12_makeOnes (b_wp_b h)) rfl kd_11 rfl rfl wc_X12_makeOnes wm_12_367 wi_X12_makeOnes ws_X12_makeOnes wn_12 ⟨by decide, by decide, by decide⟩ rfl ⟨by decide, by decide⟩ ⟨by decide, by decide⟩ (Nat.le_of_ble_eq_true rfl) dX12_deadOn_20 (fun M5 h => ?_)
      refine v_aload_n (f := 0) 0 rfl dX12_deadOn_23 ?_
      refine v_iload_n (f := 1) 1 rfl dX12_deadOn_24 ?_
      refine v_iload_n (f := 2) 2 rfl dX12_deadOn_25 ?_
      refine v_cVIp (nA := 2) (As := [bI _, bI _]) (ix := 371) (cf_X12_deadOf (b_wp_b h)) rfl kd_11 rfl rfl wc_X12_deadOf wm_12_371 wi_X12_deadOf ws_X12_deadOf wn_12 ⟨by decide, by decide, by decide⟩ rfl ⟨by decide, by decide⟩ ⟨by decide, by decide⟩ (Nat.le_of_ble_eq_true rfl) dX12_deadOn_26 (fun x6 h => ?_)
      refine v_ireturn rfl dX12_deadOn_29 ⟨by decide, by decide⟩ ?_
      exact ⟨_, rfl, h⟩
    · replace h := b_wp_t c4 h
      refine v_bipush ⟨by decide, by decide⟩ (by decide) dX12_deadOn_15 ?_
      refine v_ireturn rfl dX12_deadOn_17 ⟨by decide, by decide⟩ ?_
      exact ⟨_, rfl, h⟩
theorem cf_X12_deadOn {l : Launch} {E : bE} {M : bM} {v1 : Int} {v2 : Int} {Q : (Int × bM) → Prop} (h : b_wp (F_X12_deadOn v1 v2 M) Q) : b_C l E xX12_deadOn yX12_deadOn [bR 11, bI v1, bI v2] M (b_pI Q) := b_met (by decide) ⟨rfl, rfl⟩ (Nat.le_of_ble_eq_true rfl) (fun _ _ => t_X12_deadOn h)
abbrev xX12_one : bX := ("BurntHallModel", prog_14_method_27_code, 4, (Option.some Jvm.ClassFile.FieldType.int), b_rm 3 0 0, 0, "one")
abbrev yX12_one : MethodName := ⟨"BurntHallModel", "one", "(III)I"⟩
theorem dX12_one_0 : decode prog_14_method_27_code 0 = .ok (.aload_n 0, 1) := by decide +kernel
theorem dX12_one_1 : decode prog_14_method_27_code 1 = .ok (.iload_n 1, 1) := by decide +kernel
theorem dX12_one_2 : decode prog_14_method_27_code 2 = .ok (.invokevirtual 356, 3) := by decide +kernel
theorem dX12_one_5 : decode prog_14_method_27_code 5 = .ok (.ifCond .eq 18, 3) := by decide +kernel
theorem dX12_one_8 : decode prog_14_method_27_code 8 = .ok (.aload_n 0, 1) := by decide +kernel
theorem dX12_one_9 : decode prog_14_method_27_code 9 = .ok (.iload_n 2, 1) := by decide +kernel
theorem dX12_one_10 : decode prog_14_method_27_code 10 = .ok (.invokevirtual 356, 3) := by decide +kernel
theorem dX12_one_13 : decode prog_14_method_27_code 13 = .ok (.ifCond .eq 10, 3) := by decide +kernel
theorem dX12_one_16 : decode prog_14_method_27_code 16 = .ok (.iload_n 3, 1) := by decide +kernel
theorem dX12_one_17 : decode prog_14_method_27_code 17 = .ok (.invokestatic 347, 3) := by decide +kernel
theorem dX12_one_20 : decode prog_14_method_27_code 20 = .ok (.ifCond .ne 6, 3) := by decide +kernel
theorem dX12_one_23 : decode prog_14_method_27_code 23 = .ok (.bipush (-2), 2) := by decide +kernel
theorem dX12_one_25 : decode prog_14_method_27_code 25 = .ok (.ireturn, 1) := by decide +kernel
theorem dX12_one_26 : decode prog_14_method_27_code 26 = .ok (.aload_n 0, 1) := by decide +kernel
theorem dX12_one_27 : decode prog_14_method_27_code 27 = .ok (.iload_n 3, 1) := by decide +kernel
theorem dX12_one_28 : decode prog_14_method_27_code 28 = .ok (.invokevirtual 367, 3) := by decide +kernel
theorem dX12_one_31 : decode prog_14_method_27_code 31 = .ok (.aload_n 0, 1) := by decide +kernel
theorem dX12_one_32 : decode prog_14_method_27_code 32 = .ok (.getfield 33, 3) := by decide +kernel
theorem dX12_one_35 : decode prog_14_method_27_code 35 = .ok (.iload_n 1, 1) := by decide +kernel
theorem dX12_one_36 : decode prog_14_method_27_code 36 = .ok (.iaload, 1) := by decide +kernel
theorem dX12_one_37 : decode prog_14_method_27_code 37 = .ok (.aload_n 0, 1) := by decide +kernel
theorem dX12_one_38 : decode prog_14_method_27_code 38 = .ok (.getfield 33, 3) := by decide +kernel
theorem dX12_one_41 : decode prog_14_method_27_code 41 = .ok (.iload_n 2, 1) := by decide +kernel
theorem dX12_one_42 : decode prog_14_method_27_code 42 = .ok (.iaload, 1) := by decide +kernel
theorem dX12_one_43 : decode prog_14_method_27_code 43 = .ok (.if_icmp .ne 7, 3) := by decide +kernel
theorem dX12_one_46 : decode prog_14_method_27_code 46 = .ok (.iconst 1, 1) := by decide +kernel
theorem dX12_one_47 : decode prog_14_method_27_code 47 = .ok (.goto 4, 3) := by decide +kernel
theorem dX12_one_50 : decode prog_14_method_27_code 50 = .ok (.iconst 0, 1) := by decide +kernel
theorem dX12_one_51 : decode prog_14_method_27_code 51 = .ok (.ireturn, 1) := by decide +kernel
noncomputable def F_X12_one (v1 : Int) (v2 : Int) (v3 : Int) (M : bM) : Option (Int × bM) :=
  b_bind (F_X12_isPerson v1 M) (fun x1 => if x1 = 0 then (some ((-2), M)) else (b_bind (F_X12_isPerson v2 M) (fun x3 => if x3 = 0 then (some ((-2), M)) else (b_bind (F_X12_isDay v3 M) (fun x5 => if x5 = 0 then (some ((-2), M)) else (b_bind (F_X12_makeOnes v3 M) (fun M7 => b_g ((0 ≤ v1 ∧ v1 < 80) ∧ (0 ≤ v2 ∧ v2 < 80)) (if (M7 168 v1) = (M7 168 v2) then (some (1, M7)) else (some (0, M7))))))))))
theorem t_X12_one {l : Launch} {E : bE} {Q : (Int × bM) → Prop} {v1 : Int} {v2 : Int} {v3 : Int} {M : bM} (h : b_wp (F_X12_one v1 v2 v3 M) (Q)) : V l E xX12_one (0, 0) 0 [(0, bR 11), (1, bI v1), (2, bI v2), (3, bI v3)] [] M (b_pI Q) := by
  unfold F_X12_one at h
  refine v_aload_n (f := 0) 0 rfl dX12_one_0 ?_
  refine v_iload_n (f := 1) 1 rfl dX12_one_1 ?_
  refine v_cVIp (nA := 1) (As := [bI _]) (ix := 356) (cf_X12_isPerson (b_wp_b h)) rfl kd_11 rfl rfl wc_X12_isPerson wm_12_356 wi_X12_isPerson ws_X12_isPerson wn_12 ⟨by decide, by decide, by decide⟩ rfl ⟨by decide, by decide⟩ ⟨by decide, by decide⟩ (Nat.le_of_ble_eq_true rfl) dX12_one_2 (fun x1 h => ?_)
  refine v_if_eq (tgt := 23) dX12_one_5 (by decide) (fun c2 => ?_) (fun c2 => ?_)
  · replace h := b_wp_t c2 h
    refine v_bipush ⟨by decide, by decide⟩ (by decide) dX12_one_23 ?_
    refine v_ireturn rfl dX12_one_25 ⟨by decide, by decide⟩ ?_
    exact ⟨_, rfl, h⟩
  · replace h := b_wp_f c2 h
    refine v_aload_n (f := 0) 0 rfl dX12_one_8 ?_
    refine v_iload_n (f := 2) 2 rfl dX12_one_9 ?_
    refine v_cVIp (nA := 1) (As := [bI _]) (ix := 356) (cf_X12_isPerson (b_wp_b h)) rfl kd_11 rfl rfl wc_X12_isPerson wm_12_356 wi_X12_isPerson ws_X12_isPerson wn_12 ⟨by decide, by decide, by decide⟩ rfl ⟨by decide, by decide⟩ ⟨by decide, by decide⟩ (Nat.le_of_ble_eq_true rfl) dX12_one_10 (fun x3 h => ?_)
    refine v_if_eq (tgt := 23) dX12_one_13 (by decide) (fun c4 => ?_) (fun c4 => ?_)
    · replace h := b_wp_t c4 h
      refine v_bipush ⟨by decide, by decide⟩ (by decide) dX12_one_23 ?_
      refine v_ireturn rfl dX12_one_25 ⟨by decide, by decide⟩ ?_
      exact ⟨_, rfl, h⟩
    · replace h := b_wp_f c4 h
      refine v_iload_n (f := 3) 3 rfl dX12_one_16 ?_
      refine v_cSIp (nA := 1) (As := [bI _]) (ix := 347) (cf_X12_isDay (b_wp_b h)) rfl wc_X12_isDay wm_12_347 wi_X12_isDay wn_12 ⟨by decide, by decide, by decide⟩ rfl ⟨by decide, by decide⟩ ⟨by decide, by decide⟩ (Nat.le_of_ble_eq_true rfl) dX12_one_17 (fun x5 h => ?_)
      refine v_if_ne (tgt := 26) dX12_one_20 (by decide) (fun c6 => ?_) (fun c6 => ?_)
      · replace h := b_wp_f c6 h
        refine v_aload_n (f := 0) 0 rfl dX12_one_26 ?_
        refine v_iload_n (f := 3) 3 rfl dX12_one_27 ?_
        refine v_cVV (nA := 1) (As := [bI _]) (ix := 367) (cf_X12_makeOnes (b_wp_b h)) rfl kd_11 rfl rfl wc_X12_makeOnes wm_12_367 wi_X12_makeOnes ws_X12_makeOnes wn_12 ⟨by decide, by decide, by decide⟩ rfl ⟨by decide, by decide⟩ ⟨by decide, by decide⟩ (Nat.le_of_ble_eq_true rfl) dX12_one_28 (fun M7 h => ?_)
        obtain ⟨⟨g8, g9⟩, h⟩ := b_wp_g h
        refine v_aload_n (f := 0) 0 rfl dX12_one_31 ?_
        refine v_getR (kf := 19) (kz := 19) rfl kd_11 rfl ⟨by decide, by decide⟩ rfl wf_12_33 dX12_one_32 ?_
        refine v_iload_n (f := 1) 1 rfl dX12_one_35 ?_
        refine v_iaload kd_168 g8 (by decide) dX12_one_36 ?_
        refine v_aload_n (f := 0) 0 rfl dX12_one_37 ?_
        refine v_getR (kf := 19) (kz := 19) rfl kd_11 rfl ⟨by decide, by decide⟩ rfl wf_12_33 dX12_one_38 ?_
        refine v_iload_n (f := 2) 2 rfl dX12_one_41 ?_
        refine v_iaload kd_168 g9 (by decide) dX12_one_42 ?_
        refine v_icmp_ne (tgt := 50) dX12_one_43 (by decide) (fun c10 => ?_) (fun c10 => ?_)
        · replace h := b_wp_f c10 h
          refine v_iconst ⟨by decide, by decide⟩ dX12_one_50 ?_
          refine v_ireturn rfl dX12_one_51 ⟨by decide, by decide⟩ ?_
          exact ⟨_, rfl, h⟩
        · replace h := b_wp_t c10 h
          refine v_iconst ⟨by decide, by decide⟩ dX12_one_46 ?_
          refine v_goto (tgt := 51) dX12_one_47 (by decide) ?_
          refine v_ireturn rfl dX12_one_51 ⟨by decide, by decide⟩ ?_
          exact ⟨_, rfl, h⟩
      · replace h := b_wp_t c6 h
        refine v_bipush ⟨by decide, by decide⟩ (by decide) dX12_one_23 ?_
        refine v_ireturn rfl dX12_one_25 ⟨by decide, by decide⟩ ?_
        exact ⟨_, rfl, h⟩
theorem cf_X12_one {l : Launch} {E : bE} {M : bM} {v1 : Int} {v2 : Int} {v3 : Int} {Q : (Int × bM) → Prop} (h : b_wp (F_X12_one v1 v2 v3 M) Q) : b_C l E xX12_one yX12_one [bR 11, bI v1, bI v2, bI v3] M (b_pI Q) := b_met (by decide) ⟨rfl, rfl⟩ (Nat.le_of_ble_eq_true rfl) (fun _ _ => t_X12_one h)
abbrev xX12_names : bX := ("BurntHallModel", prog_14_method_28_code, 4, (Option.some Jvm.ClassFile.FieldType.int), b_rm 3 0 0, 0, "names")
abbrev yX12_names : MethodName := ⟨"BurntHallModel", "names", "(I)I"⟩
theorem dX12_names_0 : decode prog_14_method_28_code 0 = .ok (.iload_n 1, 1) := by decide +kernel
theorem dX12_names_1 : decode prog_14_method_28_code 1 = .ok (.invokestatic 347, 3) := by decide +kernel
theorem dX12_names_4 : decode prog_14_method_28_code 4 = .ok (.ifCond .ne 6, 3) := by decide +kernel
theorem dX12_names_7 : decode prog_14_method_28_code 7 = .ok (.bipush (-2), 2) := by decide +kernel
theorem dX12_names_9 : decode prog_14_method_28_code 9 = .ok (.ireturn, 1) := by decide +kernel
theorem dX12_names_10 : decode prog_14_method_28_code 10 = .ok (.aload_n 0, 1) := by decide +kernel
theorem dX12_names_11 : decode prog_14_method_28_code 11 = .ok (.iload_n 1, 1) := by decide +kernel
theorem dX12_names_12 : decode prog_14_method_28_code 12 = .ok (.invokevirtual 367, 3) := by decide +kernel
theorem dX12_names_15 : decode prog_14_method_28_code 15 = .ok (.iconst 0, 1) := by decide +kernel
theorem dX12_names_16 : decode prog_14_method_28_code 16 = .ok (.istore_n 2, 1) := by decide +kernel
theorem dX12_names_17 : decode prog_14_method_28_code 17 = .ok (.iconst 0, 1) := by decide +kernel
theorem dX12_names_18 : decode prog_14_method_28_code 18 = .ok (.istore_n 3, 1) := by decide +kernel
theorem dX12_names_19 : decode prog_14_method_28_code 19 = .ok (.iload_n 3, 1) := by decide +kernel
theorem dX12_names_20 : decode prog_14_method_28_code 20 = .ok (.aload_n 0, 1) := by decide +kernel
theorem dX12_names_21 : decode prog_14_method_28_code 21 = .ok (.getfield 353, 3) := by decide +kernel
theorem dX12_names_24 : decode prog_14_method_28_code 24 = .ok (.if_icmp .ge 62, 3) := by decide +kernel
theorem dX12_names_27 : decode prog_14_method_28_code 27 = .ok (.iload_n 2, 1) := by decide +kernel
theorem dX12_names_28 : decode prog_14_method_28_code 28 = .ok (.aload_n 0, 1) := by decide +kernel
theorem dX12_names_29 : decode prog_14_method_28_code 29 = .ok (.getfield 21, 3) := by decide +kernel
theorem dX12_names_32 : decode prog_14_method_28_code 32 = .ok (.iload_n 3, 1) := by decide +kernel
theorem dX12_names_33 : decode prog_14_method_28_code 33 = .ok (.iaload, 1) := by decide +kernel
theorem dX12_names_34 : decode prog_14_method_28_code 34 = .ok (.iconst 2, 1) := by decide +kernel
theorem dX12_names_35 : decode prog_14_method_28_code 35 = .ok (.if_icmp .ne 42, 3) := by decide +kernel
theorem dX12_names_38 : decode prog_14_method_28_code 38 = .ok (.aload_n 0, 1) := by decide +kernel
theorem dX12_names_39 : decode prog_14_method_28_code 39 = .ok (.getfield 30, 3) := by decide +kernel
theorem dX12_names_42 : decode prog_14_method_28_code 42 = .ok (.iload_n 3, 1) := by decide +kernel
theorem dX12_names_43 : decode prog_14_method_28_code 43 = .ok (.iaload, 1) := by decide +kernel
theorem dX12_names_44 : decode prog_14_method_28_code 44 = .ok (.iload_n 1, 1) := by decide +kernel
theorem dX12_names_45 : decode prog_14_method_28_code 45 = .ok (.if_icmp .gt 32, 3) := by decide +kernel
theorem dX12_names_48 : decode prog_14_method_28_code 48 = .ok (.aload_n 0, 1) := by decide +kernel
theorem dX12_names_49 : decode prog_14_method_28_code 49 = .ok (.getfield 33, 3) := by decide +kernel
theorem dX12_names_52 : decode prog_14_method_28_code 52 = .ok (.aload_n 0, 1) := by decide +kernel
theorem dX12_names_53 : decode prog_14_method_28_code 53 = .ok (.getfield 24, 3) := by decide +kernel
theorem dX12_names_56 : decode prog_14_method_28_code 56 = .ok (.iload_n 3, 1) := by decide +kernel
theorem dX12_names_57 : decode prog_14_method_28_code 57 = .ok (.iaload, 1) := by decide +kernel
theorem dX12_names_58 : decode prog_14_method_28_code 58 = .ok (.iaload, 1) := by decide +kernel
theorem dX12_names_59 : decode prog_14_method_28_code 59 = .ok (.aload_n 0, 1) := by decide +kernel
theorem dX12_names_60 : decode prog_14_method_28_code 60 = .ok (.getfield 33, 3) := by decide +kernel
theorem dX12_names_63 : decode prog_14_method_28_code 63 = .ok (.aload_n 0, 1) := by decide +kernel
theorem dX12_names_64 : decode prog_14_method_28_code 64 = .ok (.getfield 27, 3) := by decide +kernel
theorem dX12_names_67 : decode prog_14_method_28_code 67 = .ok (.iload_n 3, 1) := by decide +kernel
theorem dX12_names_68 : decode prog_14_method_28_code 68 = .ok (.iaload, 1) := by decide +kernel
theorem dX12_names_69 : decode prog_14_method_28_code 69 = .ok (.iaload, 1) := by decide +kernel
theorem dX12_names_70 : decode prog_14_method_28_code 70 = .ok (.if_icmp .ne 7, 3) := by decide +kernel
theorem dX12_names_73 : decode prog_14_method_28_code 73 = .ok (.iconst 1, 1) := by decide +kernel
theorem dX12_names_74 : decode prog_14_method_28_code 74 = .ok (.goto 4, 3) := by decide +kernel
theorem dX12_names_77 : decode prog_14_method_28_code 77 = .ok (.iconst 0, 1) := by decide +kernel
theorem dX12_names_78 : decode prog_14_method_28_code 78 = .ok (.iadd, 1) := by decide +kernel
theorem dX12_names_79 : decode prog_14_method_28_code 79 = .ok (.istore_n 2, 1) := by decide +kernel
theorem dX12_names_80 : decode prog_14_method_28_code 80 = .ok (.iinc 3 1, 3) := by decide +kernel
theorem dX12_names_83 : decode prog_14_method_28_code 83 = .ok (.goto (-64), 3) := by decide +kernel
theorem dX12_names_86 : decode prog_14_method_28_code 86 = .ok (.iload_n 2, 1) := by decide +kernel
theorem dX12_names_87 : decode prog_14_method_28_code 87 = .ok (.ireturn, 1) := by decide +kernel
abbrev A_X12_names_19 (l : Launch) (E : bE) (Q : (Int × bM) → Prop) (v1 : Int) (M : bM) : (Int × Int) → Prop := (fun t : Int × Int => V l E xX12_names (0, 0) 19 [(0, bR 11), (1, bI v1), (2, bI (t.1)), (3, bI (t.2))] [] M (b_pI Q))
abbrev X_X12_names_19 (l : Launch) (E : bE) (Q : (Int × bM) → Prop) (v1 : Int) (M : bM) : (Int) → Prop := (fun t : Int => V l E xX12_names (0, 0) 86 [(2, bI t)] [] M (b_pI Q))
noncomputable def F_X12_names_b78 (v1 : Int) (v3 : Int) (u0 : Int) (u1 : Int) (M : bM) : Option ((Int × Int) ⊕ (Int)) :=
  b_g ((b_i32 (u0 + u1)) ∧ (b_i32 (v3 + 1))) (some (.inl ((u0 + u1), (v3 + 1))))
theorem t_X12_names_b78 {l : Launch} {E : bE} {Q : (Int × bM) → Prop} {v1 : Int} {v3 : Int} {u0 : Int} {u1 : Int} {M : bM} (h : b_wp (F_X12_names_b78 v1 v3 u0 u1 M) (Sum.elim (A_X12_names_19 l E Q v1 M) (X_X12_names_19 l E Q v1 M))) : V l E xX12_names (0, 0) 78 [(0, bR 11), (1, bI v1), (3, bI v3)] [bI u1, bI u0] M (b_pI Q) := by
  unfold F_X12_names_b78 at h
  obtain ⟨⟨g7, g8⟩, h⟩ := b_wp_g h
  refine v_iaddN g7 dX12_names_78 ?_
  refine v_istore_n (g := 2) (i := 2) (ls' := [(2, bI _), (0, bR _), (1, bI _), (3, bI _)]) rfl (by decide) dX12_names_79 rfl ?_
  refine v_iincN (ls' := [(3, bI _), (2, bI _), (0, bR _), (1, bI _)]) 3 rfl (by decide) g8 dX12_names_80 rfl ?_
  refine v_goto (tgt := 19) dX12_names_83 (by decide) ?_
  refine v_sub (ls2 := [(0, bR _), (1, bI _), (2, bI _), (3, bI _)]) [2, 3, 1, 0] rfl ?_
  exact h
noncomputable def F_X12_names_b77 (v1 : Int) (v3 : Int) (u0 : Int) (M : bM) : Option ((Int × Int) ⊕ (Int)) :=
  F_X12_names_b78 v1 v3 u0 0 M
theorem t_X12_names_b77 {l : Launch} {E : bE} {Q : (Int × bM) → Prop} {v1 : Int} {v3 : Int} {u0 : Int} {M : bM} (h : b_wp (F_X12_names_b77 v1 v3 u0 M) (Sum.elim (A_X12_names_19 l E Q v1 M) (X_X12_names_19 l E Q v1 M))) : V l E xX12_names (0, 0) 77 [(0, bR 11), (1, bI v1), (3, bI v3)] [bI u0] M (b_pI Q) := by
  unfold F_X12_names_b77 at h
  refine v_iconst ⟨by decide, by decide⟩ dX12_names_77 ?_
  exact t_X12_names_b78 h
noncomputable def F_X12_names_s19 (v1 : Int) (v2 : Int) (v3 : Int) (M : bM) : Option ((Int × Int) ⊕ (Int)) :=
  if (M 11 13) ≤ v3 then (some (.inr (v2))) else (b_g (0 ≤ v3 ∧ v3 < 400) (if (M 164 v3) = 2 then (b_g (0 ≤ v3 ∧ v3 < 400) (if v1 < (M 167 v3) then (F_X12_names_b77 v1 v3 v2 M) else (b_g ((0 ≤ v3 ∧ v3 < 400) ∧ (0 ≤ (M 165 v3) ∧ (M 165 v3) < 80) ∧ (0 ≤ (M 166 v3) ∧ (M 166 v3) < 80)) (if (M 168 (M 165 v3)) = (M 168 (M 166 v3)) then (F_X12_names_b78 v1 v3 v2 1 M) else (F_X12_names_b77 v1 v3 v2 M))))) else (F_X12_names_b77 v1 v3 v2 M)))
theorem t_X12_names_s19 {l : Launch} {E : bE} {Q : (Int × bM) → Prop} {v1 : Int} {v2 : Int} {v3 : Int} {M : bM} (h : b_wp (F_X12_names_s19 v1 v2 v3 M) (Sum.elim (A_X12_names_19 l E Q v1 M) (X_X12_names_19 l E Q v1 M))) : V l E xX12_names (0, 0) 19 [(0, bR 11), (1, bI v1), (2, bI v2), (3, bI v3)] [] M (b_pI Q) := by
  unfold F_X12_names_s19 at h
  refine v_iload_n (f := 3) 3 rfl dX12_names_19 ?_
  refine v_aload_n (f := 0) 0 rfl dX12_names_20 ?_
  refine v_getI (kf := 13) (kz := 13) rfl kd_11 rfl ⟨by decide, by decide⟩ rfl wf_12_353 dX12_names_21 ?_
  refine v_icmp_ge (tgt := 86) dX12_names_24 (by decide) (fun c4 => ?_) (fun c4 => ?_)
  · replace h := b_wp_t c4 h
    refine v_sub (ls2 := [(2, bI _)]) [2] rfl ?_
    exact h
  · replace h := b_wp_f c4 h
    obtain ⟨g5, h⟩ := b_wp_g h
    refine v_iload_n (f := 2) 2 rfl dX12_names_27 ?_
    refine v_aload_n (f := 0) 0 rfl dX12_names_28 ?_
    refine v_getR (kf := 15) (kz := 15) rfl kd_11 rfl ⟨by decide, by decide⟩ rfl wf_12_21 dX12_names_29 ?_
    refine v_iload_n (f := 3) 3 rfl dX12_names_32 ?_
    refine v_iaload kd_164 g5 (by decide) dX12_names_33 ?_
    refine v_iconst ⟨by decide, by decide⟩ dX12_names_34 ?_
    refine v_icmp_ne (tgt := 77) dX12_names_35 (by decide) (fun c6 => ?_) (fun c6 => ?_)
    · replace h := b_wp_f c6 h
      refine v_sub (ls2 := [(0, bR _), (1, bI _), (3, bI _)]) [0, 1, 3] rfl ?_
      exact t_X12_names_b77 h
    · replace h := b_wp_t c6 h
      obtain ⟨g9, h⟩ := b_wp_g h
      refine v_aload_n (f := 0) 0 rfl dX12_names_38 ?_
      refine v_getR (kf := 18) (kz := 18) rfl kd_11 rfl ⟨by decide, by decide⟩ rfl wf_12_30 dX12_names_39 ?_
      refine v_iload_n (f := 3) 3 rfl dX12_names_42 ?_
      refine v_iaload kd_167 g9 (by decide) dX12_names_43 ?_
      refine v_iload_n (f := 1) 1 rfl dX12_names_44 ?_
      refine v_icmp_gt (tgt := 77) dX12_names_45 (by decide) (fun c10 => ?_) (fun c10 => ?_)
      · replace h := b_wp_t c10 h
        refine v_sub (ls2 := [(0, bR _), (1, bI _), (3, bI _)]) [0, 1, 3] rfl ?_
        exact t_X12_names_b77 h
      · replace h := b_wp_f c10 h
        obtain ⟨⟨g11, g12, g13⟩, h⟩ := b_wp_g h
        refine v_aload_n (f := 0) 0 rfl dX12_names_48 ?_
        refine v_getR (kf := 19) (kz := 19) rfl kd_11 rfl ⟨by decide, by decide⟩ rfl wf_12_33 dX12_names_49 ?_
        refine v_aload_n (f := 0) 0 rfl dX12_names_52 ?_
        refine v_getR (kf := 16) (kz := 16) rfl kd_11 rfl ⟨by decide, by decide⟩ rfl wf_12_24 dX12_names_53 ?_
        refine v_iload_n (f := 3) 3 rfl dX12_names_56 ?_
        refine v_iaload kd_165 g11 (by decide) dX12_names_57 ?_
        refine v_iaload kd_168 g12 (by decide) dX12_names_58 ?_
        refine v_aload_n (f := 0) 0 rfl dX12_names_59 ?_
        refine v_getR (kf := 19) (kz := 19) rfl kd_11 rfl ⟨by decide, by decide⟩ rfl wf_12_33 dX12_names_60 ?_
        refine v_aload_n (f := 0) 0 rfl dX12_names_63 ?_
        refine v_getR (kf := 17) (kz := 17) rfl kd_11 rfl ⟨by decide, by decide⟩ rfl wf_12_27 dX12_names_64 ?_
        refine v_iload_n (f := 3) 3 rfl dX12_names_67 ?_
        refine v_iaload kd_166 g11 (by decide) dX12_names_68 ?_
        refine v_iaload kd_168 g13 (by decide) dX12_names_69 ?_
        refine v_icmp_ne (tgt := 77) dX12_names_70 (by decide) (fun c14 => ?_) (fun c14 => ?_)
        · replace h := b_wp_f c14 h
          refine v_sub (ls2 := [(0, bR _), (1, bI _), (3, bI _)]) [0, 1, 3] rfl ?_
          exact t_X12_names_b77 h
        · replace h := b_wp_t c14 h
          refine v_iconst ⟨by decide, by decide⟩ dX12_names_73 ?_
          refine v_goto (tgt := 78) dX12_names_74 (by decide) ?_
          refine v_sub (ls2 := [(0, bR _), (1, bI _), (3, bI _)]) [0, 1, 3] rfl ?_
          exact t_X12_names_b78 h
theorem l_X12_names_19 {l : Launch} {E : bE} {Q : (Int × bM) → Prop} {v1 : Int} {M : bM} {s : Int × Int} (h : b_wp (b_loop (fun t => F_X12_names_s19 v1 t.1 t.2 M) s) (X_X12_names_19 l E Q v1 M)) : A_X12_names_19 l E Q v1 M s := b_loop_wp (fun t h => t_X12_names_s19 h) s h
noncomputable def F_X12_names_b86 (v2 : Int) (M : bM) : Option (Int × bM) :=
  some (v2, M)
theorem t_X12_names_b86 {l : Launch} {E : bE} {Q : (Int × bM) → Prop} {v2 : Int} {M : bM} (h : b_wp (F_X12_names_b86 v2 M) (Q)) : V l E xX12_names (0, 0) 86 [(2, bI v2)] [] M (b_pI Q) := by
  unfold F_X12_names_b86 at h
  refine v_iload_n (f := 2) 0 rfl dX12_names_86 ?_
  refine v_ireturn rfl dX12_names_87 ⟨by decide, by decide⟩ ?_
  exact ⟨_, rfl, h⟩
noncomputable def F_X12_names (v1 : Int) (M : bM) : Option (Int × bM) :=
  b_bind (F_X12_isDay v1 M) (fun x1 => if x1 = 0 then (some ((-2), M)) else (b_bind (F_X12_makeOnes v1 M) (fun M3 => b_bind (b_loop (fun t => F_X12_names_s19 v1 t.1 t.2 M3) (0, 0)) (fun t => F_X12_names_b86 t M3))))
theorem t_X12_names {l : Launch} {E : bE} {Q : (Int × bM) → Prop} {v1 : Int} {M : bM} (h : b_wp (F_X12_names v1 M) (Q)) : V l E xX12_names (0, 0) 0 [(0, bR 11), (1, bI v1)] [] M (b_pI Q) := by
  unfold F_X12_names at h
  refine v_iload_n (f := 1) 1 rfl dX12_names_0 ?_
  refine v_cSIp (nA := 1) (As := [bI _]) (ix := 347) (cf_X12_isDay (b_wp_b h)) rfl wc_X12_isDay wm_12_347 wi_X12_isDay wn_12 ⟨by decide, by decide, by decide⟩ rfl ⟨by decide, by decide⟩ ⟨by decide, by decide⟩ (Nat.le_of_ble_eq_true rfl) dX12_names_1 (fun x1 h => ?_)
  refine v_if_ne (tgt := 10) dX12_names_4 (by decide) (fun c2 => ?_) (fun c2 => ?_)
  · replace h := b_wp_f c2 h
    refine v_aload_n (f := 0) 0 rfl dX12_names_10 ?_
    refine v_iload_n (f := 1) 1 rfl dX12_names_11 ?_
    refine v_cVV (nA := 1) (As := [bI _]) (ix := 367) (cf_X12_makeOnes (b_wp_b h)) rfl kd_11 rfl rfl wc_X12_makeOnes wm_12_367 wi_X12_makeOnes ws_X12_makeOnes wn_12 ⟨by decide, by decide, by decide⟩ rfl ⟨by decide, by decide⟩ ⟨by decide, by decide⟩ (Nat.le_of_ble_eq_true rfl) dX12_names_12 (fun M3 h => ?_)
    refine v_iconst ⟨by decide, by decide⟩ dX12_names_15 ?_
    refine v_istore_n (g := 2) (i := 2) (ls' := [(2, bI _), (0, bR _), (1, bI _)]) rfl (by decide) dX12_names_16 rfl ?_
    refine v_iconst ⟨by decide, by decide⟩ dX12_names_17 ?_
    refine v_istore_n (g := 3) (i := 3) (ls' := [(3, bI _), (2, bI _), (0, bR _), (1, bI _)]) rfl (by decide) dX12_names_18 rfl ?_
    refine v_sub (ls2 := [(0, bR _), (1, bI _), (2, bI _), (3, bI _)]) [2, 3, 1, 0] rfl ?_
    refine l_X12_names_19 (b_wp_m (fun t h => ?_) (b_wp_b h))
    show V l E xX12_names (0, 0) 86 [(2, bI _)] [] _ (b_pI Q)
    exact t_X12_names_b86 h
  · replace h := b_wp_t c2 h
    refine v_bipush ⟨by decide, by decide⟩ (by decide) dX12_names_7 ?_
    refine v_ireturn rfl dX12_names_9 ⟨by decide, by decide⟩ ?_
    exact ⟨_, rfl, h⟩
theorem cf_X12_names {l : Launch} {E : bE} {M : bM} {v1 : Int} {Q : (Int × bM) → Prop} (h : b_wp (F_X12_names v1 M) Q) : b_C l E xX12_names yX12_names [bR 11, bI v1] M (b_pI Q) := b_met (by decide) ⟨rfl, rfl⟩ (Nat.le_of_ble_eq_true rfl) (fun _ _ => t_X12_names h)
abbrev xX12_isLot : bX := ("BurntHallModel", prog_14_method_29_code, 2, (Option.some Jvm.ClassFile.FieldType.boolean), b_rm 2 0 0, 0, "isLot")
abbrev yX12_isLot : MethodName := ⟨"BurntHallModel", "isLot", "(I)Z"⟩
theorem dX12_isLot_0 : decode prog_14_method_29_code 0 = .ok (.iload_n 1, 1) := by decide +kernel
theorem dX12_isLot_1 : decode prog_14_method_29_code 1 = .ok (.iconst 0, 1) := by decide +kernel
theorem dX12_isLot_2 : decode prog_14_method_29_code 2 = .ok (.aload_n 0, 1) := by decide +kernel
theorem dX12_isLot_3 : decode prog_14_method_29_code 3 = .ok (.getfield 374, 3) := by decide +kernel
theorem dX12_isLot_6 : decode prog_14_method_29_code 6 = .ok (.iconst 1, 1) := by decide +kernel
theorem dX12_isLot_7 : decode prog_14_method_29_code 7 = .ok (.isub, 1) := by decide +kernel
theorem dX12_isLot_8 : decode prog_14_method_29_code 8 = .ok (.invokestatic 279, 3) := by decide +kernel
theorem dX12_isLot_11 : decode prog_14_method_29_code 11 = .ok (.ireturn, 1) := by decide +kernel
noncomputable def F_X12_isLot (v1 : Int) (M : bM) : Option (Int) :=
  b_g (b_i32 ((M 11 20) - 1)) (b_bind (F_X12_in v1 0 ((M 11 20) - 1) M) (fun x2 => b_g (x2 = 0 ∨ x2 = 1) (some x2)))
theorem t_X12_isLot {l : Launch} {E : bE} {Q : Int → Prop} {v1 : Int} {M : bM} (h : b_wp (F_X12_isLot v1 M) (Q)) : V l E xX12_isLot (0, 0) 0 [(0, bR 11), (1, bI v1)] [] M (b_pIp M Q) := by
  unfold F_X12_isLot at h
  obtain ⟨g1, h⟩ := b_wp_g h
  refine v_iload_n (f := 1) 1 rfl dX12_isLot_0 ?_
  refine v_iconst ⟨by decide, by decide⟩ dX12_isLot_1 ?_
  refine v_aload_n (f := 0) 0 rfl dX12_isLot_2 ?_
  refine v_getI (kf := 20) (kz := 20) rfl kd_11 rfl ⟨by decide, by decide⟩ rfl wf_12_374 dX12_isLot_3 ?_
  refine v_iconst ⟨by decide, by decide⟩ dX12_isLot_6 ?_
  refine v_isubN g1 dX12_isLot_7 ?_
  refine v_cSIp (nA := 3) (As := [bI _, bI _, bI _]) (ix := 279) (cf_X12_in (b_wp_b h)) rfl wc_X12_in wm_12_279 wi_X12_in wn_12 ⟨by decide, by decide, by decide⟩ rfl ⟨by decide, by decide⟩ ⟨by decide, by decide⟩ (Nat.le_of_ble_eq_true rfl) dX12_isLot_8 (fun x2 h => ?_)
  obtain ⟨g3, h⟩ := b_wp_g h
  refine v_zreturn rfl g3 dX12_isLot_11 ⟨by decide, by decide⟩ ?_
  exact ⟨_, rfl, rfl, h⟩
theorem cf_X12_isLot {l : Launch} {E : bE} {M : bM} {v1 : Int} {Q : Int → Prop} (h : b_wp (F_X12_isLot v1 M) Q) : b_C l E xX12_isLot yX12_isLot [bR 11, bI v1] M (b_pIp M Q) := b_met (by decide) ⟨rfl, rfl⟩ (Nat.le_of_ble_eq_true rfl) (fun _ _ => t_X12_isLot h)
abbrev xX12_isFeet : bX := ("BurntHallModel", prog_14_method_30_code, 1, (Option.some Jvm.ClassFile.FieldType.boolean), b_rm 2 0 0, 0, "isFeet")
abbrev yX12_isFeet : MethodName := ⟨"BurntHallModel", "isFeet", "(I)Z"⟩
theorem dX12_isFeet_0 : decode prog_14_method_30_code 0 = .ok (.iload_n 0, 1) := by decide +kernel
theorem dX12_isFeet_1 : decode prog_14_method_30_code 1 = .ok (.iconst 1, 1) := by decide +kernel
theorem dX12_isFeet_2 : decode prog_14_method_30_code 2 = .ok (.ldc_w 377, 3) := by decide +kernel
theorem dX12_isFeet_5 : decode prog_14_method_30_code 5 = .ok (.invokestatic 279, 3) := by decide +kernel
theorem dX12_isFeet_8 : decode prog_14_method_30_code 8 = .ok (.ireturn, 1) := by decide +kernel
noncomputable def F_X12_isFeet (v0 : Int) (M : bM) : Option (Int) :=
  b_bind (F_X12_in v0 1 999999 M) (fun x1 => b_g (x1 = 0 ∨ x1 = 1) (some x1))
theorem t_X12_isFeet {l : Launch} {E : bE} {Q : Int → Prop} {v0 : Int} {M : bM} (h : b_wp (F_X12_isFeet v0 M) (Q)) : V l E xX12_isFeet (0, 0) 0 [(0, bI v0)] [] M (b_pIp M Q) := by
  unfold F_X12_isFeet at h
  refine v_iload_n (f := 0) 0 rfl dX12_isFeet_0 ?_
  refine v_iconst ⟨by decide, by decide⟩ dX12_isFeet_1 ?_
  refine v_ldcw (n := 999999) ⟨by decide, by decide⟩ wk_12_377 dX12_isFeet_2 ?_
  refine v_cSIp (nA := 3) (As := [bI _, bI _, bI _]) (ix := 279) (cf_X12_in (b_wp_b h)) rfl wc_X12_in wm_12_279 wi_X12_in wn_12 ⟨by decide, by decide, by decide⟩ rfl ⟨by decide, by decide⟩ ⟨by decide, by decide⟩ (Nat.le_of_ble_eq_true rfl) dX12_isFeet_5 (fun x1 h => ?_)
  obtain ⟨g2, h⟩ := b_wp_g h
  refine v_zreturn rfl g2 dX12_isFeet_8 ⟨by decide, by decide⟩ ?_
  exact ⟨_, rfl, rfl, h⟩
theorem cf_X12_isFeet {l : Launch} {E : bE} {M : bM} {v0 : Int} {Q : Int → Prop} (h : b_wp (F_X12_isFeet v0 M) Q) : b_C l E xX12_isFeet yX12_isFeet [bI v0] M (b_pIp M Q) := b_met (by decide) ⟨rfl, rfl⟩ (Nat.le_of_ble_eq_true rfl) (fun _ _ => t_X12_isFeet h)
abbrev xX12_add : bX := ("BurntHallModel", prog_14_method_31_code, 5, (Option.some Jvm.ClassFile.FieldType.int), b_rm 1 0 0, 0, "add")
abbrev yX12_add : MethodName := ⟨"BurntHallModel", "add", "(IIJ)I"⟩
theorem dX12_add_0 : decode prog_14_method_31_code 0 = .ok (.aload_n 0, 1) := by decide +kernel
theorem dX12_add_1 : decode prog_14_method_31_code 1 = .ok (.getfield 36, 3) := by decide +kernel
theorem dX12_add_4 : decode prog_14_method_31_code 4 = .ok (.aload_n 0, 1) := by decide +kernel
theorem dX12_add_5 : decode prog_14_method_31_code 5 = .ok (.getfield 374, 3) := by decide +kernel
theorem dX12_add_8 : decode prog_14_method_31_code 8 = .ok (.iload_n 1, 1) := by decide +kernel
theorem dX12_add_9 : decode prog_14_method_31_code 9 = .ok (.iastore, 1) := by decide +kernel
theorem dX12_add_10 : decode prog_14_method_31_code 10 = .ok (.aload_n 0, 1) := by decide +kernel
theorem dX12_add_11 : decode prog_14_method_31_code 11 = .ok (.getfield 39, 3) := by decide +kernel
theorem dX12_add_14 : decode prog_14_method_31_code 14 = .ok (.aload_n 0, 1) := by decide +kernel
theorem dX12_add_15 : decode prog_14_method_31_code 15 = .ok (.getfield 374, 3) := by decide +kernel
theorem dX12_add_18 : decode prog_14_method_31_code 18 = .ok (.iload_n 2, 1) := by decide +kernel
theorem dX12_add_19 : decode prog_14_method_31_code 19 = .ok (.iastore, 1) := by decide +kernel
theorem dX12_add_20 : decode prog_14_method_31_code 20 = .ok (.aload_n 0, 1) := by decide +kernel
theorem dX12_add_21 : decode prog_14_method_31_code 21 = .ok (.getfield 51, 3) := by decide +kernel
theorem dX12_add_24 : decode prog_14_method_31_code 24 = .ok (.aload_n 0, 1) := by decide +kernel
theorem dX12_add_25 : decode prog_14_method_31_code 25 = .ok (.getfield 374, 3) := by decide +kernel
theorem dX12_add_28 : decode prog_14_method_31_code 28 = .ok (.lload_n 3, 1) := by decide +kernel
theorem dX12_add_29 : decode prog_14_method_31_code 29 = .ok (.lconst 1, 1) := by decide +kernel
theorem dX12_add_30 : decode prog_14_method_31_code 30 = .ok (.aload_n 0, 1) := by decide +kernel
theorem dX12_add_31 : decode prog_14_method_31_code 31 = .ok (.getfield 374, 3) := by decide +kernel
theorem dX12_add_34 : decode prog_14_method_31_code 34 = .ok (.lshl, 1) := by decide +kernel
theorem dX12_add_35 : decode prog_14_method_31_code 35 = .ok (.lor, 1) := by decide +kernel
theorem dX12_add_36 : decode prog_14_method_31_code 36 = .ok (.lastore, 1) := by decide +kernel
theorem dX12_add_37 : decode prog_14_method_31_code 37 = .ok (.aload_n 0, 1) := by decide +kernel
theorem dX12_add_38 : decode prog_14_method_31_code 38 = .ok (.dup, 1) := by decide +kernel
theorem dX12_add_39 : decode prog_14_method_31_code 39 = .ok (.getfield 374, 3) := by decide +kernel
theorem dX12_add_42 : decode prog_14_method_31_code 42 = .ok (.iconst 1, 1) := by decide +kernel
theorem dX12_add_43 : decode prog_14_method_31_code 43 = .ok (.iadd, 1) := by decide +kernel
theorem dX12_add_44 : decode prog_14_method_31_code 44 = .ok (.putfield 374, 3) := by decide +kernel
theorem dX12_add_47 : decode prog_14_method_31_code 47 = .ok (.aload_n 0, 1) := by decide +kernel
theorem dX12_add_48 : decode prog_14_method_31_code 48 = .ok (.getfield 374, 3) := by decide +kernel
theorem dX12_add_51 : decode prog_14_method_31_code 51 = .ok (.iconst 1, 1) := by decide +kernel
theorem dX12_add_52 : decode prog_14_method_31_code 52 = .ok (.isub, 1) := by decide +kernel
theorem dX12_add_53 : decode prog_14_method_31_code 53 = .ok (.ireturn, 1) := by decide +kernel
noncomputable def F_X12_add (v1 : Int) (v2 : Int) (v3 : Int) (M : bM) : Option (Int × bM) :=
  b_g (0 ≤ (M 11 20) ∧ (M 11 20) < 60) (b_let (b_up M 169 (M 11 20) v1) (fun M2 => b_g (0 ≤ (M2 11 20) ∧ (M2 11 20) < 60) (b_let (b_up M2 170 (M2 11 20) v2) (fun M4 => b_g (0 ≤ (M4 11 20) ∧ (M4 11 20) < 60) (b_let (b_up M4 174 (M4 11 20) (j_or v3 (j_shl 1 (M4 11 20)))) (fun M6 => b_g (b_i32 ((M6 11 20) + 1)) (b_let (b_up M6 11 20 ((M6 11 20) + 1)) (fun M8 => b_g (b_i32 ((M8 11 20) - 1)) (some (((M8 11 20) - 1), M8))))))))))
theorem t_X12_add {l : Launch} {E : bE} {Q : (Int × bM) → Prop} {v1 : Int} {v2 : Int} {v3 : Int} {M : bM} (h : b_wp (F_X12_add v1 v2 v3 M) (Q)) : V l E xX12_add (0, 0) 0 [(0, bR 11), (1, bI v1), (2, bI v2), (3, bJ v3)] [] M (b_pI Q) := by
  unfold F_X12_add at h
  obtain ⟨g1, h⟩ := b_wp_g h
  refine v_aload_n (f := 0) 0 rfl dX12_add_0 ?_
  refine v_getR (kf := 21) (kz := 21) rfl kd_11 rfl ⟨by decide, by decide⟩ rfl wf_12_36 dX12_add_1 ?_
  refine v_aload_n (f := 0) 0 rfl dX12_add_4 ?_
  refine v_getI (kf := 20) (kz := 20) rfl kd_11 rfl ⟨by decide, by decide⟩ rfl wf_12_374 dX12_add_5 ?_
  refine v_iload_n (f := 1) 1 rfl dX12_add_8 ?_
  refine v_iastore kd_169 g1 (by decide) dX12_add_9 ?_
  replace h := b_wp_l h
  obtain ⟨g3, h⟩ := b_wp_g h
  refine v_aload_n (f := 0) 0 rfl dX12_add_10 ?_
  refine v_getR (kf := 22) (kz := 22) rfl kd_11 rfl ⟨by decide, by decide⟩ rfl wf_12_39 dX12_add_11 ?_
  refine v_aload_n (f := 0) 0 rfl dX12_add_14 ?_
  refine v_getI (kf := 20) (kz := 20) rfl kd_11 rfl ⟨by decide, by decide⟩ rfl wf_12_374 dX12_add_15 ?_
  refine v_iload_n (f := 2) 2 rfl dX12_add_18 ?_
  refine v_iastore kd_170 g3 (by decide) dX12_add_19 ?_
  replace h := b_wp_l h
  obtain ⟨g5, h⟩ := b_wp_g h
  refine v_aload_n (f := 0) 0 rfl dX12_add_20 ?_
  refine v_getR (kf := 26) (kz := 26) rfl kd_11 rfl ⟨by decide, by decide⟩ rfl wf_12_51 dX12_add_21 ?_
  refine v_aload_n (f := 0) 0 rfl dX12_add_24 ?_
  refine v_getI (kf := 20) (kz := 20) rfl kd_11 rfl ⟨by decide, by decide⟩ rfl wf_12_374 dX12_add_25 ?_
  refine v_lload_n (f := 3) 3 rfl dX12_add_28 ?_
  refine v_lconst1 dX12_add_29 ?_
  refine v_aload_n (f := 0) 0 rfl dX12_add_30 ?_
  refine v_getI (kf := 20) (kz := 20) rfl kd_11 rfl ⟨by decide, by decide⟩ rfl wf_12_374 dX12_add_31 ?_
  refine v_lshl (v := j_shl _ _) rfl dX12_add_34 ?_
  refine v_lor (v := j_or _ _) rfl dX12_add_35 ?_
  refine v_lastore kd_174 g5 (by decide) dX12_add_36 ?_
  replace h := b_wp_l h
  obtain ⟨g7, h⟩ := b_wp_g h
  refine v_aload_n (f := 0) 0 rfl dX12_add_37 ?_
  refine v_dup rfl dX12_add_38 ?_
  refine v_getI (kf := 20) (kz := 20) rfl kd_11 rfl ⟨by decide, by decide⟩ rfl wf_12_374 dX12_add_39 ?_
  refine v_iconst ⟨by decide, by decide⟩ dX12_add_42 ?_
  refine v_iaddN g7 dX12_add_43 ?_
  refine v_putI (kf := 20) (kz := 20) rfl kd_11 rfl ⟨by decide, by decide⟩ rfl wf_12_374 rfl rfl dX12_add_44 ?_
  replace h := b_wp_l h
  obtain ⟨g9, h⟩ := b_wp_g h
  refine v_aload_n (f := 0) 0 rfl dX12_add_47 ?_
  refine v_getI (kf := 20) (kz := 20) rfl kd_11 rfl ⟨by decide, by decide⟩ rfl wf_12_374 dX12_add_48 ?_
  refine v_iconst ⟨by decide, by decide⟩ dX12_add_51 ?_
  refine v_isubN g9 dX12_add_52 ?_
  refine v_ireturn rfl dX12_add_53 ⟨by decide, by decide⟩ ?_
  exact ⟨_, rfl, h⟩
theorem cf_X12_add {l : Launch} {E : bE} {M : bM} {v1 : Int} {v2 : Int} {v3 : Int} {Q : (Int × bM) → Prop} (h : b_wp (F_X12_add v1 v2 v3 M) Q) : b_C l E xX12_add yX12_add [bR 11, bI v1, bI v2, bJ v3] M (b_pI Q) := b_met (by decide) ⟨rfl, rfl⟩ (Nat.le_of_ble_eq_true rfl) (fun _ _ => t_X12_add h)
abbrev xX12_lot : bX := ("BurntHallModel", prog_14_method_32_code, 3, (Option.some Jvm.ClassFile.FieldType.int), b_rm 3 0 0, 0, "lot")
abbrev yX12_lot : MethodName := ⟨"BurntHallModel", "lot", "(II)I"⟩
theorem dX12_lot_0 : decode prog_14_method_32_code 0 = .ok (.iload_n 1, 1) := by decide +kernel
theorem dX12_lot_1 : decode prog_14_method_32_code 1 = .ok (.invokestatic 378, 3) := by decide +kernel
theorem dX12_lot_4 : decode prog_14_method_32_code 4 = .ok (.ifCond .eq 10, 3) := by decide +kernel
theorem dX12_lot_7 : decode prog_14_method_32_code 7 = .ok (.iload_n 2, 1) := by decide +kernel
theorem dX12_lot_8 : decode prog_14_method_32_code 8 = .ok (.invokestatic 347, 3) := by decide +kernel
theorem dX12_lot_11 : decode prog_14_method_32_code 11 = .ok (.ifCond .ne 6, 3) := by decide +kernel
theorem dX12_lot_14 : decode prog_14_method_32_code 14 = .ok (.bipush (-2), 2) := by decide +kernel
theorem dX12_lot_16 : decode prog_14_method_32_code 16 = .ok (.ireturn, 1) := by decide +kernel
theorem dX12_lot_17 : decode prog_14_method_32_code 17 = .ok (.aload_n 0, 1) := by decide +kernel
theorem dX12_lot_18 : decode prog_14_method_32_code 18 = .ok (.getfield 374, 3) := by decide +kernel
theorem dX12_lot_21 : decode prog_14_method_32_code 21 = .ok (.bipush 60, 2) := by decide +kernel
theorem dX12_lot_23 : decode prog_14_method_32_code 23 = .ok (.if_icmp .ne 8, 3) := by decide +kernel
theorem dX12_lot_26 : decode prog_14_method_32_code 26 = .ok (.bipush (-3), 2) := by decide +kernel
theorem dX12_lot_28 : decode prog_14_method_32_code 28 = .ok (.goto 10, 3) := by decide +kernel
theorem dX12_lot_31 : decode prog_14_method_32_code 31 = .ok (.aload_n 0, 1) := by decide +kernel
theorem dX12_lot_32 : decode prog_14_method_32_code 32 = .ok (.iload_n 1, 1) := by decide +kernel
theorem dX12_lot_33 : decode prog_14_method_32_code 33 = .ok (.iload_n 2, 1) := by decide +kernel
theorem dX12_lot_34 : decode prog_14_method_32_code 34 = .ok (.lconst 0, 1) := by decide +kernel
theorem dX12_lot_35 : decode prog_14_method_32_code 35 = .ok (.invokevirtual 381, 3) := by decide +kernel
theorem dX12_lot_38 : decode prog_14_method_32_code 38 = .ok (.ireturn, 1) := by decide +kernel
noncomputable def F_X12_lot (v1 : Int) (v2 : Int) (M : bM) : Option (Int × bM) :=
  b_bind (F_X12_isFeet v1 M) (fun x1 => if x1 = 0 then (some ((-2), M)) else (b_bind (F_X12_isDay v2 M) (fun x3 => if x3 = 0 then (some ((-2), M)) else (if (M 11 20) = 60 then (some ((-3), M)) else (b_bind (F_X12_add v1 v2 0 M) (fun t => b_two t (fun x6 M7 => some (x6, M7))))))))
theorem t_X12_lot {l : Launch} {E : bE} {Q : (Int × bM) → Prop} {v1 : Int} {v2 : Int} {M : bM} (h : b_wp (F_X12_lot v1 v2 M) (Q)) : V l E xX12_lot (0, 0) 0 [(0, bR 11), (1, bI v1), (2, bI v2)] [] M (b_pI Q) := by
  unfold F_X12_lot at h
  refine v_iload_n (f := 1) 1 rfl dX12_lot_0 ?_
  refine v_cSIp (nA := 1) (As := [bI _]) (ix := 378) (cf_X12_isFeet (b_wp_b h)) rfl wc_X12_isFeet wm_12_378 wi_X12_isFeet wn_12 ⟨by decide, by decide, by decide⟩ rfl ⟨by decide, by decide⟩ ⟨by decide, by decide⟩ (Nat.le_of_ble_eq_true rfl) dX12_lot_1 (fun x1 h => ?_)
  refine v_if_eq (tgt := 14) dX12_lot_4 (by decide) (fun c2 => ?_) (fun c2 => ?_)
  · replace h := b_wp_t c2 h
    refine v_bipush ⟨by decide, by decide⟩ (by decide) dX12_lot_14 ?_
    refine v_ireturn rfl dX12_lot_16 ⟨by decide, by decide⟩ ?_
    exact ⟨_, rfl, h⟩
  · replace h := b_wp_f c2 h
    refine v_iload_n (f := 2) 2 rfl dX12_lot_7 ?_
    refine v_cSIp (nA := 1) (As := [bI _]) (ix := 347) (cf_X12_isDay (b_wp_b h)) rfl wc_X12_isDay wm_12_347 wi_X12_isDay wn_12 ⟨by decide, by decide, by decide⟩ rfl ⟨by decide, by decide⟩ ⟨by decide, by decide⟩ (Nat.le_of_ble_eq_true rfl) dX12_lot_8 (fun x3 h => ?_)
    refine v_if_ne (tgt := 17) dX12_lot_11 (by decide) (fun c4 => ?_) (fun c4 => ?_)
    · replace h := b_wp_f c4 h
      refine v_aload_n (f := 0) 0 rfl dX12_lot_17 ?_
      refine v_getI (kf := 20) (kz := 20) rfl kd_11 rfl ⟨by decide, by decide⟩ rfl wf_12_374 dX12_lot_18 ?_
      refine v_bipush ⟨by decide, by decide⟩ (by decide) dX12_lot_21 ?_
      refine v_icmp_ne (tgt := 31) dX12_lot_23 (by decide) (fun c5 => ?_) (fun c5 => ?_)
      · replace h := b_wp_f c5 h
        refine v_aload_n (f := 0) 0 rfl dX12_lot_31 ?_
        refine v_iload_n (f := 1) 1 rfl dX12_lot_32 ?_
        refine v_iload_n (f := 2) 2 rfl dX12_lot_33 ?_
        refine v_lconst0 dX12_lot_34 ?_
        refine v_cVI (nA := 3) (As := [bI _, bI _, bJ _]) (ix := 381) (cf_X12_add (b_wp_b h)) rfl kd_11 rfl rfl wc_X12_add wm_12_381 wi_X12_add ws_X12_add wn_12 ⟨by decide, by decide, by decide⟩ rfl ⟨by decide, by decide⟩ ⟨by decide, by decide⟩ (Nat.le_of_ble_eq_true rfl) dX12_lot_35 (fun x6 M7 h => ?_)
        replace h := b_wp_two h
        refine v_ireturn rfl dX12_lot_38 ⟨by decide, by decide⟩ ?_
        exact ⟨_, rfl, h⟩
      · replace h := b_wp_t c5 h
        refine v_bipush ⟨by decide, by decide⟩ (by decide) dX12_lot_26 ?_
        refine v_goto (tgt := 38) dX12_lot_28 (by decide) ?_
        refine v_ireturn rfl dX12_lot_38 ⟨by decide, by decide⟩ ?_
        exact ⟨_, rfl, h⟩
    · replace h := b_wp_t c4 h
      refine v_bipush ⟨by decide, by decide⟩ (by decide) dX12_lot_14 ?_
      refine v_ireturn rfl dX12_lot_16 ⟨by decide, by decide⟩ ?_
      exact ⟨_, rfl, h⟩
theorem cf_X12_lot {l : Launch} {E : bE} {M : bM} {v1 : Int} {v2 : Int} {Q : (Int × bM) → Prop} (h : b_wp (F_X12_lot v1 v2 M) Q) : b_C l E xX12_lot yX12_lot [bR 11, bI v1, bI v2] M (b_pI Q) := b_met (by decide) ⟨rfl, rfl⟩ (Nat.le_of_ble_eq_true rfl) (fun _ _ => t_X12_lot h)
abbrev xX12_split : bX := ("BurntHallModel", prog_14_method_33_code, 9, (Option.some Jvm.ClassFile.FieldType.int), b_rm 3 0 0, 0, "split")
abbrev yX12_split : MethodName := ⟨"BurntHallModel", "split", "(IIIIIII)I"⟩
theorem dX12_split_0 : decode prog_14_method_33_code 0 = .ok (.aload_n 0, 1) := by decide +kernel
theorem dX12_split_1 : decode prog_14_method_33_code 1 = .ok (.iload_n 1, 1) := by decide +kernel
theorem dX12_split_2 : decode prog_14_method_33_code 2 = .ok (.invokevirtual 385, 3) := by decide +kernel
theorem dX12_split_5 : decode prog_14_method_33_code 5 = .ok (.ifCond .eq 61, 3) := by decide +kernel
theorem dX12_split_8 : decode prog_14_method_33_code 8 = .ok (.iload_n 2, 1) := by decide +kernel
theorem dX12_split_9 : decode prog_14_method_33_code 9 = .ok (.invokestatic 347, 3) := by decide +kernel
theorem dX12_split_12 : decode prog_14_method_33_code 12 = .ok (.ifCond .eq 54, 3) := by decide +kernel
theorem dX12_split_15 : decode prog_14_method_33_code 15 = .ok (.iload_n 3, 1) := by decide +kernel
theorem dX12_split_16 : decode prog_14_method_33_code 16 = .ok (.iconst 2, 1) := by decide +kernel
theorem dX12_split_17 : decode prog_14_method_33_code 17 = .ok (.iconst 4, 1) := by decide +kernel
theorem dX12_split_18 : decode prog_14_method_33_code 18 = .ok (.invokestatic 279, 3) := by decide +kernel
theorem dX12_split_21 : decode prog_14_method_33_code 21 = .ok (.ifCond .eq 45, 3) := by decide +kernel
theorem dX12_split_24 : decode prog_14_method_33_code 24 = .ok (.iload 4, 2) := by decide +kernel
theorem dX12_split_26 : decode prog_14_method_33_code 26 = .ok (.invokestatic 378, 3) := by decide +kernel
theorem dX12_split_29 : decode prog_14_method_33_code 29 = .ok (.ifCond .eq 37, 3) := by decide +kernel
theorem dX12_split_32 : decode prog_14_method_33_code 32 = .ok (.iload 5, 2) := by decide +kernel
theorem dX12_split_34 : decode prog_14_method_33_code 34 = .ok (.invokestatic 378, 3) := by decide +kernel
theorem dX12_split_37 : decode prog_14_method_33_code 37 = .ok (.ifCond .eq 29, 3) := by decide +kernel
theorem dX12_split_40 : decode prog_14_method_33_code 40 = .ok (.iload_n 3, 1) := by decide +kernel
theorem dX12_split_41 : decode prog_14_method_33_code 41 = .ok (.iconst 2, 1) := by decide +kernel
theorem dX12_split_42 : decode prog_14_method_33_code 42 = .ok (.if_icmp .le 11, 3) := by decide +kernel
theorem dX12_split_45 : decode prog_14_method_33_code 45 = .ok (.iload 6, 2) := by decide +kernel
theorem dX12_split_47 : decode prog_14_method_33_code 47 = .ok (.invokestatic 378, 3) := by decide +kernel
theorem dX12_split_50 : decode prog_14_method_33_code 50 = .ok (.ifCond .eq 16, 3) := by decide +kernel
theorem dX12_split_53 : decode prog_14_method_33_code 53 = .ok (.iload_n 3, 1) := by decide +kernel
theorem dX12_split_54 : decode prog_14_method_33_code 54 = .ok (.iconst 3, 1) := by decide +kernel
theorem dX12_split_55 : decode prog_14_method_33_code 55 = .ok (.if_icmp .le 14, 3) := by decide +kernel
theorem dX12_split_58 : decode prog_14_method_33_code 58 = .ok (.iload 7, 2) := by decide +kernel
theorem dX12_split_60 : decode prog_14_method_33_code 60 = .ok (.invokestatic 378, 3) := by decide +kernel
theorem dX12_split_63 : decode prog_14_method_33_code 63 = .ok (.ifCond .ne 6, 3) := by decide +kernel
theorem dX12_split_66 : decode prog_14_method_33_code 66 = .ok (.bipush (-2), 2) := by decide +kernel
theorem dX12_split_68 : decode prog_14_method_33_code 68 = .ok (.ireturn, 1) := by decide +kernel
theorem dX12_split_69 : decode prog_14_method_33_code 69 = .ok (.iload_n 2, 1) := by decide +kernel
theorem dX12_split_70 : decode prog_14_method_33_code 70 = .ok (.aload_n 0, 1) := by decide +kernel
theorem dX12_split_71 : decode prog_14_method_33_code 71 = .ok (.getfield 39, 3) := by decide +kernel
theorem dX12_split_74 : decode prog_14_method_33_code 74 = .ok (.iload_n 1, 1) := by decide +kernel
theorem dX12_split_75 : decode prog_14_method_33_code 75 = .ok (.iaload, 1) := by decide +kernel
theorem dX12_split_76 : decode prog_14_method_33_code 76 = .ok (.if_icmp .lt 13, 3) := by decide +kernel
theorem dX12_split_79 : decode prog_14_method_33_code 79 = .ok (.aload_n 0, 1) := by decide +kernel
theorem dX12_split_80 : decode prog_14_method_33_code 80 = .ok (.getfield 42, 3) := by decide +kernel
theorem dX12_split_83 : decode prog_14_method_33_code 83 = .ok (.iload_n 1, 1) := by decide +kernel
theorem dX12_split_84 : decode prog_14_method_33_code 84 = .ok (.iaload, 1) := by decide +kernel
theorem dX12_split_85 : decode prog_14_method_33_code 85 = .ok (.iconst (-1), 1) := by decide +kernel
theorem dX12_split_86 : decode prog_14_method_33_code 86 = .ok (.if_icmp .eq 6, 3) := by decide +kernel
theorem dX12_split_89 : decode prog_14_method_33_code 89 = .ok (.bipush (-4), 2) := by decide +kernel
theorem dX12_split_91 : decode prog_14_method_33_code 91 = .ok (.ireturn, 1) := by decide +kernel
theorem dX12_split_92 : decode prog_14_method_33_code 92 = .ok (.aload_n 0, 1) := by decide +kernel
theorem dX12_split_93 : decode prog_14_method_33_code 93 = .ok (.getfield 374, 3) := by decide +kernel
theorem dX12_split_96 : decode prog_14_method_33_code 96 = .ok (.iload_n 3, 1) := by decide +kernel
theorem dX12_split_97 : decode prog_14_method_33_code 97 = .ok (.iadd, 1) := by decide +kernel
theorem dX12_split_98 : decode prog_14_method_33_code 98 = .ok (.bipush 60, 2) := by decide +kernel
theorem dX12_split_100 : decode prog_14_method_33_code 100 = .ok (.if_icmp .le 6, 3) := by decide +kernel
theorem dX12_split_103 : decode prog_14_method_33_code 103 = .ok (.bipush (-3), 2) := by decide +kernel
theorem dX12_split_105 : decode prog_14_method_33_code 105 = .ok (.ireturn, 1) := by decide +kernel
theorem dX12_split_106 : decode prog_14_method_33_code 106 = .ok (.aload_n 0, 1) := by decide +kernel
theorem dX12_split_107 : decode prog_14_method_33_code 107 = .ok (.getfield 374, 3) := by decide +kernel
theorem dX12_split_110 : decode prog_14_method_33_code 110 = .ok (.istore 8, 2) := by decide +kernel
theorem dX12_split_112 : decode prog_14_method_33_code 112 = .ok (.aload_n 0, 1) := by decide +kernel
theorem dX12_split_113 : decode prog_14_method_33_code 113 = .ok (.getfield 42, 3) := by decide +kernel
theorem dX12_split_116 : decode prog_14_method_33_code 116 = .ok (.iload_n 1, 1) := by decide +kernel
theorem dX12_split_117 : decode prog_14_method_33_code 117 = .ok (.iload_n 2, 1) := by decide +kernel
theorem dX12_split_118 : decode prog_14_method_33_code 118 = .ok (.iastore, 1) := by decide +kernel
theorem dX12_split_119 : decode prog_14_method_33_code 119 = .ok (.aload_n 0, 1) := by decide +kernel
theorem dX12_split_120 : decode prog_14_method_33_code 120 = .ok (.getfield 45, 3) := by decide +kernel
theorem dX12_split_123 : decode prog_14_method_33_code 123 = .ok (.iload_n 1, 1) := by decide +kernel
theorem dX12_split_124 : decode prog_14_method_33_code 124 = .ok (.aload_n 0, 1) := by decide +kernel
theorem dX12_split_125 : decode prog_14_method_33_code 125 = .ok (.getfield 36, 3) := by decide +kernel
theorem dX12_split_128 : decode prog_14_method_33_code 128 = .ok (.iload_n 1, 1) := by decide +kernel
theorem dX12_split_129 : decode prog_14_method_33_code 129 = .ok (.iaload, 1) := by decide +kernel
theorem dX12_split_130 : decode prog_14_method_33_code 130 = .ok (.iload 4, 2) := by decide +kernel
theorem dX12_split_132 : decode prog_14_method_33_code 132 = .ok (.isub, 1) := by decide +kernel
theorem dX12_split_133 : decode prog_14_method_33_code 133 = .ok (.iload 5, 2) := by decide +kernel
theorem dX12_split_135 : decode prog_14_method_33_code 135 = .ok (.isub, 1) := by decide +kernel
theorem dX12_split_136 : decode prog_14_method_33_code 136 = .ok (.iload_n 3, 1) := by decide +kernel
theorem dX12_split_137 : decode prog_14_method_33_code 137 = .ok (.iconst 2, 1) := by decide +kernel
theorem dX12_split_138 : decode prog_14_method_33_code 138 = .ok (.if_icmp .le 8, 3) := by decide +kernel
theorem dX12_split_141 : decode prog_14_method_33_code 141 = .ok (.iload 6, 2) := by decide +kernel
theorem dX12_split_143 : decode prog_14_method_33_code 143 = .ok (.goto 4, 3) := by decide +kernel
theorem dX12_split_146 : decode prog_14_method_33_code 146 = .ok (.iconst 0, 1) := by decide +kernel
theorem dX12_split_147 : decode prog_14_method_33_code 147 = .ok (.isub, 1) := by decide +kernel
theorem dX12_split_148 : decode prog_14_method_33_code 148 = .ok (.iload_n 3, 1) := by decide +kernel
theorem dX12_split_149 : decode prog_14_method_33_code 149 = .ok (.iconst 3, 1) := by decide +kernel
theorem dX12_split_150 : decode prog_14_method_33_code 150 = .ok (.if_icmp .le 8, 3) := by decide +kernel
theorem dX12_split_153 : decode prog_14_method_33_code 153 = .ok (.iload 7, 2) := by decide +kernel
theorem dX12_split_155 : decode prog_14_method_33_code 155 = .ok (.goto 4, 3) := by decide +kernel
theorem dX12_split_158 : decode prog_14_method_33_code 158 = .ok (.iconst 0, 1) := by decide +kernel
theorem dX12_split_159 : decode prog_14_method_33_code 159 = .ok (.isub, 1) := by decide +kernel
theorem dX12_split_160 : decode prog_14_method_33_code 160 = .ok (.iastore, 1) := by decide +kernel
theorem dX12_split_161 : decode prog_14_method_33_code 161 = .ok (.aload_n 0, 1) := by decide +kernel
theorem dX12_split_162 : decode prog_14_method_33_code 162 = .ok (.iload 4, 2) := by decide +kernel
theorem dX12_split_164 : decode prog_14_method_33_code 164 = .ok (.iload_n 2, 1) := by decide +kernel
theorem dX12_split_165 : decode prog_14_method_33_code 165 = .ok (.aload_n 0, 1) := by decide +kernel
theorem dX12_split_166 : decode prog_14_method_33_code 166 = .ok (.getfield 51, 3) := by decide +kernel
theorem dX12_split_169 : decode prog_14_method_33_code 169 = .ok (.iload_n 1, 1) := by decide +kernel
theorem dX12_split_170 : decode prog_14_method_33_code 170 = .ok (.laload, 1) := by decide +kernel
theorem dX12_split_171 : decode prog_14_method_33_code 171 = .ok (.invokevirtual 381, 3) := by decide +kernel
theorem dX12_split_174 : decode prog_14_method_33_code 174 = .ok (.pop, 1) := by decide +kernel
theorem dX12_split_175 : decode prog_14_method_33_code 175 = .ok (.aload_n 0, 1) := by decide +kernel
theorem dX12_split_176 : decode prog_14_method_33_code 176 = .ok (.iload 5, 2) := by decide +kernel
theorem dX12_split_178 : decode prog_14_method_33_code 178 = .ok (.iload_n 2, 1) := by decide +kernel
theorem dX12_split_179 : decode prog_14_method_33_code 179 = .ok (.aload_n 0, 1) := by decide +kernel
theorem dX12_split_180 : decode prog_14_method_33_code 180 = .ok (.getfield 51, 3) := by decide +kernel
theorem dX12_split_183 : decode prog_14_method_33_code 183 = .ok (.iload_n 1, 1) := by decide +kernel
theorem dX12_split_184 : decode prog_14_method_33_code 184 = .ok (.laload, 1) := by decide +kernel
theorem dX12_split_185 : decode prog_14_method_33_code 185 = .ok (.invokevirtual 381, 3) := by decide +kernel
theorem dX12_split_188 : decode prog_14_method_33_code 188 = .ok (.pop, 1) := by decide +kernel
theorem dX12_split_189 : decode prog_14_method_33_code 189 = .ok (.iload_n 3, 1) := by decide +kernel
theorem dX12_split_190 : decode prog_14_method_33_code 190 = .ok (.iconst 2, 1) := by decide +kernel
theorem dX12_split_191 : decode prog_14_method_33_code 191 = .ok (.if_icmp .le 17, 3) := by decide +kernel
theorem dX12_split_194 : decode prog_14_method_33_code 194 = .ok (.aload_n 0, 1) := by decide +kernel
theorem dX12_split_195 : decode prog_14_method_33_code 195 = .ok (.iload 6, 2) := by decide +kernel
theorem dX12_split_197 : decode prog_14_method_33_code 197 = .ok (.iload_n 2, 1) := by decide +kernel
theorem dX12_split_198 : decode prog_14_method_33_code 198 = .ok (.aload_n 0, 1) := by decide +kernel
theorem dX12_split_199 : decode prog_14_method_33_code 199 = .ok (.getfield 51, 3) := by decide +kernel
theorem dX12_split_202 : decode prog_14_method_33_code 202 = .ok (.iload_n 1, 1) := by decide +kernel
theorem dX12_split_203 : decode prog_14_method_33_code 203 = .ok (.laload, 1) := by decide +kernel
theorem dX12_split_204 : decode prog_14_method_33_code 204 = .ok (.invokevirtual 381, 3) := by decide +kernel
theorem dX12_split_207 : decode prog_14_method_33_code 207 = .ok (.pop, 1) := by decide +kernel
theorem dX12_split_208 : decode prog_14_method_33_code 208 = .ok (.iload_n 3, 1) := by decide +kernel
theorem dX12_split_209 : decode prog_14_method_33_code 209 = .ok (.iconst 3, 1) := by decide +kernel
theorem dX12_split_210 : decode prog_14_method_33_code 210 = .ok (.if_icmp .le 17, 3) := by decide +kernel
theorem dX12_split_213 : decode prog_14_method_33_code 213 = .ok (.aload_n 0, 1) := by decide +kernel
theorem dX12_split_214 : decode prog_14_method_33_code 214 = .ok (.iload 7, 2) := by decide +kernel
theorem dX12_split_216 : decode prog_14_method_33_code 216 = .ok (.iload_n 2, 1) := by decide +kernel
theorem dX12_split_217 : decode prog_14_method_33_code 217 = .ok (.aload_n 0, 1) := by decide +kernel
theorem dX12_split_218 : decode prog_14_method_33_code 218 = .ok (.getfield 51, 3) := by decide +kernel
theorem dX12_split_221 : decode prog_14_method_33_code 221 = .ok (.iload_n 1, 1) := by decide +kernel
theorem dX12_split_222 : decode prog_14_method_33_code 222 = .ok (.laload, 1) := by decide +kernel
theorem dX12_split_223 : decode prog_14_method_33_code 223 = .ok (.invokevirtual 381, 3) := by decide +kernel
theorem dX12_split_226 : decode prog_14_method_33_code 226 = .ok (.pop, 1) := by decide +kernel
theorem dX12_split_227 : decode prog_14_method_33_code 227 = .ok (.iload 8, 2) := by decide +kernel
theorem dX12_split_229 : decode prog_14_method_33_code 229 = .ok (.ireturn, 1) := by decide +kernel
noncomputable def F_X12_split_b208 (v1 : Int) (v2 : Int) (v3 : Int) (v7 : Int) (v8 : Int) (M : bM) : Option (Int × bM) :=
  if v3 ≤ 3 then (some (v8, M)) else (b_g (0 ≤ v1 ∧ v1 < 60) (b_bind (F_X12_add v7 v2 (M 174 v1) M) (fun t => b_two t (fun x39 M40 => some (v8, M40)))))
theorem t_X12_split_b208 {l : Launch} {E : bE} {Q : (Int × bM) → Prop} {v1 : Int} {v2 : Int} {v3 : Int} {v7 : Int} {v8 : Int} {M : bM} (h : b_wp (F_X12_split_b208 v1 v2 v3 v7 v8 M) (Q)) : V l E xX12_split (0, 0) 208 [(0, bR 11), (1, bI v1), (2, bI v2), (3, bI v3), (7, bI v7), (8, bI v8)] [] M (b_pI Q) := by
  unfold F_X12_split_b208 at h
  refine v_iload_n (f := 3) 3 rfl dX12_split_208 ?_
  refine v_iconst ⟨by decide, by decide⟩ dX12_split_209 ?_
  refine v_icmp_le (tgt := 227) dX12_split_210 (by decide) (fun c37 => ?_) (fun c37 => ?_)
  · replace h := b_wp_t c37 h
    refine v_iload (i := 8) 5 rfl dX12_split_227 ?_
    refine v_ireturn rfl dX12_split_229 ⟨by decide, by decide⟩ ?_
    exact ⟨_, rfl, h⟩
  · replace h := b_wp_f c37 h
    obtain ⟨g38, h⟩ := b_wp_g h
    refine v_aload_n (f := 0) 0 rfl dX12_split_213 ?_
    refine v_iload (i := 7) 4 rfl dX12_split_214 ?_
    refine v_iload_n (f := 2) 2 rfl dX12_split_216 ?_
    refine v_aload_n (f := 0) 0 rfl dX12_split_217 ?_
    refine v_getR (kf := 26) (kz := 26) rfl kd_11 rfl ⟨by decide, by decide⟩ rfl wf_12_51 dX12_split_218 ?_
    refine v_iload_n (f := 1) 1 rfl dX12_split_221 ?_
    refine v_laload kd_174 g38 (by decide) dX12_split_222 ?_
    refine v_cVI (nA := 3) (As := [bI _, bI _, bJ _]) (ix := 381) (cf_X12_add (b_wp_b h)) rfl kd_11 rfl rfl wc_X12_add wm_12_381 wi_X12_add ws_X12_add wn_12 ⟨by decide, by decide, by decide⟩ rfl ⟨by decide, by decide⟩ ⟨by decide, by decide⟩ (Nat.le_of_ble_eq_true rfl) dX12_split_223 (fun x39 M40 h => ?_)
    replace h := b_wp_two h
    refine v_pop rfl dX12_split_226 ?_
    refine v_iload (i := 8) 5 rfl dX12_split_227 ?_
    refine v_ireturn rfl dX12_split_229 ⟨by decide, by decide⟩ ?_
    exact ⟨_, rfl, h⟩
noncomputable def F_X12_split_b159 (v1 : Int) (v2 : Int) (v3 : Int) (v4 : Int) (v5 : Int) (v6 : Int) (v7 : Int) (v8 : Int) (u1 : Int) (u2 : Int) (u3 : Int) (M : bM) : Option (Int × bM) :=
  b_g ((b_i32 (u2 - u3)) ∧ (0 ≤ u1 ∧ u1 < 60)) (b_let (b_up M 172 u1 (u2 - u3)) (fun M29 => b_g (0 ≤ v1 ∧ v1 < 60) (b_bind (F_X12_add v4 v2 (M29 174 v1) M29) (fun t => b_two t (fun x31 M32 => b_g (0 ≤ v1 ∧ v1 < 60) (b_bind (F_X12_add v5 v2 (M32 174 v1) M32) (fun t => b_two t (fun x34 M35 => if v3 ≤ 2 then (F_X12_split_b208 v1 v2 v3 v7 v8 M35) else (b_g (0 ≤ v1 ∧ v1 < 60) (b_bind (F_X12_add v6 v2 (M35 174 v1) M35) (fun t => b_two t (fun x42 M43 => F_X12_split_b208 v1 v2 v3 v7 v8 M43))))))))))))
theorem t_X12_split_b159 {l : Launch} {E : bE} {Q : (Int × bM) → Prop} {v1 : Int} {v2 : Int} {v3 : Int} {v4 : Int} {v5 : Int} {v6 : Int} {v7 : Int} {v8 : Int} {u1 : Int} {u2 : Int} {u3 : Int} {M : bM} (h : b_wp (F_X12_split_b159 v1 v2 v3 v4 v5 v6 v7 v8 u1 u2 u3 M) (Q)) : V l E xX12_split (0, 0) 159 [(0, bR 11), (1, bI v1), (2, bI v2), (3, bI v3), (4, bI v4), (5, bI v5), (6, bI v6), (7, bI v7), (8, bI v8)] [bI u3, bI u2, bI u1, bR 172] M (b_pI Q) := by
  unfold F_X12_split_b159 at h
  obtain ⟨⟨g27, g28⟩, h⟩ := b_wp_g h
  refine v_isubN g27 dX12_split_159 ?_
  refine v_iastore kd_172 g28 (by decide) dX12_split_160 ?_
  replace h := b_wp_l h
  obtain ⟨g30, h⟩ := b_wp_g h
  refine v_aload_n (f := 0) 0 rfl dX12_split_161 ?_
  refine v_iload (i := 4) 4 rfl dX12_split_162 ?_
  refine v_iload_n (f := 2) 2 rfl dX12_split_164 ?_
  refine v_aload_n (f := 0) 0 rfl dX12_split_165 ?_
  refine v_getR (kf := 26) (kz := 26) rfl kd_11 rfl ⟨by decide, by decide⟩ rfl wf_12_51 dX12_split_166 ?_
  refine v_iload_n (f := 1) 1 rfl dX12_split_169 ?_
  refine v_laload kd_174 g30 (by decide) dX12_split_170 ?_
  refine v_cVI (nA := 3) (As := [bI _, bI _, bJ _]) (ix := 381) (cf_X12_add (b_wp_b h)) rfl kd_11 rfl rfl wc_X12_add wm_12_381 wi_X12_add ws_X12_add wn_12 ⟨by decide, by decide, by decide⟩ rfl ⟨by decide, by decide⟩ ⟨by decide, by decide⟩ (Nat.le_of_ble_eq_true rfl) dX12_split_171 (fun x31 M32 h => ?_)
  replace h := b_wp_two h
  obtain ⟨g33, h⟩ := b_wp_g h
  refine v_pop rfl dX12_split_174 ?_
  refine v_aload_n (f := 0) 0 rfl dX12_split_175 ?_
  refine v_iload (i := 5) 5 rfl dX12_split_176 ?_
  refine v_iload_n (f := 2) 2 rfl dX12_split_178 ?_
  refine v_aload_n (f := 0) 0 rfl dX12_split_179 ?_
  refine v_getR (kf := 26) (kz := 26) rfl kd_11 rfl ⟨by decide, by decide⟩ rfl wf_12_51 dX12_split_180 ?_
  refine v_iload_n (f := 1) 1 rfl dX12_split_183 ?_
  refine v_laload kd_174 g33 (by decide) dX12_split_184 ?_
  refine v_cVI (nA := 3) (As := [bI _, bI _, bJ _]) (ix := 381) (cf_X12_add (b_wp_b h)) rfl kd_11 rfl rfl wc_X12_add wm_12_381 wi_X12_add ws_X12_add wn_12 ⟨by decide, by decide, by decide⟩ rfl ⟨by decide, by decide⟩ ⟨by decide, by decide⟩ (Nat.le_of_ble_eq_true rfl) dX12_split_185 (fun x34 M35 h => ?_)
  replace h := b_wp_two h
  refine v_pop rfl dX12_split_188 ?_
  refine v_iload_n (f := 3) 3 rfl dX12_split_189 ?_
  refine v_iconst ⟨by decide, by decide⟩ dX12_split_190 ?_
  refine v_icmp_le (tgt := 208) dX12_split_191 (by decide) (fun c36 => ?_) (fun c36 => ?_)
  · replace h := b_wp_t c36 h
    refine v_sub (ls2 := [(0, bR _), (1, bI _), (2, bI _), (3, bI _), (7, bI _), (8, bI _)]) [0, 1, 2, 3, 7, 8] rfl ?_
    exact t_X12_split_b208 h
  · replace h := b_wp_f c36 h
    obtain ⟨g41, h⟩ := b_wp_g h
    refine v_aload_n (f := 0) 0 rfl dX12_split_194 ?_
    refine v_iload (i := 6) 6 rfl dX12_split_195 ?_
    refine v_iload_n (f := 2) 2 rfl dX12_split_197 ?_
    refine v_aload_n (f := 0) 0 rfl dX12_split_198 ?_
    refine v_getR (kf := 26) (kz := 26) rfl kd_11 rfl ⟨by decide, by decide⟩ rfl wf_12_51 dX12_split_199 ?_
    refine v_iload_n (f := 1) 1 rfl dX12_split_202 ?_
    refine v_laload kd_174 g41 (by decide) dX12_split_203 ?_
    refine v_cVI (nA := 3) (As := [bI _, bI _, bJ _]) (ix := 381) (cf_X12_add (b_wp_b h)) rfl kd_11 rfl rfl wc_X12_add wm_12_381 wi_X12_add ws_X12_add wn_12 ⟨by decide, by decide, by decide⟩ rfl ⟨by decide, by decide⟩ ⟨by decide, by decide⟩ (Nat.le_of_ble_eq_true rfl) dX12_split_204 (fun x42 M43 h => ?_)
    replace h := b_wp_two h
    refine v_pop rfl dX12_split_207 ?_
    refine v_sub (ls2 := [(0, bR _), (1, bI _), (2, bI _), (3, bI _), (7, bI _), (8, bI _)]) [0, 1, 2, 3, 7, 8] rfl ?_
    exact t_X12_split_b208 h
noncomputable def F_X12_split_b147 (v1 : Int) (v2 : Int) (v3 : Int) (v4 : Int) (v5 : Int) (v6 : Int) (v7 : Int) (v8 : Int) (u1 : Int) (u2 : Int) (u3 : Int) (M : bM) : Option (Int × bM) :=
  b_g (b_i32 (u2 - u3)) (if v3 ≤ 3 then (F_X12_split_b159 v1 v2 v3 v4 v5 v6 v7 v8 u1 (u2 - u3) 0 M) else (F_X12_split_b159 v1 v2 v3 v4 v5 v6 v7 v8 u1 (u2 - u3) v7 M))
theorem t_X12_split_b147 {l : Launch} {E : bE} {Q : (Int × bM) → Prop} {v1 : Int} {v2 : Int} {v3 : Int} {v4 : Int} {v5 : Int} {v6 : Int} {v7 : Int} {v8 : Int} {u1 : Int} {u2 : Int} {u3 : Int} {M : bM} (h : b_wp (F_X12_split_b147 v1 v2 v3 v4 v5 v6 v7 v8 u1 u2 u3 M) (Q)) : V l E xX12_split (0, 0) 147 [(0, bR 11), (1, bI v1), (2, bI v2), (3, bI v3), (4, bI v4), (5, bI v5), (6, bI v6), (7, bI v7), (8, bI v8)] [bI u3, bI u2, bI u1, bR 172] M (b_pI Q) := by
  unfold F_X12_split_b147 at h
  obtain ⟨g25, h⟩ := b_wp_g h
  refine v_isubN g25 dX12_split_147 ?_
  refine v_iload_n (f := 3) 3 rfl dX12_split_148 ?_
  refine v_iconst ⟨by decide, by decide⟩ dX12_split_149 ?_
  refine v_icmp_le (tgt := 158) dX12_split_150 (by decide) (fun c26 => ?_) (fun c26 => ?_)
  · replace h := b_wp_t c26 h
    refine v_iconst ⟨by decide, by decide⟩ dX12_split_158 ?_
    exact t_X12_split_b159 h
  · replace h := b_wp_f c26 h
    refine v_iload (i := 7) 7 rfl dX12_split_153 ?_
    refine v_goto (tgt := 159) dX12_split_155 (by decide) ?_
    exact t_X12_split_b159 h
noncomputable def F_X12_split_b69 (v1 : Int) (v2 : Int) (v3 : Int) (v4 : Int) (v5 : Int) (v6 : Int) (v7 : Int) (M : bM) : Option (Int × bM) :=
  b_g (0 ≤ v1 ∧ v1 < 60) (if v2 < (M 170 v1) then (some ((-4), M)) else (b_g (0 ≤ v1 ∧ v1 < 60) (if (M 171 v1) = (-1) then (b_g (b_i32 ((M 11 20) + v3)) (if ((M 11 20) + v3) ≤ 60 then (b_g (0 ≤ v1 ∧ v1 < 60) (b_let (b_up M 171 v1 v2) (fun M20 => b_g ((0 ≤ v1 ∧ v1 < 60) ∧ (b_i32 ((M20 169 v1) - v4)) ∧ (b_i32 (((M20 169 v1) - v4) - v5))) (if v3 ≤ 2 then (F_X12_split_b147 v1 v2 v3 v4 v5 v6 v7 (M 11 20) v1 (((M20 169 v1) - v4) - v5) 0 M20) else (F_X12_split_b147 v1 v2 v3 v4 v5 v6 v7 (M 11 20) v1 (((M20 169 v1) - v4) - v5) v6 M20))))) else (some ((-3), M)))) else (some ((-4), M)))))
theorem t_X12_split_b69 {l : Launch} {E : bE} {Q : (Int × bM) → Prop} {v1 : Int} {v2 : Int} {v3 : Int} {v4 : Int} {v5 : Int} {v6 : Int} {v7 : Int} {M : bM} (h : b_wp (F_X12_split_b69 v1 v2 v3 v4 v5 v6 v7 M) (Q)) : V l E xX12_split (0, 0) 69 [(0, bR 11), (1, bI v1), (2, bI v2), (3, bI v3), (4, bI v4), (5, bI v5), (6, bI v6), (7, bI v7)] [] M (b_pI Q) := by
  unfold F_X12_split_b69 at h
  obtain ⟨g13, h⟩ := b_wp_g h
  refine v_iload_n (f := 2) 2 rfl dX12_split_69 ?_
  refine v_aload_n (f := 0) 0 rfl dX12_split_70 ?_
  refine v_getR (kf := 22) (kz := 22) rfl kd_11 rfl ⟨by decide, by decide⟩ rfl wf_12_39 dX12_split_71 ?_
  refine v_iload_n (f := 1) 1 rfl dX12_split_74 ?_
  refine v_iaload kd_170 g13 (by decide) dX12_split_75 ?_
  refine v_icmp_lt (tgt := 89) dX12_split_76 (by decide) (fun c14 => ?_) (fun c14 => ?_)
  · replace h := b_wp_t c14 h
    refine v_bipush ⟨by decide, by decide⟩ (by decide) dX12_split_89 ?_
    refine v_ireturn rfl dX12_split_91 ⟨by decide, by decide⟩ ?_
    exact ⟨_, rfl, h⟩
  · replace h := b_wp_f c14 h
    obtain ⟨g15, h⟩ := b_wp_g h
    refine v_aload_n (f := 0) 0 rfl dX12_split_79 ?_
    refine v_getR (kf := 23) (kz := 23) rfl kd_11 rfl ⟨by decide, by decide⟩ rfl wf_12_42 dX12_split_80 ?_
    refine v_iload_n (f := 1) 1 rfl dX12_split_83 ?_
    refine v_iaload kd_171 g15 (by decide) dX12_split_84 ?_
    refine v_iconst ⟨by decide, by decide⟩ dX12_split_85 ?_
    refine v_icmp_eq (tgt := 92) dX12_split_86 (by decide) (fun c16 => ?_) (fun c16 => ?_)
    · replace h := b_wp_t c16 h
      obtain ⟨g17, h⟩ := b_wp_g h
      refine v_aload_n (f := 0) 0 rfl dX12_split_92 ?_
      refine v_getI (kf := 20) (kz := 20) rfl kd_11 rfl ⟨by decide, by decide⟩ rfl wf_12_374 dX12_split_93 ?_
      refine v_iload_n (f := 3) 3 rfl dX12_split_96 ?_
      refine v_iaddN g17 dX12_split_97 ?_
      refine v_bipush ⟨by decide, by decide⟩ (by decide) dX12_split_98 ?_
      refine v_icmp_le (tgt := 106) dX12_split_100 (by decide) (fun c18 => ?_) (fun c18 => ?_)
      · replace h := b_wp_t c18 h
        obtain ⟨g19, h⟩ := b_wp_g h
        refine v_aload_n (f := 0) 0 rfl dX12_split_106 ?_
        refine v_getI (kf := 20) (kz := 20) rfl kd_11 rfl ⟨by decide, by decide⟩ rfl wf_12_374 dX12_split_107 ?_
        refine v_istore (i := 8) (ls' := [(8, bI _), (0, bR _), (1, bI _), (2, bI _), (3, bI _), (4, bI _), (5, bI _), (6, bI _), (7, bI _)]) (by decide) dX12_split_110 rfl ?_
        refine v_aload_n (f := 0) 1 rfl dX12_split_112 ?_
        refine v_getR (kf := 23) (kz := 23) rfl kd_11 rfl ⟨by decide, by decide⟩ rfl wf_12_42 dX12_split_113 ?_
        refine v_iload_n (f := 1) 2 rfl dX12_split_116 ?_
        refine v_iload_n (f := 2) 3 rfl dX12_split_117 ?_
        refine v_iastore kd_171 g19 (by decide) dX12_split_118 ?_
        replace h := b_wp_l h
        obtain ⟨⟨g21, g22, g23⟩, h⟩ := b_wp_g h
        refine v_aload_n (f := 0) 1 rfl dX12_split_119 ?_
        refine v_getR (kf := 24) (kz := 24) rfl kd_11 rfl ⟨by decide, by decide⟩ rfl wf_12_45 dX12_split_120 ?_
        refine v_iload_n (f := 1) 2 rfl dX12_split_123 ?_
        refine v_aload_n (f := 0) 1 rfl dX12_split_124 ?_
        refine v_getR (kf := 21) (kz := 21) rfl kd_11 rfl ⟨by decide, by decide⟩ rfl wf_12_36 dX12_split_125 ?_
        refine v_iload_n (f := 1) 2 rfl dX12_split_128 ?_
        refine v_iaload kd_169 g21 (by decide) dX12_split_129 ?_
        refine v_iload (i := 4) 5 rfl dX12_split_130 ?_
        refine v_isubN g22 dX12_split_132 ?_
        refine v_iload (i := 5) 6 rfl dX12_split_133 ?_
        refine v_isubN g23 dX12_split_135 ?_
        refine v_iload_n (f := 3) 4 rfl dX12_split_136 ?_
        refine v_iconst ⟨by decide, by decide⟩ dX12_split_137 ?_
        refine v_icmp_le (tgt := 146) dX12_split_138 (by decide) (fun c24 => ?_) (fun c24 => ?_)
        · replace h := b_wp_t c24 h
          refine v_iconst ⟨by decide, by decide⟩ dX12_split_146 ?_
          refine v_sub (ls2 := [(0, bR _), (1, bI _), (2, bI _), (3, bI _), (4, bI _), (5, bI _), (6, bI _), (7, bI _), (8, bI _)]) [1, 2, 3, 4, 5, 6, 7, 8, 0] rfl ?_
          exact t_X12_split_b147 h
        · replace h := b_wp_f c24 h
          refine v_iload (i := 6) 7 rfl dX12_split_141 ?_
          refine v_goto (tgt := 147) dX12_split_143 (by decide) ?_
          refine v_sub (ls2 := [(0, bR _), (1, bI _), (2, bI _), (3, bI _), (4, bI _), (5, bI _), (6, bI _), (7, bI _), (8, bI _)]) [1, 2, 3, 4, 5, 6, 7, 8, 0] rfl ?_
          exact t_X12_split_b147 h
      · replace h := b_wp_f c18 h
        refine v_bipush ⟨by decide, by decide⟩ (by decide) dX12_split_103 ?_
        refine v_ireturn rfl dX12_split_105 ⟨by decide, by decide⟩ ?_
        exact ⟨_, rfl, h⟩
    · replace h := b_wp_f c16 h
      refine v_bipush ⟨by decide, by decide⟩ (by decide) dX12_split_89 ?_
      refine v_ireturn rfl dX12_split_91 ⟨by decide, by decide⟩ ?_
      exact ⟨_, rfl, h⟩
noncomputable def F_X12_split_b53 (v1 : Int) (v2 : Int) (v3 : Int) (v4 : Int) (v5 : Int) (v6 : Int) (v7 : Int) (M : bM) : Option (Int × bM) :=
  if v3 ≤ 3 then (F_X12_split_b69 v1 v2 v3 v4 v5 v6 v7 M) else (b_bind (F_X12_isFeet v7 M) (fun x44 => if x44 = 0 then (some ((-2), M)) else (F_X12_split_b69 v1 v2 v3 v4 v5 v6 v7 M)))
theorem t_X12_split_b53 {l : Launch} {E : bE} {Q : (Int × bM) → Prop} {v1 : Int} {v2 : Int} {v3 : Int} {v4 : Int} {v5 : Int} {v6 : Int} {v7 : Int} {M : bM} (h : b_wp (F_X12_split_b53 v1 v2 v3 v4 v5 v6 v7 M) (Q)) : V l E xX12_split (0, 0) 53 [(0, bR 11), (1, bI v1), (2, bI v2), (3, bI v3), (4, bI v4), (5, bI v5), (6, bI v6), (7, bI v7)] [] M (b_pI Q) := by
  unfold F_X12_split_b53 at h
  refine v_iload_n (f := 3) 3 rfl dX12_split_53 ?_
  refine v_iconst ⟨by decide, by decide⟩ dX12_split_54 ?_
  refine v_icmp_le (tgt := 69) dX12_split_55 (by decide) (fun c12 => ?_) (fun c12 => ?_)
  · replace h := b_wp_t c12 h
    exact t_X12_split_b69 h
  · replace h := b_wp_f c12 h
    refine v_iload (i := 7) 7 rfl dX12_split_58 ?_
    refine v_cSIp (nA := 1) (As := [bI _]) (ix := 378) (cf_X12_isFeet (b_wp_b h)) rfl wc_X12_isFeet wm_12_378 wi_X12_isFeet wn_12 ⟨by decide, by decide, by decide⟩ rfl ⟨by decide, by decide⟩ ⟨by decide, by decide⟩ (Nat.le_of_ble_eq_true rfl) dX12_split_60 (fun x44 h => ?_)
    refine v_if_ne (tgt := 69) dX12_split_63 (by decide) (fun c45 => ?_) (fun c45 => ?_)
    · replace h := b_wp_f c45 h
      exact t_X12_split_b69 h
    · replace h := b_wp_t c45 h
      refine v_bipush ⟨by decide, by decide⟩ (by decide) dX12_split_66 ?_
      refine v_ireturn rfl dX12_split_68 ⟨by decide, by decide⟩ ?_
      exact ⟨_, rfl, h⟩
noncomputable def F_X12_split (v1 : Int) (v2 : Int) (v3 : Int) (v4 : Int) (v5 : Int) (v6 : Int) (v7 : Int) (M : bM) : Option (Int × bM) :=
  b_bind (F_X12_isLot v1 M) (fun x1 => if x1 = 0 then (some ((-2), M)) else (b_bind (F_X12_isDay v2 M) (fun x3 => if x3 = 0 then (some ((-2), M)) else (b_bind (F_X12_in v3 2 4 M) (fun x5 => if x5 = 0 then (some ((-2), M)) else (b_bind (F_X12_isFeet v4 M) (fun x7 => if x7 = 0 then (some ((-2), M)) else (b_bind (F_X12_isFeet v5 M) (fun x9 => if x9 = 0 then (some ((-2), M)) else (if v3 ≤ 2 then (F_X12_split_b53 v1 v2 v3 v4 v5 v6 v7 M) else (b_bind (F_X12_isFeet v6 M) (fun x46 => if x46 = 0 then (some ((-2), M)) else (F_X12_split_b53 v1 v2 v3 v4 v5 v6 v7 M)))))))))))))
theorem t_X12_split {l : Launch} {E : bE} {Q : (Int × bM) → Prop} {v1 : Int} {v2 : Int} {v3 : Int} {v4 : Int} {v5 : Int} {v6 : Int} {v7 : Int} {M : bM} (h : b_wp (F_X12_split v1 v2 v3 v4 v5 v6 v7 M) (Q)) : V l E xX12_split (0, 0) 0 [(0, bR 11), (1, bI v1), (2, bI v2), (3, bI v3), (4, bI v4), (5, bI v5), (6, bI v6), (7, bI v7)] [] M (b_pI Q) := by
  unfold F_X12_split at h
  refine v_aload_n (f := 0) 0 rfl dX12_split_0 ?_
  refine v_iload_n (f := 1) 1 rfl dX12_split_1 ?_
  refine v_cVIp (nA := 1) (As := [bI _]) (ix := 385) (cf_X12_isLot (b_wp_b h)) rfl kd_11 rfl rfl wc_X12_isLot wm_12_385 wi_X12_isLot ws_X12_isLot wn_12 ⟨by decide, by decide, by decide⟩ rfl ⟨by decide, by decide⟩ ⟨by decide, by decide⟩ (Nat.le_of_ble_eq_true rfl) dX12_split_2 (fun x1 h => ?_)
  refine v_if_eq (tgt := 66) dX12_split_5 (by decide) (fun c2 => ?_) (fun c2 => ?_)
  · replace h := b_wp_t c2 h
    refine v_bipush ⟨by decide, by decide⟩ (by decide) dX12_split_66 ?_
    refine v_ireturn rfl dX12_split_68 ⟨by decide, by decide⟩ ?_
    exact ⟨_, rfl, h⟩
  · replace h := b_wp_f c2 h
    refine v_iload_n (f := 2) 2 rfl dX12_split_8 ?_
    refine v_cSIp (nA := 1) (As := [bI _]) (ix := 347) (cf_X12_isDay (b_wp_b h)) rfl wc_X12_isDay wm_12_347 wi_X12_isDay wn_12 ⟨by decide, by decide, by decide⟩ rfl ⟨by decide, by decide⟩ ⟨by decide, by decide⟩ (Nat.le_of_ble_eq_true rfl) dX12_split_9 (fun x3 h => ?_)
    refine v_if_eq (tgt := 66) dX12_split_12 (by decide) (fun c4 => ?_) (fun c4 => ?_)
    · replace h := b_wp_t c4 h
      refine v_bipush ⟨by decide, by decide⟩ (by decide) dX12_split_66 ?_
      refine v_ireturn rfl dX12_split_68 ⟨by decide, by decide⟩ ?_
      exact ⟨_, rfl, h⟩
    · replace h := b_wp_f c4 h
      refine v_iload_n (f := 3) 3 rfl dX12_split_15 ?_
      refine v_iconst ⟨by decide, by decide⟩ dX12_split_16 ?_
      refine v_iconst ⟨by decide, by decide⟩ dX12_split_17 ?_
      refine v_cSIp (nA := 3) (As := [bI _, bI _, bI _]) (ix := 279) (cf_X12_in (b_wp_b h)) rfl wc_X12_in wm_12_279 wi_X12_in wn_12 ⟨by decide, by decide, by decide⟩ rfl ⟨by decide, by decide⟩ ⟨by decide, by decide⟩ (Nat.le_of_ble_eq_true rfl) dX12_split_18 (fun x5 h => ?_)
      refine v_if_eq (tgt := 66) dX12_split_21 (by decide) (fun c6 => ?_) (fun c6 => ?_)
      · replace h := b_wp_t c6 h
        refine v_bipush ⟨by decide, by decide⟩ (by decide) dX12_split_66 ?_
        refine v_ireturn rfl dX12_split_68 ⟨by decide, by decide⟩ ?_
        exact ⟨_, rfl, h⟩
      · replace h := b_wp_f c6 h
        refine v_iload (i := 4) 4 rfl dX12_split_24 ?_
        refine v_cSIp (nA := 1) (As := [bI _]) (ix := 378) (cf_X12_isFeet (b_wp_b h)) rfl wc_X12_isFeet wm_12_378 wi_X12_isFeet wn_12 ⟨by decide, by decide, by decide⟩ rfl ⟨by decide, by decide⟩ ⟨by decide, by decide⟩ (Nat.le_of_ble_eq_true rfl) dX12_split_26 (fun x7 h => ?_)
        refine v_if_eq (tgt := 66) dX12_split_29 (by decide) (fun c8 => ?_) (fun c8 => ?_)
        · replace h := b_wp_t c8 h
          refine v_bipush ⟨by decide, by decide⟩ (by decide) dX12_split_66 ?_
          refine v_ireturn rfl dX12_split_68 ⟨by decide, by decide⟩ ?_
          exact ⟨_, rfl, h⟩
        · replace h := b_wp_f c8 h
          refine v_iload (i := 5) 5 rfl dX12_split_32 ?_
          refine v_cSIp (nA := 1) (As := [bI _]) (ix := 378) (cf_X12_isFeet (b_wp_b h)) rfl wc_X12_isFeet wm_12_378 wi_X12_isFeet wn_12 ⟨by decide, by decide, by decide⟩ rfl ⟨by decide, by decide⟩ ⟨by decide, by decide⟩ (Nat.le_of_ble_eq_true rfl) dX12_split_34 (fun x9 h => ?_)
          refine v_if_eq (tgt := 66) dX12_split_37 (by decide) (fun c10 => ?_) (fun c10 => ?_)
          · replace h := b_wp_t c10 h
            refine v_bipush ⟨by decide, by decide⟩ (by decide) dX12_split_66 ?_
            refine v_ireturn rfl dX12_split_68 ⟨by decide, by decide⟩ ?_
            exact ⟨_, rfl, h⟩
          · replace h := b_wp_f c10 h
            refine v_iload_n (f := 3) 3 rfl dX12_split_40 ?_
            refine v_iconst ⟨by decide, by decide⟩ dX12_split_41 ?_
            refine v_icmp_le (tgt := 53) dX12_split_42 (by decide) (fun c11 => ?_) (fun c11 => ?_)
            · replace h := b_wp_t c11 h
              exact t_X12_split_b53 h
            · replace h := b_wp_f c11 h
              refine v_iload (i := 6) 6 rfl dX12_split_45 ?_
              refine v_cSIp (nA := 1) (As := [bI _]) (ix := 378) (cf_X12_isFeet (b_wp_b h)) rfl wc_X12_isFeet wm_12_378 wi_X12_isFeet wn_12 ⟨by decide, by decide, by decide⟩ rfl ⟨by decide, by decide⟩ ⟨by decide, by decide⟩ (Nat.le_of_ble_eq_true rfl) dX12_split_47 (fun x46 h => ?_)
              refine v_if_eq (tgt := 66) dX12_split_50 (by decide) (fun c47 => ?_) (fun c47 => ?_)
              · replace h := b_wp_t c47 h
                refine v_bipush ⟨by decide, by decide⟩ (by decide) dX12_split_66 ?_
                refine v_ireturn rfl dX12_split_68 ⟨by decide, by decide⟩ ?_
                exact ⟨_, rfl, h⟩
              · replace h := b_wp_f c47 h
                exact t_X12_split_b53 h
theorem cf_X12_split {l : Launch} {E : bE} {M : bM} {v1 : Int} {v2 : Int} {v3 : Int} {v4 : Int} {v5 : Int} {v6 : Int} {v7 : Int} {Q : (Int × bM) → Prop} (h : b_wp (F_X12_split v1 v2 v3 v4 v5 v6 v7 M) Q) : b_C l E xX12_split yX12_split [bR 11, bI v1, bI v2, bI v3, bI v4, bI v5, bI v6, bI v7] M (b_pI Q) := b_met (by decide) ⟨rfl, rfl⟩ (Nat.le_of_ble_eq_true rfl) (fun _ _ => t_X12_split h)
abbrev xX12_join : bX := ("BurntHallModel", prog_14_method_34_code, 14, (Option.some Jvm.ClassFile.FieldType.int), b_rm 3 0 0, 0, "join")
abbrev yX12_join : MethodName := ⟨"BurntHallModel", "join", "(IIIIIII)I"⟩
theorem dX12_join_0 : decode prog_14_method_34_code 0 = .ok (.iload_n 1, 1) := by decide +kernel
theorem dX12_join_1 : decode prog_14_method_34_code 1 = .ok (.iconst 2, 1) := by decide +kernel
theorem dX12_join_2 : decode prog_14_method_34_code 2 = .ok (.iconst 4, 1) := by decide +kernel
theorem dX12_join_3 : decode prog_14_method_34_code 3 = .ok (.invokestatic 279, 3) := by decide +kernel
theorem dX12_join_6 : decode prog_14_method_34_code 6 = .ok (.ifCond .eq 19, 3) := by decide +kernel
theorem dX12_join_9 : decode prog_14_method_34_code 9 = .ok (.iload 6, 2) := by decide +kernel
theorem dX12_join_11 : decode prog_14_method_34_code 11 = .ok (.invokestatic 347, 3) := by decide +kernel
theorem dX12_join_14 : decode prog_14_method_34_code 14 = .ok (.ifCond .eq 11, 3) := by decide +kernel
theorem dX12_join_17 : decode prog_14_method_34_code 17 = .ok (.iload 7, 2) := by decide +kernel
theorem dX12_join_19 : decode prog_14_method_34_code 19 = .ok (.invokestatic 378, 3) := by decide +kernel
theorem dX12_join_22 : decode prog_14_method_34_code 22 = .ok (.ifCond .ne 6, 3) := by decide +kernel
theorem dX12_join_25 : decode prog_14_method_34_code 25 = .ok (.bipush (-2), 2) := by decide +kernel
theorem dX12_join_27 : decode prog_14_method_34_code 27 = .ok (.ireturn, 1) := by decide +kernel
theorem dX12_join_28 : decode prog_14_method_34_code 28 = .ok (.lconst 0, 1) := by decide +kernel
theorem dX12_join_29 : decode prog_14_method_34_code 29 = .ok (.lstore 8, 2) := by decide +kernel
theorem dX12_join_31 : decode prog_14_method_34_code 31 = .ok (.iconst 0, 1) := by decide +kernel
theorem dX12_join_32 : decode prog_14_method_34_code 32 = .ok (.istore 10, 2) := by decide +kernel
theorem dX12_join_34 : decode prog_14_method_34_code 34 = .ok (.iload 10, 2) := by decide +kernel
theorem dX12_join_36 : decode prog_14_method_34_code 36 = .ok (.iload_n 1, 1) := by decide +kernel
theorem dX12_join_37 : decode prog_14_method_34_code 37 = .ok (.if_icmp .ge 76, 3) := by decide +kernel
theorem dX12_join_40 : decode prog_14_method_34_code 40 = .ok (.iload 10, 2) := by decide +kernel
theorem dX12_join_42 : decode prog_14_method_34_code 42 = .ok (.ifCond .ne 7, 3) := by decide +kernel
theorem dX12_join_45 : decode prog_14_method_34_code 45 = .ok (.iload_n 2, 1) := by decide +kernel
theorem dX12_join_46 : decode prog_14_method_34_code 46 = .ok (.goto 26, 3) := by decide +kernel
theorem dX12_join_49 : decode prog_14_method_34_code 49 = .ok (.iload 10, 2) := by decide +kernel
theorem dX12_join_51 : decode prog_14_method_34_code 51 = .ok (.iconst 1, 1) := by decide +kernel
theorem dX12_join_52 : decode prog_14_method_34_code 52 = .ok (.if_icmp .ne 7, 3) := by decide +kernel
theorem dX12_join_55 : decode prog_14_method_34_code 55 = .ok (.iload_n 3, 1) := by decide +kernel
theorem dX12_join_56 : decode prog_14_method_34_code 56 = .ok (.goto 16, 3) := by decide +kernel
theorem dX12_join_59 : decode prog_14_method_34_code 59 = .ok (.iload 10, 2) := by decide +kernel
theorem dX12_join_61 : decode prog_14_method_34_code 61 = .ok (.iconst 2, 1) := by decide +kernel
theorem dX12_join_62 : decode prog_14_method_34_code 62 = .ok (.if_icmp .ne 8, 3) := by decide +kernel
theorem dX12_join_65 : decode prog_14_method_34_code 65 = .ok (.iload 4, 2) := by decide +kernel
theorem dX12_join_67 : decode prog_14_method_34_code 67 = .ok (.goto 5, 3) := by decide +kernel
theorem dX12_join_70 : decode prog_14_method_34_code 70 = .ok (.iload 5, 2) := by decide +kernel
theorem dX12_join_72 : decode prog_14_method_34_code 72 = .ok (.istore 11, 2) := by decide +kernel
theorem dX12_join_74 : decode prog_14_method_34_code 74 = .ok (.aload_n 0, 1) := by decide +kernel
theorem dX12_join_75 : decode prog_14_method_34_code 75 = .ok (.iload 11, 2) := by decide +kernel
theorem dX12_join_77 : decode prog_14_method_34_code 77 = .ok (.invokevirtual 385, 3) := by decide +kernel
theorem dX12_join_80 : decode prog_14_method_34_code 80 = .ok (.ifCond .eq 15, 3) := by decide +kernel
theorem dX12_join_83 : decode prog_14_method_34_code 83 = .ok (.lload 8, 2) := by decide +kernel
theorem dX12_join_85 : decode prog_14_method_34_code 85 = .ok (.iload 11, 2) := by decide +kernel
theorem dX12_join_87 : decode prog_14_method_34_code 87 = .ok (.lshr, 1) := by decide +kernel
theorem dX12_join_88 : decode prog_14_method_34_code 88 = .ok (.lconst 1, 1) := by decide +kernel
theorem dX12_join_89 : decode prog_14_method_34_code 89 = .ok (.land, 1) := by decide +kernel
theorem dX12_join_90 : decode prog_14_method_34_code 90 = .ok (.lconst 1, 1) := by decide +kernel
theorem dX12_join_91 : decode prog_14_method_34_code 91 = .ok (.lcmp, 1) := by decide +kernel
theorem dX12_join_92 : decode prog_14_method_34_code 92 = .ok (.ifCond .ne 6, 3) := by decide +kernel
theorem dX12_join_95 : decode prog_14_method_34_code 95 = .ok (.bipush (-2), 2) := by decide +kernel
theorem dX12_join_97 : decode prog_14_method_34_code 97 = .ok (.ireturn, 1) := by decide +kernel
theorem dX12_join_98 : decode prog_14_method_34_code 98 = .ok (.lload 8, 2) := by decide +kernel
theorem dX12_join_100 : decode prog_14_method_34_code 100 = .ok (.lconst 1, 1) := by decide +kernel
theorem dX12_join_101 : decode prog_14_method_34_code 101 = .ok (.iload 11, 2) := by decide +kernel
theorem dX12_join_103 : decode prog_14_method_34_code 103 = .ok (.lshl, 1) := by decide +kernel
theorem dX12_join_104 : decode prog_14_method_34_code 104 = .ok (.lor, 1) := by decide +kernel
theorem dX12_join_105 : decode prog_14_method_34_code 105 = .ok (.lstore 8, 2) := by decide +kernel
theorem dX12_join_107 : decode prog_14_method_34_code 107 = .ok (.iinc 10 1, 3) := by decide +kernel
theorem dX12_join_110 : decode prog_14_method_34_code 110 = .ok (.goto (-76), 3) := by decide +kernel
theorem dX12_join_113 : decode prog_14_method_34_code 113 = .ok (.lconst 0, 1) := by decide +kernel
theorem dX12_join_114 : decode prog_14_method_34_code 114 = .ok (.lstore 10, 2) := by decide +kernel
theorem dX12_join_116 : decode prog_14_method_34_code 116 = .ok (.iconst 0, 1) := by decide +kernel
theorem dX12_join_117 : decode prog_14_method_34_code 117 = .ok (.istore 12, 2) := by decide +kernel
theorem dX12_join_119 : decode prog_14_method_34_code 119 = .ok (.iconst 0, 1) := by decide +kernel
theorem dX12_join_120 : decode prog_14_method_34_code 120 = .ok (.istore 13, 2) := by decide +kernel
theorem dX12_join_122 : decode prog_14_method_34_code 122 = .ok (.iload 13, 2) := by decide +kernel
theorem dX12_join_124 : decode prog_14_method_34_code 124 = .ok (.aload_n 0, 1) := by decide +kernel
theorem dX12_join_125 : decode prog_14_method_34_code 125 = .ok (.getfield 374, 3) := by decide +kernel
theorem dX12_join_128 : decode prog_14_method_34_code 128 = .ok (.if_icmp .ge 74, 3) := by decide +kernel
theorem dX12_join_131 : decode prog_14_method_34_code 131 = .ok (.lload 8, 2) := by decide +kernel
theorem dX12_join_133 : decode prog_14_method_34_code 133 = .ok (.iload 13, 2) := by decide +kernel
theorem dX12_join_135 : decode prog_14_method_34_code 135 = .ok (.lshr, 1) := by decide +kernel
theorem dX12_join_136 : decode prog_14_method_34_code 136 = .ok (.lconst 1, 1) := by decide +kernel
theorem dX12_join_137 : decode prog_14_method_34_code 137 = .ok (.land, 1) := by decide +kernel
theorem dX12_join_138 : decode prog_14_method_34_code 138 = .ok (.lconst 0, 1) := by decide +kernel
theorem dX12_join_139 : decode prog_14_method_34_code 139 = .ok (.lcmp, 1) := by decide +kernel
theorem dX12_join_140 : decode prog_14_method_34_code 140 = .ok (.ifCond .ne 6, 3) := by decide +kernel
theorem dX12_join_143 : decode prog_14_method_34_code 143 = .ok (.goto 53, 3) := by decide +kernel
theorem dX12_join_146 : decode prog_14_method_34_code 146 = .ok (.iload 6, 2) := by decide +kernel
theorem dX12_join_148 : decode prog_14_method_34_code 148 = .ok (.aload_n 0, 1) := by decide +kernel
theorem dX12_join_149 : decode prog_14_method_34_code 149 = .ok (.getfield 39, 3) := by decide +kernel
theorem dX12_join_152 : decode prog_14_method_34_code 152 = .ok (.iload 13, 2) := by decide +kernel
theorem dX12_join_154 : decode prog_14_method_34_code 154 = .ok (.iaload, 1) := by decide +kernel
theorem dX12_join_155 : decode prog_14_method_34_code 155 = .ok (.if_icmp .lt 14, 3) := by decide +kernel
theorem dX12_join_158 : decode prog_14_method_34_code 158 = .ok (.aload_n 0, 1) := by decide +kernel
theorem dX12_join_159 : decode prog_14_method_34_code 159 = .ok (.getfield 42, 3) := by decide +kernel
theorem dX12_join_162 : decode prog_14_method_34_code 162 = .ok (.iload 13, 2) := by decide +kernel
theorem dX12_join_164 : decode prog_14_method_34_code 164 = .ok (.iaload, 1) := by decide +kernel
theorem dX12_join_165 : decode prog_14_method_34_code 165 = .ok (.iconst (-1), 1) := by decide +kernel
theorem dX12_join_166 : decode prog_14_method_34_code 166 = .ok (.if_icmp .eq 6, 3) := by decide +kernel
theorem dX12_join_169 : decode prog_14_method_34_code 169 = .ok (.bipush (-4), 2) := by decide +kernel
theorem dX12_join_171 : decode prog_14_method_34_code 171 = .ok (.ireturn, 1) := by decide +kernel
theorem dX12_join_172 : decode prog_14_method_34_code 172 = .ok (.lload 10, 2) := by decide +kernel
theorem dX12_join_174 : decode prog_14_method_34_code 174 = .ok (.aload_n 0, 1) := by decide +kernel
theorem dX12_join_175 : decode prog_14_method_34_code 175 = .ok (.getfield 51, 3) := by decide +kernel
theorem dX12_join_178 : decode prog_14_method_34_code 178 = .ok (.iload 13, 2) := by decide +kernel
theorem dX12_join_180 : decode prog_14_method_34_code 180 = .ok (.laload, 1) := by decide +kernel
theorem dX12_join_181 : decode prog_14_method_34_code 181 = .ok (.lor, 1) := by decide +kernel
theorem dX12_join_182 : decode prog_14_method_34_code 182 = .ok (.lstore 10, 2) := by decide +kernel
theorem dX12_join_184 : decode prog_14_method_34_code 184 = .ok (.iload 12, 2) := by decide +kernel
theorem dX12_join_186 : decode prog_14_method_34_code 186 = .ok (.aload_n 0, 1) := by decide +kernel
theorem dX12_join_187 : decode prog_14_method_34_code 187 = .ok (.getfield 36, 3) := by decide +kernel
theorem dX12_join_190 : decode prog_14_method_34_code 190 = .ok (.iload 13, 2) := by decide +kernel
theorem dX12_join_192 : decode prog_14_method_34_code 192 = .ok (.iaload, 1) := by decide +kernel
theorem dX12_join_193 : decode prog_14_method_34_code 193 = .ok (.iadd, 1) := by decide +kernel
theorem dX12_join_194 : decode prog_14_method_34_code 194 = .ok (.istore 12, 2) := by decide +kernel
theorem dX12_join_196 : decode prog_14_method_34_code 196 = .ok (.iinc 13 1, 3) := by decide +kernel
theorem dX12_join_199 : decode prog_14_method_34_code 199 = .ok (.goto (-77), 3) := by decide +kernel
theorem dX12_join_202 : decode prog_14_method_34_code 202 = .ok (.aload_n 0, 1) := by decide +kernel
theorem dX12_join_203 : decode prog_14_method_34_code 203 = .ok (.getfield 374, 3) := by decide +kernel
theorem dX12_join_206 : decode prog_14_method_34_code 206 = .ok (.bipush 60, 2) := by decide +kernel
theorem dX12_join_208 : decode prog_14_method_34_code 208 = .ok (.if_icmp .ne 6, 3) := by decide +kernel
theorem dX12_join_211 : decode prog_14_method_34_code 211 = .ok (.bipush (-3), 2) := by decide +kernel
theorem dX12_join_213 : decode prog_14_method_34_code 213 = .ok (.ireturn, 1) := by decide +kernel
theorem dX12_join_214 : decode prog_14_method_34_code 214 = .ok (.iconst 0, 1) := by decide +kernel
theorem dX12_join_215 : decode prog_14_method_34_code 215 = .ok (.istore 13, 2) := by decide +kernel
theorem dX12_join_217 : decode prog_14_method_34_code 217 = .ok (.iload 13, 2) := by decide +kernel
theorem dX12_join_219 : decode prog_14_method_34_code 219 = .ok (.aload_n 0, 1) := by decide +kernel
theorem dX12_join_220 : decode prog_14_method_34_code 220 = .ok (.getfield 374, 3) := by decide +kernel
theorem dX12_join_223 : decode prog_14_method_34_code 223 = .ok (.if_icmp .ge 30, 3) := by decide +kernel
theorem dX12_join_226 : decode prog_14_method_34_code 226 = .ok (.lload 8, 2) := by decide +kernel
theorem dX12_join_228 : decode prog_14_method_34_code 228 = .ok (.iload 13, 2) := by decide +kernel
theorem dX12_join_230 : decode prog_14_method_34_code 230 = .ok (.lshr, 1) := by decide +kernel
theorem dX12_join_231 : decode prog_14_method_34_code 231 = .ok (.lconst 1, 1) := by decide +kernel
theorem dX12_join_232 : decode prog_14_method_34_code 232 = .ok (.land, 1) := by decide +kernel
theorem dX12_join_233 : decode prog_14_method_34_code 233 = .ok (.lconst 1, 1) := by decide +kernel
theorem dX12_join_234 : decode prog_14_method_34_code 234 = .ok (.lcmp, 1) := by decide +kernel
theorem dX12_join_235 : decode prog_14_method_34_code 235 = .ok (.ifCond .ne 12, 3) := by decide +kernel
theorem dX12_join_238 : decode prog_14_method_34_code 238 = .ok (.aload_n 0, 1) := by decide +kernel
theorem dX12_join_239 : decode prog_14_method_34_code 239 = .ok (.getfield 42, 3) := by decide +kernel
theorem dX12_join_242 : decode prog_14_method_34_code 242 = .ok (.iload 13, 2) := by decide +kernel
theorem dX12_join_244 : decode prog_14_method_34_code 244 = .ok (.iload 6, 2) := by decide +kernel
theorem dX12_join_246 : decode prog_14_method_34_code 246 = .ok (.iastore, 1) := by decide +kernel
theorem dX12_join_247 : decode prog_14_method_34_code 247 = .ok (.iinc 13 1, 3) := by decide +kernel
theorem dX12_join_250 : decode prog_14_method_34_code 250 = .ok (.goto (-33), 3) := by decide +kernel
theorem dX12_join_253 : decode prog_14_method_34_code 253 = .ok (.aload_n 0, 1) := by decide +kernel
theorem dX12_join_254 : decode prog_14_method_34_code 254 = .ok (.iload 7, 2) := by decide +kernel
theorem dX12_join_256 : decode prog_14_method_34_code 256 = .ok (.iload 6, 2) := by decide +kernel
theorem dX12_join_258 : decode prog_14_method_34_code 258 = .ok (.lload 10, 2) := by decide +kernel
theorem dX12_join_260 : decode prog_14_method_34_code 260 = .ok (.invokevirtual 381, 3) := by decide +kernel
theorem dX12_join_263 : decode prog_14_method_34_code 263 = .ok (.istore 13, 2) := by decide +kernel
theorem dX12_join_265 : decode prog_14_method_34_code 265 = .ok (.aload_n 0, 1) := by decide +kernel
theorem dX12_join_266 : decode prog_14_method_34_code 266 = .ok (.getfield 48, 3) := by decide +kernel
theorem dX12_join_269 : decode prog_14_method_34_code 269 = .ok (.iload 13, 2) := by decide +kernel
theorem dX12_join_271 : decode prog_14_method_34_code 271 = .ok (.iload 12, 2) := by decide +kernel
theorem dX12_join_273 : decode prog_14_method_34_code 273 = .ok (.iload 7, 2) := by decide +kernel
theorem dX12_join_275 : decode prog_14_method_34_code 275 = .ok (.isub, 1) := by decide +kernel
theorem dX12_join_276 : decode prog_14_method_34_code 276 = .ok (.iastore, 1) := by decide +kernel
theorem dX12_join_277 : decode prog_14_method_34_code 277 = .ok (.iload 13, 2) := by decide +kernel
theorem dX12_join_279 : decode prog_14_method_34_code 279 = .ok (.ireturn, 1) := by decide +kernel
abbrev A_X12_join_34 (l : Launch) (E : bE) (Q : (Int × bM) → Prop) (v1 : Int) (v2 : Int) (v3 : Int) (v4 : Int) (v5 : Int) (v6 : Int) (v7 : Int) (M : bM) : (Int × Int) → Prop := (fun t : Int × Int => V l E xX12_join (0, 0) 34 [(0, bR 11), (1, bI v1), (2, bI v2), (3, bI v3), (4, bI v4), (5, bI v5), (6, bI v6), (7, bI v7), (8, bJ (t.1)), (10, bI (t.2))] [] M (b_pI Q))
abbrev X_X12_join_34 (l : Launch) (E : bE) (Q : (Int × bM) → Prop) (v1 : Int) (v2 : Int) (v3 : Int) (v4 : Int) (v5 : Int) (v6 : Int) (v7 : Int) (M : bM) : ((Int) ⊕ (Int × bM)) → Prop := (Sum.elim (fun t : Int => V l E xX12_join (0, 0) 113 [(0, bR 11), (6, bI v6), (7, bI v7), (8, bJ t)] [] M (b_pI Q)) Q)
noncomputable def F_X12_join_b72 (v1 : Int) (v2 : Int) (v3 : Int) (v4 : Int) (v5 : Int) (v6 : Int) (v7 : Int) (v8 : Int) (v10 : Int) (u0 : Int) (M : bM) : Option ((Int × Int) ⊕ ((Int) ⊕ (Int × bM))) :=
  b_bind (F_X12_isLot u0 M) (fun x11 => if x11 = 0 then (some (.inr (.inr ((-2), M)))) else (if (j_cmp (j_and (j_shr v8 u0) 1) 1) = 0 then (some (.inr (.inr ((-2), M)))) else (b_let ((j_or v8 (j_shl 1 u0))) (fun y14 => b_g (b_i32 (v10 + 1)) (some (.inl (y14, (v10 + 1))))))))
theorem t_X12_join_b72 {l : Launch} {E : bE} {Q : (Int × bM) → Prop} {v1 : Int} {v2 : Int} {v3 : Int} {v4 : Int} {v5 : Int} {v6 : Int} {v7 : Int} {v8 : Int} {v10 : Int} {u0 : Int} {M : bM} (h : b_wp (F_X12_join_b72 v1 v2 v3 v4 v5 v6 v7 v8 v10 u0 M) (Sum.elim (A_X12_join_34 l E Q v1 v2 v3 v4 v5 v6 v7 M) (X_X12_join_34 l E Q v1 v2 v3 v4 v5 v6 v7 M))) : V l E xX12_join (0, 0) 72 [(0, bR 11), (1, bI v1), (2, bI v2), (3, bI v3), (4, bI v4), (5, bI v5), (6, bI v6), (7, bI v7), (8, bJ v8), (10, bI v10)] [bI u0] M (b_pI Q) := by
  unfold F_X12_join_b72 at h
  refine v_istore (i := 11) (ls' := [(11, bI _), (0, bR _), (1, bI _), (2, bI _), (3, bI _), (4, bI _), (5, bI _), (6, bI _), (7, bI _), (8, bJ _), (10, bI _)]) (by decide) dX12_join_72 rfl ?_
  refine v_aload_n (f := 0) 1 rfl dX12_join_74 ?_
  refine v_iload (i := 11) 0 rfl dX12_join_75 ?_
  refine v_cVIp (nA := 1) (As := [bI _]) (ix := 385) (cf_X12_isLot (b_wp_b h)) rfl kd_11 rfl rfl wc_X12_isLot wm_12_385 wi_X12_isLot ws_X12_isLot wn_12 ⟨by decide, by decide, by decide⟩ rfl ⟨by decide, by decide⟩ ⟨by decide, by decide⟩ (Nat.le_of_ble_eq_true rfl) dX12_join_77 (fun x11 h => ?_)
  refine v_if_eq (tgt := 95) dX12_join_80 (by decide) (fun c12 => ?_) (fun c12 => ?_)
  · replace h := b_wp_t c12 h
    refine v_bipush ⟨by decide, by decide⟩ (by decide) dX12_join_95 ?_
    refine v_ireturn rfl dX12_join_97 ⟨by decide, by decide⟩ ?_
    exact ⟨_, rfl, h⟩
  · replace h := b_wp_f c12 h
    refine v_lload (i := 8) 9 rfl dX12_join_83 ?_
    refine v_iload (i := 11) 0 rfl dX12_join_85 ?_
    refine v_lshr (v := j_shr _ _) rfl dX12_join_87 ?_
    refine v_lconst1 dX12_join_88 ?_
    refine v_land (v := j_and _ _) rfl dX12_join_89 ?_
    refine v_lconst1 dX12_join_90 ?_
    refine v_lcmpN dX12_join_91 ?_
    refine v_if_ne (tgt := 98) dX12_join_92 (by decide) (fun c13 => ?_) (fun c13 => ?_)
    · replace h := b_wp_f c13 h
      refine v_lload (i := 8) 9 rfl dX12_join_98 ?_
      refine v_lconst1 dX12_join_100 ?_
      refine v_iload (i := 11) 0 rfl dX12_join_101 ?_
      refine v_lshl (v := j_shl _ _) rfl dX12_join_103 ?_
      refine v_lor (v := j_or _ _) rfl dX12_join_104 ?_
      replace h := b_wp_l h
      obtain ⟨g15, h⟩ := b_wp_g h
      refine v_lstore (i := 8) (ls' := [(8, bJ _), (11, bI _), (0, bR _), (1, bI _), (2, bI _), (3, bI _), (4, bI _), (5, bI _), (6, bI _), (7, bI _), (10, bI _)]) (by decide) dX12_join_105 rfl ?_
      refine v_iincN (ls' := [(10, bI _), (8, bJ _), (11, bI _), (0, bR _), (1, bI _), (2, bI _), (3, bI _), (4, bI _), (5, bI _), (6, bI _), (7, bI _)]) 10 rfl (by decide) g15 dX12_join_107 rfl ?_
      refine v_goto (tgt := 34) dX12_join_110 (by decide) ?_
      refine v_sub (ls2 := [(0, bR _), (1, bI _), (2, bI _), (3, bI _), (4, bI _), (5, bI _), (6, bI _), (7, bI _), (8, bJ _), (10, bI _)]) [3, 4, 5, 6, 7, 8, 9, 10, 1, 0] rfl ?_
      exact h
    · replace h := b_wp_t c13 h
      refine v_bipush ⟨by decide, by decide⟩ (by decide) dX12_join_95 ?_
      refine v_ireturn rfl dX12_join_97 ⟨by decide, by decide⟩ ?_
      exact ⟨_, rfl, h⟩
noncomputable def F_X12_join_s34 (v1 : Int) (v2 : Int) (v3 : Int) (v4 : Int) (v5 : Int) (v6 : Int) (v7 : Int) (v8 : Int) (v10 : Int) (M : bM) : Option ((Int × Int) ⊕ ((Int) ⊕ (Int × bM))) :=
  if v1 ≤ v10 then (some (.inr (.inl (v8)))) else (if v10 = 0 then (F_X12_join_b72 v1 v2 v3 v4 v5 v6 v7 v8 v10 v2 M) else (if v10 = 1 then (F_X12_join_b72 v1 v2 v3 v4 v5 v6 v7 v8 v10 v3 M) else (if v10 = 2 then (F_X12_join_b72 v1 v2 v3 v4 v5 v6 v7 v8 v10 v4 M) else (F_X12_join_b72 v1 v2 v3 v4 v5 v6 v7 v8 v10 v5 M))))
theorem t_X12_join_s34 {l : Launch} {E : bE} {Q : (Int × bM) → Prop} {v1 : Int} {v2 : Int} {v3 : Int} {v4 : Int} {v5 : Int} {v6 : Int} {v7 : Int} {v8 : Int} {v10 : Int} {M : bM} (h : b_wp (F_X12_join_s34 v1 v2 v3 v4 v5 v6 v7 v8 v10 M) (Sum.elim (A_X12_join_34 l E Q v1 v2 v3 v4 v5 v6 v7 M) (X_X12_join_34 l E Q v1 v2 v3 v4 v5 v6 v7 M))) : V l E xX12_join (0, 0) 34 [(0, bR 11), (1, bI v1), (2, bI v2), (3, bI v3), (4, bI v4), (5, bI v5), (6, bI v6), (7, bI v7), (8, bJ v8), (10, bI v10)] [] M (b_pI Q) := by
  unfold F_X12_join_s34 at h
  refine v_iload (i := 10) 9 rfl dX12_join_34 ?_
  refine v_iload_n (f := 1) 1 rfl dX12_join_36 ?_
  refine v_icmp_ge (tgt := 113) dX12_join_37 (by decide) (fun c7 => ?_) (fun c7 => ?_)
  · replace h := b_wp_t c7 h
    refine v_sub (ls2 := [(0, bR _), (6, bI _), (7, bI _), (8, bJ _)]) [0, 6, 7, 8] rfl ?_
    exact h
  · replace h := b_wp_f c7 h
    refine v_iload (i := 10) 9 rfl dX12_join_40 ?_
    refine v_if_ne (tgt := 49) dX12_join_42 (by decide) (fun c8 => ?_) (fun c8 => ?_)
    · replace h := b_wp_f c8 h
      refine v_iload (i := 10) 9 rfl dX12_join_49 ?_
      refine v_iconst ⟨by decide, by decide⟩ dX12_join_51 ?_
      refine v_icmp_ne (tgt := 59) dX12_join_52 (by decide) (fun c9 => ?_) (fun c9 => ?_)
      · replace h := b_wp_f c9 h
        refine v_iload (i := 10) 9 rfl dX12_join_59 ?_
        refine v_iconst ⟨by decide, by decide⟩ dX12_join_61 ?_
        refine v_icmp_ne (tgt := 70) dX12_join_62 (by decide) (fun c10 => ?_) (fun c10 => ?_)
        · replace h := b_wp_f c10 h
          refine v_iload (i := 5) 5 rfl dX12_join_70 ?_
          exact t_X12_join_b72 h
        · replace h := b_wp_t c10 h
          refine v_iload (i := 4) 4 rfl dX12_join_65 ?_
          refine v_goto (tgt := 72) dX12_join_67 (by decide) ?_
          exact t_X12_join_b72 h
      · replace h := b_wp_t c9 h
        refine v_iload_n (f := 3) 3 rfl dX12_join_55 ?_
        refine v_goto (tgt := 72) dX12_join_56 (by decide) ?_
        exact t_X12_join_b72 h
    · replace h := b_wp_t c8 h
      refine v_iload_n (f := 2) 2 rfl dX12_join_45 ?_
      refine v_goto (tgt := 72) dX12_join_46 (by decide) ?_
      exact t_X12_join_b72 h
theorem l_X12_join_34 {l : Launch} {E : bE} {Q : (Int × bM) → Prop} {v1 : Int} {v2 : Int} {v3 : Int} {v4 : Int} {v5 : Int} {v6 : Int} {v7 : Int} {M : bM} {s : Int × Int} (h : b_wp (b_loop (fun t => F_X12_join_s34 v1 v2 v3 v4 v5 v6 v7 t.1 t.2 M) s) (X_X12_join_34 l E Q v1 v2 v3 v4 v5 v6 v7 M)) : A_X12_join_34 l E Q v1 v2 v3 v4 v5 v6 v7 M s := b_loop_wp (fun t h => t_X12_join_s34 h) s h
abbrev A_X12_join_122 (l : Launch) (E : bE) (Q : (Int × bM) → Prop) (v6 : Int) (v7 : Int) (v8 : Int) (M : bM) : (Int × Int × Int) → Prop := (fun t : Int × Int × Int => V l E xX12_join (0, 0) 122 [(0, bR 11), (6, bI v6), (7, bI v7), (8, bJ v8), (10, bJ (t.1)), (12, bI (t.2.1)), (13, bI (t.2.2))] [] M (b_pI Q))
abbrev X_X12_join_122 (l : Launch) (E : bE) (Q : (Int × bM) → Prop) (v6 : Int) (v7 : Int) (v8 : Int) (M : bM) : ((Int × Int) ⊕ (Int × bM)) → Prop := (Sum.elim (fun t : Int × Int => V l E xX12_join (0, 0) 202 [(0, bR 11), (6, bI v6), (7, bI v7), (8, bJ v8), (10, bJ (t.1)), (12, bI (t.2))] [] M (b_pI Q)) Q)
noncomputable def F_X12_join_s122 (v6 : Int) (v7 : Int) (v8 : Int) (v10 : Int) (v12 : Int) (v13 : Int) (M : bM) : Option ((Int × Int × Int) ⊕ ((Int × Int) ⊕ (Int × bM))) :=
  if (M 11 20) ≤ v13 then (some (.inr (.inl (v10, v12)))) else (if (j_cmp (j_and (j_shr v8 v13) 1) 0) = 0 then (b_g (b_i32 (v13 + 1)) (some (.inl (v10, v12, (v13 + 1))))) else (b_g (0 ≤ v13 ∧ v13 < 60) (if v6 < (M 170 v13) then (some (.inr (.inr ((-4), M)))) else (b_g (0 ≤ v13 ∧ v13 < 60) (if (M 171 v13) = (-1) then (b_g (0 ≤ v13 ∧ v13 < 60) (b_let ((j_or v10 (M 174 v13))) (fun y23 => b_g ((0 ≤ v13 ∧ v13 < 60) ∧ (b_i32 (v12 + (M 169 v13)))) (b_let ((v12 + (M 169 v13))) (fun y26 => b_g (b_i32 (v13 + 1)) (some (.inl (y23, y26, (v13 + 1))))))))) else (some (.inr (.inr ((-4), M)))))))))
theorem t_X12_join_s122 {l : Launch} {E : bE} {Q : (Int × bM) → Prop} {v6 : Int} {v7 : Int} {v8 : Int} {v10 : Int} {v12 : Int} {v13 : Int} {M : bM} (h : b_wp (F_X12_join_s122 v6 v7 v8 v10 v12 v13 M) (Sum.elim (A_X12_join_122 l E Q v6 v7 v8 M) (X_X12_join_122 l E Q v6 v7 v8 M))) : V l E xX12_join (0, 0) 122 [(0, bR 11), (6, bI v6), (7, bI v7), (8, bJ v8), (10, bJ v10), (12, bI v12), (13, bI v13)] [] M (b_pI Q) := by
  unfold F_X12_join_s122 at h
  refine v_iload (i := 13) 6 rfl dX12_join_122 ?_
  refine v_aload_n (f := 0) 0 rfl dX12_join_124 ?_
  refine v_getI (kf := 20) (kz := 20) rfl kd_11 rfl ⟨by decide, by decide⟩ rfl wf_12_374 dX12_join_125 ?_
  refine v_icmp_ge (tgt := 202) dX12_join_128 (by decide) (fun c16 => ?_) (fun c16 => ?_)
  · replace h := b_wp_t c16 h
    refine v_sub (ls2 := [(0, bR _), (6, bI _), (7, bI _), (8, bJ _), (10, bJ _), (12, bI _)]) [0, 1, 2, 3, 4, 5] rfl ?_
    exact h
  · replace h := b_wp_f c16 h
    refine v_lload (i := 8) 3 rfl dX12_join_131 ?_
    refine v_iload (i := 13) 6 rfl dX12_join_133 ?_
    refine v_lshr (v := j_shr _ _) rfl dX12_join_135 ?_
    refine v_lconst1 dX12_join_136 ?_
    refine v_land (v := j_and _ _) rfl dX12_join_137 ?_
    refine v_lconst0 dX12_join_138 ?_
    refine v_lcmpN dX12_join_139 ?_
    refine v_if_ne (tgt := 146) dX12_join_140 (by decide) (fun c17 => ?_) (fun c17 => ?_)
    · replace h := b_wp_f c17 h
      obtain ⟨g18, h⟩ := b_wp_g h
      refine v_iload (i := 6) 1 rfl dX12_join_146 ?_
      refine v_aload_n (f := 0) 0 rfl dX12_join_148 ?_
      refine v_getR (kf := 22) (kz := 22) rfl kd_11 rfl ⟨by decide, by decide⟩ rfl wf_12_39 dX12_join_149 ?_
      refine v_iload (i := 13) 6 rfl dX12_join_152 ?_
      refine v_iaload kd_170 g18 (by decide) dX12_join_154 ?_
      refine v_icmp_lt (tgt := 169) dX12_join_155 (by decide) (fun c19 => ?_) (fun c19 => ?_)
      · replace h := b_wp_t c19 h
        refine v_bipush ⟨by decide, by decide⟩ (by decide) dX12_join_169 ?_
        refine v_ireturn rfl dX12_join_171 ⟨by decide, by decide⟩ ?_
        exact ⟨_, rfl, h⟩
      · replace h := b_wp_f c19 h
        obtain ⟨g20, h⟩ := b_wp_g h
        refine v_aload_n (f := 0) 0 rfl dX12_join_158 ?_
        refine v_getR (kf := 23) (kz := 23) rfl kd_11 rfl ⟨by decide, by decide⟩ rfl wf_12_42 dX12_join_159 ?_
        refine v_iload (i := 13) 6 rfl dX12_join_162 ?_
        refine v_iaload kd_171 g20 (by decide) dX12_join_164 ?_
        refine v_iconst ⟨by decide, by decide⟩ dX12_join_165 ?_
        refine v_icmp_eq (tgt := 172) dX12_join_166 (by decide) (fun c21 => ?_) (fun c21 => ?_)
        · replace h := b_wp_t c21 h
          obtain ⟨g22, h⟩ := b_wp_g h
          refine v_lload (i := 10) 4 rfl dX12_join_172 ?_
          refine v_aload_n (f := 0) 0 rfl dX12_join_174 ?_
          refine v_getR (kf := 26) (kz := 26) rfl kd_11 rfl ⟨by decide, by decide⟩ rfl wf_12_51 dX12_join_175 ?_
          refine v_iload (i := 13) 6 rfl dX12_join_178 ?_
          refine v_laload kd_174 g22 (by decide) dX12_join_180 ?_
          refine v_lor (v := j_or _ _) rfl dX12_join_181 ?_
          replace h := b_wp_l h
          obtain ⟨⟨g24, g25⟩, h⟩ := b_wp_g h
          refine v_lstore (i := 10) (ls' := [(10, bJ _), (0, bR _), (6, bI _), (7, bI _), (8, bJ _), (12, bI _), (13, bI _)]) (by decide) dX12_join_182 rfl ?_
          refine v_iload (i := 12) 5 rfl dX12_join_184 ?_
          refine v_aload_n (f := 0) 1 rfl dX12_join_186 ?_
          refine v_getR (kf := 21) (kz := 21) rfl kd_11 rfl ⟨by decide, by decide⟩ rfl wf_12_36 dX12_join_187 ?_
          refine v_iload (i := 13) 6 rfl dX12_join_190 ?_
          refine v_iaload kd_169 g24 (by decide) dX12_join_192 ?_
          refine v_iaddN g25 dX12_join_193 ?_
          replace h := b_wp_l h
          obtain ⟨g27, h⟩ := b_wp_g h
          refine v_istore (i := 12) (ls' := [(12, bI _), (10, bJ _), (0, bR _), (6, bI _), (7, bI _), (8, bJ _), (13, bI _)]) (by decide) dX12_join_194 rfl ?_
          refine v_iincN (ls' := [(13, bI _), (12, bI _), (10, bJ _), (0, bR _), (6, bI _), (7, bI _), (8, bJ _)]) 6 rfl (by decide) g27 dX12_join_196 rfl ?_
          refine v_goto (tgt := 122) dX12_join_199 (by decide) ?_
          refine v_sub (ls2 := [(0, bR _), (6, bI _), (7, bI _), (8, bJ _), (10, bJ _), (12, bI _), (13, bI _)]) [3, 4, 5, 6, 2, 1, 0] rfl ?_
          exact h
        · replace h := b_wp_f c21 h
          refine v_bipush ⟨by decide, by decide⟩ (by decide) dX12_join_169 ?_
          refine v_ireturn rfl dX12_join_171 ⟨by decide, by decide⟩ ?_
          exact ⟨_, rfl, h⟩
    · replace h := b_wp_t c17 h
      obtain ⟨g28, h⟩ := b_wp_g h
      refine v_goto (tgt := 196) dX12_join_143 (by decide) ?_
      refine v_iincN (ls' := [(13, bI _), (0, bR _), (6, bI _), (7, bI _), (8, bJ _), (10, bJ _), (12, bI _)]) 6 rfl (by decide) g28 dX12_join_196 rfl ?_
      refine v_goto (tgt := 122) dX12_join_199 (by decide) ?_
      refine v_sub (ls2 := [(0, bR _), (6, bI _), (7, bI _), (8, bJ _), (10, bJ _), (12, bI _), (13, bI _)]) [1, 2, 3, 4, 5, 6, 0] rfl ?_
      exact h
theorem l_X12_join_122 {l : Launch} {E : bE} {Q : (Int × bM) → Prop} {v6 : Int} {v7 : Int} {v8 : Int} {M : bM} {s : Int × Int × Int} (h : b_wp (b_loop (fun t => F_X12_join_s122 v6 v7 v8 t.1 t.2.1 t.2.2 M) s) (X_X12_join_122 l E Q v6 v7 v8 M)) : A_X12_join_122 l E Q v6 v7 v8 M s := b_loop_wp (fun t h => t_X12_join_s122 h) s h
abbrev A_X12_join_217 (l : Launch) (E : bE) (Q : (Int × bM) → Prop) (v6 : Int) (v7 : Int) (v8 : Int) (v10 : Int) (v12 : Int) : (Int × bM) → Prop := (fun t : Int × bM => V l E xX12_join (0, 0) 217 [(0, bR 11), (6, bI v6), (7, bI v7), (8, bJ v8), (10, bJ v10), (12, bI v12), (13, bI (t.1))] [] t.2 (b_pI Q))
abbrev X_X12_join_217 (l : Launch) (E : bE) (Q : (Int × bM) → Prop) (v6 : Int) (v7 : Int) (v8 : Int) (v10 : Int) (v12 : Int) : (bM) → Prop := (fun t : bM => V l E xX12_join (0, 0) 253 [(0, bR 11), (6, bI v6), (7, bI v7), (10, bJ v10), (12, bI v12)] [] t (b_pI Q))
noncomputable def F_X12_join_s217 (v6 : Int) (v7 : Int) (v8 : Int) (v10 : Int) (v12 : Int) (v13 : Int) (M : bM) : Option ((Int × bM) ⊕ (bM)) :=
  if (M 11 20) ≤ v13 then (some (.inr (M))) else (if (j_cmp (j_and (j_shr v8 v13) 1) 1) = 0 then (b_g (0 ≤ v13 ∧ v13 < 60) (b_let (b_up M 171 v13 v6) (fun M34 => b_g (b_i32 (v13 + 1)) (some (.inl ((v13 + 1), M34)))))) else (b_g (b_i32 (v13 + 1)) (some (.inl ((v13 + 1), M)))))
theorem t_X12_join_s217 {l : Launch} {E : bE} {Q : (Int × bM) → Prop} {v6 : Int} {v7 : Int} {v8 : Int} {v10 : Int} {v12 : Int} {v13 : Int} {M : bM} (h : b_wp (F_X12_join_s217 v6 v7 v8 v10 v12 v13 M) (Sum.elim (A_X12_join_217 l E Q v6 v7 v8 v10 v12) (X_X12_join_217 l E Q v6 v7 v8 v10 v12))) : V l E xX12_join (0, 0) 217 [(0, bR 11), (6, bI v6), (7, bI v7), (8, bJ v8), (10, bJ v10), (12, bI v12), (13, bI v13)] [] M (b_pI Q) := by
  unfold F_X12_join_s217 at h
  refine v_iload (i := 13) 6 rfl dX12_join_217 ?_
  refine v_aload_n (f := 0) 0 rfl dX12_join_219 ?_
  refine v_getI (kf := 20) (kz := 20) rfl kd_11 rfl ⟨by decide, by decide⟩ rfl wf_12_374 dX12_join_220 ?_
  refine v_icmp_ge (tgt := 253) dX12_join_223 (by decide) (fun c30 => ?_) (fun c30 => ?_)
  · replace h := b_wp_t c30 h
    refine v_sub (ls2 := [(0, bR _), (6, bI _), (7, bI _), (10, bJ _), (12, bI _)]) [0, 1, 2, 4, 5] rfl ?_
    exact h
  · replace h := b_wp_f c30 h
    refine v_lload (i := 8) 3 rfl dX12_join_226 ?_
    refine v_iload (i := 13) 6 rfl dX12_join_228 ?_
    refine v_lshr (v := j_shr _ _) rfl dX12_join_230 ?_
    refine v_lconst1 dX12_join_231 ?_
    refine v_land (v := j_and _ _) rfl dX12_join_232 ?_
    refine v_lconst1 dX12_join_233 ?_
    refine v_lcmpN dX12_join_234 ?_
    refine v_if_ne (tgt := 247) dX12_join_235 (by decide) (fun c31 => ?_) (fun c31 => ?_)
    · replace h := b_wp_f c31 h
      obtain ⟨g32, h⟩ := b_wp_g h
      refine v_iincN (ls' := [(13, bI _), (0, bR _), (6, bI _), (7, bI _), (8, bJ _), (10, bJ _), (12, bI _)]) 6 rfl (by decide) g32 dX12_join_247 rfl ?_
      refine v_goto (tgt := 217) dX12_join_250 (by decide) ?_
      refine v_sub (ls2 := [(0, bR _), (6, bI _), (7, bI _), (8, bJ _), (10, bJ _), (12, bI _), (13, bI _)]) [1, 2, 3, 4, 5, 6, 0] rfl ?_
      exact h
    · replace h := b_wp_t c31 h
      obtain ⟨g33, h⟩ := b_wp_g h
      refine v_aload_n (f := 0) 0 rfl dX12_join_238 ?_
      refine v_getR (kf := 23) (kz := 23) rfl kd_11 rfl ⟨by decide, by decide⟩ rfl wf_12_42 dX12_join_239 ?_
      refine v_iload (i := 13) 6 rfl dX12_join_242 ?_
      refine v_iload (i := 6) 1 rfl dX12_join_244 ?_
      refine v_iastore kd_171 g33 (by decide) dX12_join_246 ?_
      replace h := b_wp_l h
      obtain ⟨g35, h⟩ := b_wp_g h
      refine v_iincN (ls' := [(13, bI _), (0, bR _), (6, bI _), (7, bI _), (8, bJ _), (10, bJ _), (12, bI _)]) 6 rfl (by decide) g35 dX12_join_247 rfl ?_
      refine v_goto (tgt := 217) dX12_join_250 (by decide) ?_
      refine v_sub (ls2 := [(0, bR _), (6, bI _), (7, bI _), (8, bJ _), (10, bJ _), (12, bI _), (13, bI _)]) [1, 2, 3, 4, 5, 6, 0] rfl ?_
      exact h
theorem l_X12_join_217 {l : Launch} {E : bE} {Q : (Int × bM) → Prop} {v6 : Int} {v7 : Int} {v8 : Int} {v10 : Int} {v12 : Int} {s : Int × bM} (h : b_wp (b_loop (fun t => F_X12_join_s217 v6 v7 v8 v10 v12 t.1 t.2) s) (X_X12_join_217 l E Q v6 v7 v8 v10 v12)) : A_X12_join_217 l E Q v6 v7 v8 v10 v12 s := b_loop_wp (fun t h => t_X12_join_s217 h) s h
noncomputable def F_X12_join_b253 (v6 : Int) (v7 : Int) (v10 : Int) (v12 : Int) (M : bM) : Option (Int × bM) :=
  b_bind (F_X12_add v7 v6 v10 M) (fun t => b_two t (fun x36 M37 => b_g ((b_i32 (v12 - v7)) ∧ (0 ≤ x36 ∧ x36 < 60)) (b_let (b_up M37 173 x36 (v12 - v7)) (fun M40 => some (x36, M40)))))
theorem t_X12_join_b253 {l : Launch} {E : bE} {Q : (Int × bM) → Prop} {v6 : Int} {v7 : Int} {v10 : Int} {v12 : Int} {M : bM} (h : b_wp (F_X12_join_b253 v6 v7 v10 v12 M) (Q)) : V l E xX12_join (0, 0) 253 [(0, bR 11), (6, bI v6), (7, bI v7), (10, bJ v10), (12, bI v12)] [] M (b_pI Q) := by
  unfold F_X12_join_b253 at h
  refine v_aload_n (f := 0) 0 rfl dX12_join_253 ?_
  refine v_iload (i := 7) 2 rfl dX12_join_254 ?_
  refine v_iload (i := 6) 1 rfl dX12_join_256 ?_
  refine v_lload (i := 10) 3 rfl dX12_join_258 ?_
  refine v_cVI (nA := 3) (As := [bI _, bI _, bJ _]) (ix := 381) (cf_X12_add (b_wp_b h)) rfl kd_11 rfl rfl wc_X12_add wm_12_381 wi_X12_add ws_X12_add wn_12 ⟨by decide, by decide, by decide⟩ rfl ⟨by decide, by decide⟩ ⟨by decide, by decide⟩ (Nat.le_of_ble_eq_true rfl) dX12_join_260 (fun x36 M37 h => ?_)
  replace h := b_wp_two h
  obtain ⟨⟨g38, g39⟩, h⟩ := b_wp_g h
  refine v_istore (i := 13) (ls' := [(13, bI _), (0, bR _), (6, bI _), (7, bI _), (10, bJ _), (12, bI _)]) (by decide) dX12_join_263 rfl ?_
  refine v_aload_n (f := 0) 1 rfl dX12_join_265 ?_
  refine v_getR (kf := 25) (kz := 25) rfl kd_11 rfl ⟨by decide, by decide⟩ rfl wf_12_48 dX12_join_266 ?_
  refine v_iload (i := 13) 0 rfl dX12_join_269 ?_
  refine v_iload (i := 12) 5 rfl dX12_join_271 ?_
  refine v_iload (i := 7) 3 rfl dX12_join_273 ?_
  refine v_isubN g38 dX12_join_275 ?_
  refine v_iastore kd_173 g39 (by decide) dX12_join_276 ?_
  replace h := b_wp_l h
  refine v_iload (i := 13) 0 rfl dX12_join_277 ?_
  refine v_ireturn rfl dX12_join_279 ⟨by decide, by decide⟩ ?_
  exact ⟨_, rfl, h⟩
noncomputable def F_X12_join_b202 (v6 : Int) (v7 : Int) (v8 : Int) (v10 : Int) (v12 : Int) (M : bM) : Option (Int × bM) :=
  if (M 11 20) = 60 then (some ((-3), M)) else (b_bind (b_loop (fun t => F_X12_join_s217 v6 v7 v8 v10 v12 t.1 t.2) (0, M)) (fun t => F_X12_join_b253 v6 v7 v10 v12 t))
theorem t_X12_join_b202 {l : Launch} {E : bE} {Q : (Int × bM) → Prop} {v6 : Int} {v7 : Int} {v8 : Int} {v10 : Int} {v12 : Int} {M : bM} (h : b_wp (F_X12_join_b202 v6 v7 v8 v10 v12 M) (Q)) : V l E xX12_join (0, 0) 202 [(0, bR 11), (6, bI v6), (7, bI v7), (8, bJ v8), (10, bJ v10), (12, bI v12)] [] M (b_pI Q) := by
  unfold F_X12_join_b202 at h
  refine v_aload_n (f := 0) 0 rfl dX12_join_202 ?_
  refine v_getI (kf := 20) (kz := 20) rfl kd_11 rfl ⟨by decide, by decide⟩ rfl wf_12_374 dX12_join_203 ?_
  refine v_bipush ⟨by decide, by decide⟩ (by decide) dX12_join_206 ?_
  refine v_icmp_ne (tgt := 214) dX12_join_208 (by decide) (fun c29 => ?_) (fun c29 => ?_)
  · replace h := b_wp_f c29 h
    refine v_iconst ⟨by decide, by decide⟩ dX12_join_214 ?_
    refine v_istore (i := 13) (ls' := [(13, bI _), (0, bR _), (6, bI _), (7, bI _), (8, bJ _), (10, bJ _), (12, bI _)]) (by decide) dX12_join_215 rfl ?_
    refine v_sub (ls2 := [(0, bR _), (6, bI _), (7, bI _), (8, bJ _), (10, bJ _), (12, bI _), (13, bI _)]) [1, 2, 3, 4, 5, 6, 0] rfl ?_
    refine l_X12_join_217 (b_wp_m (fun t h => ?_) (b_wp_b h))
    show V l E xX12_join (0, 0) 253 [(0, bR 11), (6, bI _), (7, bI _), (10, bJ _), (12, bI _)] [] _ (b_pI Q)
    exact t_X12_join_b253 h
  · replace h := b_wp_t c29 h
    refine v_bipush ⟨by decide, by decide⟩ (by decide) dX12_join_211 ?_
    refine v_ireturn rfl dX12_join_213 ⟨by decide, by decide⟩ ?_
    exact ⟨_, rfl, h⟩
noncomputable def F_X12_join_b113 (v6 : Int) (v7 : Int) (v8 : Int) (M : bM) : Option (Int × bM) :=
  b_bind (b_loop (fun t => F_X12_join_s122 v6 v7 v8 t.1 t.2.1 t.2.2 M) (0, 0, 0)) (Sum.elim (fun t => F_X12_join_b202 v6 v7 v8 (t.1) (t.2) M) some)
theorem t_X12_join_b113 {l : Launch} {E : bE} {Q : (Int × bM) → Prop} {v6 : Int} {v7 : Int} {v8 : Int} {M : bM} (h : b_wp (F_X12_join_b113 v6 v7 v8 M) (Q)) : V l E xX12_join (0, 0) 113 [(0, bR 11), (6, bI v6), (7, bI v7), (8, bJ v8)] [] M (b_pI Q) := by
  unfold F_X12_join_b113 at h
  refine v_lconst0 dX12_join_113 ?_
  refine v_lstore (i := 10) (ls' := [(10, bJ _), (0, bR _), (6, bI _), (7, bI _), (8, bJ _)]) (by decide) dX12_join_114 rfl ?_
  refine v_iconst ⟨by decide, by decide⟩ dX12_join_116 ?_
  refine v_istore (i := 12) (ls' := [(12, bI _), (10, bJ _), (0, bR _), (6, bI _), (7, bI _), (8, bJ _)]) (by decide) dX12_join_117 rfl ?_
  refine v_iconst ⟨by decide, by decide⟩ dX12_join_119 ?_
  refine v_istore (i := 13) (ls' := [(13, bI _), (12, bI _), (10, bJ _), (0, bR _), (6, bI _), (7, bI _), (8, bJ _)]) (by decide) dX12_join_120 rfl ?_
  refine v_sub (ls2 := [(0, bR _), (6, bI _), (7, bI _), (8, bJ _), (10, bJ _), (12, bI _), (13, bI _)]) [3, 4, 5, 6, 2, 1, 0] rfl ?_
  refine l_X12_join_122 (b_wp_m (fun t h => ?_) (b_wp_b h))
  cases t with
  | inr o => exact h
  | inl t =>
    show V l E xX12_join (0, 0) 202 [(0, bR 11), (6, bI _), (7, bI _), (8, bJ _), (10, bJ _), (12, bI _)] [] _ (b_pI Q)
    replace h := b_wp_inl h
    exact t_X12_join_b202 h
noncomputable def F_X12_join (v1 : Int) (v2 : Int) (v3 : Int) (v4 : Int) (v5 : Int) (v6 : Int) (v7 : Int) (M : bM) : Option (Int × bM) :=
  b_bind (F_X12_in v1 2 4 M) (fun x1 => if x1 = 0 then (some ((-2), M)) else (b_bind (F_X12_isDay v6 M) (fun x3 => if x3 = 0 then (some ((-2), M)) else (b_bind (F_X12_isFeet v7 M) (fun x5 => if x5 = 0 then (some ((-2), M)) else (b_bind (b_loop (fun t => F_X12_join_s34 v1 v2 v3 v4 v5 v6 v7 t.1 t.2 M) (0, 0)) (Sum.elim (fun t => F_X12_join_b113 v6 v7 t M) some)))))))
theorem t_X12_join {l : Launch} {E : bE} {Q : (Int × bM) → Prop} {v1 : Int} {v2 : Int} {v3 : Int} {v4 : Int} {v5 : Int} {v6 : Int} {v7 : Int} {M : bM} (h : b_wp (F_X12_join v1 v2 v3 v4 v5 v6 v7 M) (Q)) : V l E xX12_join (0, 0) 0 [(0, bR 11), (1, bI v1), (2, bI v2), (3, bI v3), (4, bI v4), (5, bI v5), (6, bI v6), (7, bI v7)] [] M (b_pI Q) := by
  unfold F_X12_join at h
  refine v_iload_n (f := 1) 1 rfl dX12_join_0 ?_
  refine v_iconst ⟨by decide, by decide⟩ dX12_join_1 ?_
  refine v_iconst ⟨by decide, by decide⟩ dX12_join_2 ?_
  refine v_cSIp (nA := 3) (As := [bI _, bI _, bI _]) (ix := 279) (cf_X12_in (b_wp_b h)) rfl wc_X12_in wm_12_279 wi_X12_in wn_12 ⟨by decide, by decide, by decide⟩ rfl ⟨by decide, by decide⟩ ⟨by decide, by decide⟩ (Nat.le_of_ble_eq_true rfl) dX12_join_3 (fun x1 h => ?_)
  refine v_if_eq (tgt := 25) dX12_join_6 (by decide) (fun c2 => ?_) (fun c2 => ?_)
  · replace h := b_wp_t c2 h
    refine v_bipush ⟨by decide, by decide⟩ (by decide) dX12_join_25 ?_
    refine v_ireturn rfl dX12_join_27 ⟨by decide, by decide⟩ ?_
    exact ⟨_, rfl, h⟩
  · replace h := b_wp_f c2 h
    refine v_iload (i := 6) 6 rfl dX12_join_9 ?_
    refine v_cSIp (nA := 1) (As := [bI _]) (ix := 347) (cf_X12_isDay (b_wp_b h)) rfl wc_X12_isDay wm_12_347 wi_X12_isDay wn_12 ⟨by decide, by decide, by decide⟩ rfl ⟨by decide, by decide⟩ ⟨by decide, by decide⟩ (Nat.le_of_ble_eq_true rfl) dX12_join_11 (fun x3 h => ?_)
    refine v_if_eq (tgt := 25) dX12_join_14 (by decide) (fun c4 => ?_) (fun c4 => ?_)
    · replace h := b_wp_t c4 h
      refine v_bipush ⟨by decide, by decide⟩ (by decide) dX12_join_25 ?_
      refine v_ireturn rfl dX12_join_27 ⟨by decide, by decide⟩ ?_
      exact ⟨_, rfl, h⟩
    · replace h := b_wp_f c4 h
      refine v_iload (i := 7) 7 rfl dX12_join_17 ?_
      refine v_cSIp (nA := 1) (As := [bI _]) (ix := 378) (cf_X12_isFeet (b_wp_b h)) rfl wc_X12_isFeet wm_12_378 wi_X12_isFeet wn_12 ⟨by decide, by decide, by decide⟩ rfl ⟨by decide, by decide⟩ ⟨by decide, by decide⟩ (Nat.le_of_ble_eq_true rfl) dX12_join_19 (fun x5 h => ?_)
      refine v_if_ne (tgt := 28) dX12_join_22 (by decide) (fun c6 => ?_) (fun c6 => ?_)
      · replace h := b_wp_f c6 h
        refine v_lconst0 dX12_join_28 ?_
        refine v_lstore (i := 8) (ls' := [(8, bJ _), (0, bR _), (1, bI _), (2, bI _), (3, bI _), (4, bI _), (5, bI _), (6, bI _), (7, bI _)]) (by decide) dX12_join_29 rfl ?_
        refine v_iconst ⟨by decide, by decide⟩ dX12_join_31 ?_
        refine v_istore (i := 10) (ls' := [(10, bI _), (8, bJ _), (0, bR _), (1, bI _), (2, bI _), (3, bI _), (4, bI _), (5, bI _), (6, bI _), (7, bI _)]) (by decide) dX12_join_32 rfl ?_
        refine v_sub (ls2 := [(0, bR _), (1, bI _), (2, bI _), (3, bI _), (4, bI _), (5, bI _), (6, bI _), (7, bI _), (8, bJ _), (10, bI _)]) [2, 3, 4, 5, 6, 7, 8, 9, 1, 0] rfl ?_
        refine l_X12_join_34 (b_wp_m (fun t h => ?_) (b_wp_b h))
        cases t with
        | inr o => exact h
        | inl t =>
          show V l E xX12_join (0, 0) 113 [(0, bR 11), (6, bI _), (7, bI _), (8, bJ _)] [] _ (b_pI Q)
          replace h := b_wp_inl h
          exact t_X12_join_b113 h
      · replace h := b_wp_t c6 h
        refine v_bipush ⟨by decide, by decide⟩ (by decide) dX12_join_25 ?_
        refine v_ireturn rfl dX12_join_27 ⟨by decide, by decide⟩ ?_
        exact ⟨_, rfl, h⟩
theorem cf_X12_join {l : Launch} {E : bE} {M : bM} {v1 : Int} {v2 : Int} {v3 : Int} {v4 : Int} {v5 : Int} {v6 : Int} {v7 : Int} {Q : (Int × bM) → Prop} (h : b_wp (F_X12_join v1 v2 v3 v4 v5 v6 v7 M) Q) : b_C l E xX12_join yX12_join [bR 11, bI v1, bI v2, bI v3, bI v4, bI v5, bI v6, bI v7] M (b_pI Q) := b_met (by decide) ⟨rfl, rfl⟩ (Nat.le_of_ble_eq_true rfl) (fun _ _ => t_X12_join h)
